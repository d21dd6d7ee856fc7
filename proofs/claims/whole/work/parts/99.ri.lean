/-! ===== the reference: what is chosen is learnt by who counted it ===== -/
theorem tell_eq {S : Sx} {r : Nat} {R : Rp} : y_tell (S.set r R) r = (S.sets (y_sesT (S.set r R) r)).set r ((if R.1 43 ≤ R.1 7 then (R.u 43 0).u 44 0 else R).q (R.2.1.filter (fun q => !y_known (S.set r R) r q))) := by
  have : y_tell (S.set r R) r = ((S.set r R).set r ((if ((S.set r R).rp r).1 43 ≤ ((S.set r R).rp r).1 7 then (((S.set r R).rp r).u 43 0).u 44 0 else (S.set r R).rp r).q (((S.set r R).rp r).2.1.filter (fun q => !y_known (S.set r R) r q)))).sets (y_sesT (S.set r R) r) := rfl
  rw [this, set_rp, set_set]; rfl
theorem learn_t {S : Sx} {r q : Nat} {R : Rp} (h : (y_learn (S.set r R) r q).2 = true) : ∃ (S' : Sx) (R' : Rp), (y_learn (S.set r R) r q).1 = S'.set r R' ∧ S'.fl = S.fl ∧ (∀ f, f < 12 → S'.1 f = S.1 f) ∧ R'.1 7 = R.1 7 + 1 ∧ (Cx S → OkR S R → R.1 7 + 2 < 29990 → R.1 32 + 1 < 65536 → Cx S' ∧ OkR S' R') := by
  cases c : (y_note (S.set r R) r (3, 0, 0, q, 0)).2
  · rw [learn_eq0 c] at h
    exact absurd (show false = true from h) (by decide)
  · obtain ⟨R', eR, f1, f2, f3, f4, f5⟩ := note_t c
    have el := learnt_eq (S := S) (r := r) (q := q) (R := R')
    have hS2 : ∀ f, f < 12 → (S.log (max S.ll (R'.1 7 + 1)) (if S.ll < R'.1 7 + 1 then va_up S.lg (R'.1 7 + 1) q else S.lg)).1 f = S.1 f := fun f hf => va_up_ne _ _ (by omega)
    have hC2 : Cx S → Cx (S.log (max S.ll (R'.1 7 + 1)) (if S.ll < R'.1 7 + 1 then va_up S.lg (R'.1 7 + 1) q else S.lg)) := fun hC => hC.log _ _
    have hF2 : (S.log (max S.ll (R'.1 7 + 1)) (if S.ll < R'.1 7 + 1 then va_up S.lg (R'.1 7 + 1) q else S.lg)).fl = S.fl := rfl
    generalize S.log (max S.ll (R'.1 7 + 1)) (if S.ll < R'.1 7 + 1 then va_up S.lg (R'.1 7 + 1) q else S.lg) = S2 at el hS2 hC2 hF2
    cases c2 : (y_ckp (y_learnt (S.set r R') r q) r).2
    · rw [learn_eq1 c eR c2] at h
      exact absurd (show false = true from h) (by decide)
    · rw [el] at c2
      obtain ⟨R3, e3, k1, k2, k3, k4⟩ := ckp_t c2
      rw [learn_eq2 c eR (by rw [el]; exact c2) (by rw [el]; exact e3), tell_eq]
      have f7 : R'.1 7 = R.1 7 := f1 7 (by decide) (by decide) (by decide)
      have f8 : R'.1 8 = R.1 8 := f1 8 (by decide) (by decide) (by decide)
      have f9 : R'.1 9 = R.1 9 := f1 9 (by decide) (by decide) (by decide)
      have f32 : R'.1 32 = R.1 32 := f1 32 (by decide) (by decide) (by decide)
      have g7 : R3.1 7 = R.1 7 + 1 := by rw [← f7]; exact k1 7 (by decide) (by decide) (by decide) (by decide) (by decide)
      refine ⟨_, _, rfl, hF2, hS2, ?_, fun hC hO h7 h32 => ?_⟩
      · rw [← g7]
        show (if _ ≤ _ then (Rp.u _ 43 0).u 44 0 else _ : Rp).1 7 = _
        split <;> split <;> split <;> rfl
      · have hV1 : 1 ≤ S.V := hC.2.2.1
        have hL1 : 1 ≤ S.L := hC.2.2.2.2.1
        obtain ⟨o1, o2, o3, o4, o5, o6, o7, o8, o9⟩ := hO
        have z : 0 < S.1 4 := by have : R.1 12 < S.1 4 := o1 12; omega
        have hn : NbOk (3, 0, 0, q, 0) := ⟨(by decide : 1 ≤ 3), (by decide : 3 ≤ 5), (by decide : 0 < 2 ^ 31), (by decide : 0 < 2 ^ 31), (by decide : 0 < 2 ^ 31)⟩
        have hJ' : JR R' := note_J o2 o3 (rec_len hC hn) f1 f2 f4 f5
        have p1 : ∀ f, okw S f ((((((R'.u 7 (R'.1 7 + 1)).u 8 (max (R'.1 8) (R'.1 7 + 1 - S.V))).u 9 (max (R'.1 9) (R'.1 7 + 1 - S.L))).u 11 0).u 12 0).1 f) := by
          intro f
          by_cases c12 : f = 12
          · subst c12; exact z
          · by_cases c11 : f = 11
            · subst c11; exact (show 0 < 65536 by decide)
            · by_cases c7 : f = 7
              · subst c7; trivial
              · by_cases c8 : f = 8
                · subst c8; trivial
                · by_cases c9 : f = 9
                  · subst c9; trivial
                  · rw [u_n _ _ c12, u_n _ _ c11, u_n _ _ c9, u_n _ _ c8, u_n _ _ c7]
                    by_cases c1 : f = 31
                    · subst c1; trivial
                    · by_cases c4 : f = 34
                      · subst c4; trivial
                      · by_cases c5 : f = 35
                        · subst c5; trivial
                        · rw [f1 f c1 c4 c5]; exact o1 f
        generalize hR2 : ((((R'.u 7 (R'.1 7 + 1)).u 8 (max (R'.1 8) (R'.1 7 + 1 - S.V))).u 9 (max (R'.1 9) (R'.1 7 + 1 - S.L))).u 11 0).u 12 0 = R2 at p1 k1 k2 k3 k4
        have m7 : R2.1 7 = R.1 7 + 1 := by rw [← hR2, ← f7]; rfl
        have m8 : R2.1 8 = max (R.1 8) (R.1 7 + 1 - S.V) := by rw [← hR2, ← f7, ← f8]; rfl
        have m9 : R2.1 9 = max (R.1 9) (R.1 7 + 1 - S.L) := by rw [← hR2, ← f7, ← f9]; rfl
        have m32 : R2.1 32 = R.1 32 := by rw [← hR2, ← f32]; rfl
        have mq : R2.2.1 = R.2.1 := by rw [← hR2, ← f3]; rfl
        have mJ : JR R2 := by rw [← hR2]; exact hJ'
        have eV : S2.V = S.V := hS2 2 (by decide)
        have eL : S2.L = S.L := hS2 3 (by decide)
        have e4 : S2.1 4 = S.1 4 := hS2 4 (by decide)
        have p10 : R2.1 10 < 65536 := p1 10
        have p11 : R2.1 11 < 65536 := p1 11
        have p12 : R2.1 12 < S.1 4 := p1 12
        obtain ⟨j1, j2⟩ := k4 (hC2 hC) mJ ⟨by omega, by omega, by rw [eV]; omega, by omega, by omega, by omega⟩
        have okS : OkR S R3 := OkR_j k1 k2 p1 (by omega) j1 j2 ⟨by rw [mq]; exact o4.1, fun q hq => o4.2 q (by rw [← mq]; exact hq)⟩ (by omega) (by omega) (by omega) (by omega) (by omega)
        have ok4 : OkR S ((if R3.1 19 = 1 then y_follow R3 else R3).u 22 0) := by
          split
          · exact okS.f.u rfl z
          · exact okS.u rfl z
        generalize (if R3.1 19 = 1 then y_follow R3 else R3).u 22 0 = R4 at ok4 ⊢
        have ok5 : OkR S ((if R4.1 19 = 2 then R4.u 21 0 else R4).u 13 0) := by
          split
          · exact (ok4.u (f := 21) rfl (show 0 < 512 by decide)).u rfl (show 0 < 65536 by decide)
          · exact ok4.u rfl (show 0 < 65536 by decide)
        generalize (if R4.1 19 = 2 then R4.u 21 0 else R4).u 13 0 = R5 at ok5 ⊢
        have ok6 : OkR S (if R5.1 43 ≤ R5.1 7 then (R5.u 43 0).u 44 0 else R5) := by
          split
          · exact (ok5.u (f := 43) rfl (show 0 < 65536 by decide)).u rfl (show 0 < 16 by decide)
          · exact ok5
        have hq6 : (if R5.1 43 ≤ R5.1 7 then (R5.u 43 0).u 44 0 else R5).2.1 = R5.2.1 := by split <;> rfl
        refine ⟨((hC2 hC).set r R5).sesT r, OkR.c (S := S) (ok6.q ⟨?_, fun x hx => ?_⟩) hS2⟩
        · exact Nat.le_trans (List.length_filter_le _ _) ok5.2.2.2.1.1
        · exact ok5.2.2.2.1.2 x (List.mem_filter.mp hx).1
theorem gd_0 {S : Sx} {r t b s : Nat} {R : Rp} (c : ¬ (R.1 19 = 2 ∧ R.1 20 = b ∧ ¬ R.1 22 = 0 ∧ s = R.1 7 + 1 ∧ ¬ (R.1 21).testBit t)) : y_gotAccepted (S.set r R) r t b s = S.set r R := by
  unfold y_gotAccepted
  rw [set_rp]
  exact if_neg c
theorem gd_1 {S : Sx} {r t b s : Nat} {R : Rp} (c : R.1 19 = 2 ∧ R.1 20 = b ∧ ¬ R.1 22 = 0 ∧ s = R.1 7 + 1 ∧ ¬ (R.1 21).testBit t) : y_gotAccepted (S.set r R) r t b s = if S.N < 2 * y_count S.N (R.1 21 ||| 2 ^ t) then (if (y_learn (y_sendAll (S.set r (R.u 21 (R.1 21 ||| 2 ^ t))) 5 r 0 s (R.1 22)) r (R.1 22)).2 = true then (y_propose (y_learn (y_sendAll (S.set r (R.u 21 (R.1 21 ||| 2 ^ t))) 5 r 0 s (R.1 22)) r (R.1 22)).1 r).1 else (y_learn (y_sendAll (S.set r (R.u 21 (R.1 21 ||| 2 ^ t))) 5 r 0 s (R.1 22)) r (R.1 22)).1) else S.set r (R.u 21 (R.1 21 ||| 2 ^ t)) := by
  unfold y_gotAccepted
  rw [set_rp]
  refine (if_pos c).trans ?_
  show (if S.N < 2 * y_count S.N (R.1 21 ||| 2 ^ t) then (if (y_learn (y_sendAll ((S.set r R).set r (R.u 21 (R.1 21 ||| 2 ^ t))) 5 r 0 s (R.1 22)) r (R.1 22)).2 = true then (y_propose (y_learn (y_sendAll ((S.set r R).set r (R.u 21 (R.1 21 ||| 2 ^ t))) 5 r 0 s (R.1 22)) r (R.1 22)).1 r).1 else (y_learn (y_sendAll ((S.set r R).set r (R.u 21 (R.1 21 ||| 2 ^ t))) 5 r 0 s (R.1 22)) r (R.1 22)).1) else (S.set r R).set r (R.u 21 (R.1 21 ||| 2 ^ t))) = _
  rw [set_set]
theorem send_fl {S : Sx} {m x : Mg} (h : x ∈ (y_send S m).fl) : x ∈ S.fl ∨ x = m := by
  unfold y_send at h
  split at h
  · exact Or.inl h
  · have h' : x ∈ S.fl ++ [m] := h
    rcases List.mem_append.mp h' with h' | h'
    · exact Or.inl h'
    · exact Or.inr (List.mem_singleton.mp h')
theorem sendL_fl {kd r b s q : Nat} {x : Mg} : ∀ (ts : List Nat) (S : Sx), x ∈ (y_sendL kd r b s q ts S).fl → x ∈ S.fl ∨ ∃ t, t ∈ ts ∧ t ≠ r ∧ x = y_msg kd r t b s q 0 0 := by
  intro ts
  induction ts with
  | nil => intro S h; exact Or.inl h
  | cons a ts ih =>
    intro S h
    rcases ih _ h with h | ⟨t, h1, h2⟩
    · by_cases e : a = r
      · rw [if_pos e] at h; exact Or.inl h
      · rw [if_neg e] at h
        rcases send_fl h with h | h
        · exact Or.inl h
        · exact Or.inr ⟨a, List.mem_cons_self .., e, h⟩
    · exact Or.inr ⟨t, List.mem_cons_of_mem _ h1, h2⟩
theorem LgOk_sendL {kd r b s q : Nat} {ts : List Nat} {S : Sx} (h : LgOk S) (hk : kd ≠ 8) : LgOk (y_sendL kd r b s q ts S) := by
  obtain ⟨a1, a2, a3, a4, a5, a6⟩ := sendL_o kd r b s q ts S
  have el : (y_sendL kd r b s q ts S).ll = S.ll := a5 100 (by decide) (by decide)
  refine ⟨fun k hk => ?_, fun m hm e => ?_⟩
  · rw [a1, el]; exact h.1 k hk
  · rw [el]
    rcases sendL_fl ts S hm with hm | ⟨t, _, _, rfl⟩
    · exact h.2 m hm e
    · exact absurd (show kd = 8 from e) hk
theorem r_gotAccepted {M : vM} {S : Sx} {r t b s : Nat} {R : Rp} (hC : Cx S) (h : WM M (S.set r R)) (hr : r < 9) (ht : t < 9) (hfl : S.fl.length ≤ 200) (hO : OkR S R) (hb : b < 65536) (hs : s < 65536) (hL : LgOk (S.set r R)) (h7' : R.1 7 + 2 < 29990) (h32 : R.1 32 + 1 < 65536) (hlg : R.1 19 = 2 → R.1 20 = b → ¬ R.1 22 = 0 → s = R.1 7 + 1 → ¬ (R.1 21).testBit t → S.N < 2 * y_count S.N (R.1 21 ||| 2 ^ t) → R.1 7 + 1 ≤ S.ll → S.lg (R.1 7 + 1) = R.1 22) : tr (F_X12_gotAccepted M (nI r) (nI t) (nI b) (nI s)) (fun M' => WM M' (y_gotAccepted (S.set r R) r t b s)) := by
  have h7 := hO.2.2.2.2.1
  have h19 := okv hO 19 (by decide)
  have h20 := okv hO 20 (by decide)
  have h21 : R.1 21 < 512 := hO.1 21
  have h22 : R.1 22 < S.1 4 := hO.1 22
  have hnr := hC.nr
  have hN := hC.N
  unfold F_X12_gotAccepted
  refine tr_Gr h hr rfl ?_
  refine tr_eq (b := 2) (by omega) (by decide) (fun c1 => ?_) (fun c1 => by rw [gd_0 (fun x => c1 x.1)]; exact tr_some h)
  refine tr_Gr h hr rfl ?_
  refine tr_eq (by omega) (by omega) (fun c2 => ?_) (fun c2 => by rw [gd_0 (fun x => c2 x.2.1)]; exact tr_some h)
  refine tr_Gr h hr rfl ?_
  refine tr_eq (b := 0) (by omega) (by decide) (fun c3 => by rw [gd_0 (fun x => x.2.2.1 c3)]; exact tr_some h) (fun c3 => ?_)
  refine tr_Gr h hr rfl ?_
  rw [nI_add1]
  refine tr_eq (by omega) (by omega) (fun c4 => ?_) (fun c4 => by rw [gd_0 (fun x => c4 x.2.2.2.1)]; exact tr_some h)
  refine tr_Gr h hr rfl ?_
  rw [bitk (by omega) ht]
  refine tr_ne (fun c5 => ?_) (fun c5 => by rw [gd_0 (fun x => x.2.2.2.2 c5)]; exact tr_some h)
  rw [gd_1 ⟨c1, c2, c3, c4, c5⟩]
  have h21' := or512 h21 ht
  have o1 : OkR S (R.u 21 (R.1 21 ||| 2 ^ t)) := hO.u rfl h21'
  refine tr_Gr h hr rfl ?_
  rw [orb ht]
  refine tr_Sr _ h hr rfl (by decide) (by decide) (by decide) fun M1 w1 => ?_
  refine tr_Gr w1 hr rfl ?_
  show tr (b2 (F_X12_count M1 (nI (R.1 21 ||| 2 ^ t))) _) _
  rw [r_count (hC.set r _) w1 (by omega), b2_]
  show tr (if (2 : Int32) * nI (y_count S.N (R.1 21 ||| 2 ^ t)) ≤ M1.1 1 then _ else _) _
  have hc := cnt_le S.N (R.1 21 ||| 2 ^ t)
  rw [show M1.1 1 = nI S.N from w1.1 1 rfl, show (2 : Int32) * nI (y_count S.N (R.1 21 ||| 2 ^ t)) = nI (2 * y_count S.N (R.1 21 ||| 2 ^ t)) from nI_mul 2 _]
  refine tr_le (by omega) (by omega) (fun c6 => by rw [if_neg (by omega)]; exact tr_some w1) (fun c6 => ?_)
  rw [if_pos c6]
  refine tr_Gr w1 hr rfl ?_
  refine tr_bind (r_sendAll (kd := 5) (b := 0) (q := R.1 22) (hC.set r _) w1 hfl hr (by omega) rfl rfl rfl rfl) fun M2 w2 => ?_
  show tr (b2 (F_X12_learn M2 (nI r) (nI (R.1 22))) _) _
  obtain ⟨a1, a2, a3, a4, a5, a6⟩ := sendL_o 5 r 0 s (R.1 22) (List.range' 0 S.N) (S.set r (R.u 21 (R.1 21 ||| 2 ^ t)))
  have hL' : LgOk (y_sendAll (S.set r (R.u 21 (R.1 21 ||| 2 ^ t))) 5 r 0 s (R.1 22)) := by
    refine LgOk_sendL (S := S.set r (R.u 21 (R.1 21 ||| 2 ^ t))) ⟨fun k hk => ?_, hL.2⟩ (by decide)
    by_cases e : k = r
    · subst e
      have := hL.1 k hk
      rw [set_rp] at this ⊢
      exact this
    · have := hL.1 k hk
      rw [set_ne _ _ e] at this ⊢
      exact this
  have ea : y_sendAll (S.set r (R.u 21 (R.1 21 ||| 2 ^ t))) 5 r 0 s (R.1 22) = y_sendL 5 r 0 s (R.1 22) (List.range' 0 S.N) (S.set r (R.u 21 (R.1 21 ||| 2 ^ t))) := rfl
  rw [ea] at w2 hL' ⊢
  generalize y_sendL 5 r 0 s (R.1 22) (List.range' 0 S.N) (S.set r (R.u 21 (R.1 21 ||| 2 ^ t))) = S2 at w2 hL' a1 a2 a3 a4 a5 a6 ⊢
  have e2 : S2.set r (R.u 21 (R.1 21 ||| 2 ^ t)) = S2 := by
    have : S2.rp r = R.u 21 (R.1 21 ||| 2 ^ t) := by rw [a1, set_rp]
    rw [← this, set_id]
  rw [← e2] at w2 hL'
  have a5' : ∀ f, f < 12 → S2.1 f = S.1 f := fun f hf => a5 f (by omega) (by omega)
  have hC2 : Cx S2 := Cx_c hC a5' a2 a4
  have o2 := OkR.c o1 a5'
  have e22 : (R.u 21 (R.1 21 ||| 2 ^ t)).1 22 = R.1 22 := rfl
  have e7 : (R.u 21 (R.1 21 ||| 2 ^ t)).1 7 = R.1 7 := rfl
  have e32 : (R.u 21 (R.1 21 ||| 2 ^ t)).1 32 = R.1 32 := rfl
  have hll : S2.ll = S.ll := a5 100 (by decide) (by decide)
  have hfl2 := a6 hfl
  have e4 : S2.1 4 = S.1 4 := a5' 4 (by decide)
  rw [← e2]
  have hlg2 : R.1 7 + 1 ≤ S.ll → S.lg (R.1 7 + 1) = R.1 22 := hlg c1 c2 c3 c4 c5 c6
  rw [← e7] at hlg2 h7'
  rw [← e32] at h32
  rw [← e22] at hlg2 c3 h22 ⊢
  generalize R.u 21 (R.1 21 ||| 2 ^ t) = R1 at w2 hL' o2 hlg2 h7' h32 c3 h22 e22 ⊢
  refine tr_b2 (r_learn (S := S2) (R := R1) hC2 w2 hr o2.2.1 o2.2.2.1 o2.b o2.x o2.g (by omega) (by omega) hL' (by rw [hll, show S2.lg = S.lg from a3]; exact hlg2) o2.2.2.2.1 (by have : R1.1 19 ≤ 2 := o2.1 19; omega)) fun M3 v hv => ?_
  obtain ⟨q1, w3⟩ := hv
  dsimp only at q1 w3
  rw [q1]
  refine tr_if (fun c => ?_) (fun c => ?_)
  · rw [if_neg (by rw [c]; decide)]
    exact tr_some w3
  · rw [if_pos c]
    obtain ⟨S3, R3, e3, l1, l2, l3, l4⟩ := learn_t c
    obtain ⟨hC3, o3⟩ := l4 hC2 o2 h7' h32
    rw [e3] at w3 ⊢
    have k20 := okv o3 20 (by decide)
    refine tr_b2 (r_propose (S := S3.set r R3) (hC3.set r R3) w3 hr (by show S3.fl.length ≤ 200; rw [l1]; exact hfl2) (by rw [set_rp]; exact o3.2.1) (by rw [set_rp]; exact o3.2.2.1) (by rw [set_rp]; exact o3.b) (by rw [set_rp]; exact o3.g) (by rw [set_rp]; omega) (by rw [set_rp]; exact o3.2.2.2.1)) fun M6 v hv => ?_
    split
    · exact tr_some hv.2
    · exact tr_some hv.2
