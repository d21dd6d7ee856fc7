/-! ===== the class counts answers ===== -/
set_option maxRecDepth 100000 in
theorem bc_9 {N : Nat} {c : vC} : ∀ a : Fin 512, F_J6_bitCount_0f7a4 N c (nI a.1) = some (c, nI (y_count 9 a.1)) := by
  intro a
  unfold F_J6_bitCount_0f7a4
  congr 2
  revert a
  decide +kernel
theorem cnt_N {n a : Nat} (hn : n ≤ 9) (ha : a < 2 ^ n) : y_count 9 a = y_count n a := by
  unfold y_count
  have e : List.range' 0 9 = List.range' 0 n ++ List.range' n (9 - n) := by
    rw [show 9 = n + (9 - n) by omega, ← List.range'_append]
    congr 2
    · omega
    · omega
  rw [e, List.countP_append]
  have z : (List.range' n (9 - n)).countP (fun k => a.testBit k) = 0 := by
    rw [List.countP_eq_zero]
    intro k hk
    rw [List.mem_range'_1] at hk
    rw [Nat.testBit_lt_two_pow (Nat.lt_of_lt_of_le ha (Nat.pow_le_pow_right (by decide) hk.1))]
    decide
  rw [z, Nat.add_zero]
theorem c_bc {N : Nat} {c : vC} {n a : Nat} (hn : n ≤ 9) (ha : a < 2 ^ n) : F_J6_bitCount_0f7a4 N c (nI a) = some (c, nI (y_count n a)) := by
  have h9 : a < 512 := Nat.lt_of_lt_of_le ha (Nat.pow_le_pow_right (by decide) hn)
  have := bc_9 (N := N) (c := c) ⟨a, h9⟩
  rw [this, cnt_N hn ha]
theorem or_lt {a t n : Nat} (ha : a < 2 ^ n) (ht : t < n) : a ||| 2 ^ t < 2 ^ n := Nat.or_lt_two_pow ha (Nat.pow_lt_pow_right (by decide) ht)
/-- who answered is counted in -/
theorem c_answer {mm : Kp} {N : Nat} {c : vC} {S : Sx} {r t : Nat} {R : Rp} {c1 c2 : Int32} (hC : Cx S) (h : WC mm c (S.set r R)) (hr : r < S.N) (h6 : R.1 6 = 1) (ht : t < S.N) (h21 : R.1 21 < 2 ^ S.N) (e1 : c1 = nI t) (e2 : c2 = nI S.N) : tr (F_X4_answer N c r c1 c2) (fun p => p.2 = (if S.N < 2 * y_count S.N (R.1 21 ||| 2 ^ t) then (1 : Int32) else 0) ∧ WC mm p.1 (S.set r (R.u 21 (R.1 21 ||| 2 ^ t)))) := by
  have hN := hC.N
  have hc := cnt_le S.N (R.1 21 ||| 2 ^ t)
  unfold F_X4_answer
  rw [WC_i h hr h6 (show sci 402 = some 21 from rfl), e1, e2, orb (by omega)]
  refine tr_uI _ h rfl fun c3 w3 => ?_
  have e21 : cI c3 402 r = nI (R.1 21 ||| 2 ^ t) := (WC_i w3 hr h6 (show sci 402 = some 21 from rfl)).trans (congrArg nI (u_s _ _ _))
  rw [e21, c_bc hN (or_lt h21 ht), b2_, show (2 : Int32) * nI (y_count S.N (R.1 21 ||| 2 ^ t)) = nI (2 * y_count S.N (R.1 21 ||| 2 ^ t)) from nI_mul 2 _]
  refine tr_le (by omega) (by omega) (fun c4 => by rw [if_neg (by omega)]; exact tr_z0 (tr_some ⟨rfl, w3⟩)) (fun c4 => by rw [if_pos c4]; exact tr_z1 (tr_some ⟨rfl, w3⟩))
theorem c_hasAns {mm : Kp} {N : Nat} {c : vC} {S : Sx} {r t : Nat} {R : Rp} {c1 : Int32} (h : WC mm c (S.set r R)) (hr : r < S.N) (h6 : R.1 6 = 1) (ht : t < 9) (h21 : R.1 21 < 2 ^ 31) (e1 : c1 = nI t) : F_X4_hasAnswer N c r c1 = some (c, if (R.1 21).testBit t = true then (1 : Int32) else 0) := by
  unfold F_X4_hasAnswer F_X11_isIn
  rw [WC_i h hr h6 (show sci 402 = some 21 from rfl), e1, bitk h21 ht]
  cases (R.1 21).testBit t
  · rfl
  · rfl
theorem gp2_eq {R : Rp} {t q o : Nat} : y_gp2 R t q o = (y_hear R q o).u 21 (R.1 21 ||| 2 ^ t) := by
  unfold y_gp2 y_hear
  by_cases c : 0 < q ∧ R.1 24 < o
  · rw [if_pos c, if_pos c, u_comm _ _ _ (show 21 ≠ 23 by decide), u_comm _ _ _ (show 21 ≠ 24 by decide)]
  · rw [if_neg c, if_neg c]
theorem hear_o {R : Rp} {q o f : Nat} (h1 : f ≠ 23) (h2 : f ≠ 24) : (y_hear R q o).1 f = R.1 f := by
  unfold y_hear
  split
  · rw [u_n _ _ h2, u_n _ _ h1]
  · rfl
theorem c_promised {mm : Kp} {N : Nat} {c : vC} {S : Sx} {r k : Nat} {m : Mg} {R : Rp} (hC : Cx S) (h : WC mm c (S.set r R)) (hr : r < S.N) (h6 : R.1 6 = 1) (hfl : S.fl.length ≤ 200) (hO : OkR S R) (hT : TlOk R) (h21 : R.1 21 < 2 ^ S.N) (hm : mm.1 = some (k, m)) (ht : m 1 < S.N) (hb : m 3 < 65536) (hs : m 4 < 65536) (hq : m 5 < S.1 4) (ho : m 6 < 65536) (hq6 : 0 < m 5 → 0 < m 6) : tr (b2 (F_X7_afterPromise N c r k) fun M5 v6 => (F_X7_propose N M5 r v6).bind fun M7 => some M7) (fun c' => WC mm c' (y_gotPromise (S.set r R) r (m 1) (m 3) (m 4) (m 5) (m 6))) := by
  have hN := hC.N
  have h7 := hO.2.2.2.2.1
  have h19 := okv hO 19 (by decide)
  have h20 := okv hO 20 (by decide)
  have h24 := okv hO 24 (by decide)
  have h21' : R.1 21 < 512 := hO.1 21
  refine tr_b2 (P := fun p => (p.2 = none ∧ WC mm p.1 (y_gotPromise (S.set r R) r (m 1) (m 3) (m 4) (m 5) (m 6))) ∨ ∃ R3 q a, p.2 = some a ∧ WC mm p.1 (S.set r R3) ∧ RqA p.1 a (S.tb q) ∧ 0 < q ∧ q < S.1 4 ∧ R3.1 6 = 1 ∧ OkR S R3 ∧ y_gotPromise (S.set r R) r (m 1) (m 3) (m 4) (m 5) (m 6) = y_proposeIt (S.set r R3) r q) ?_ fun M5 v6 hM => ?_
  · unfold F_X7_afterPromise
    rw [show (1 : Int32) = nI 1 from rfl, c_is h hr h6 (by omega) (by omega) (by decide) (by omega) (fr_i (f := 3) h hm (by decide)), b2_]
    refine tr_i1 (fun c1 => ?_) (fun c1 => ?_)
    · refine tr_some (Or.inl ⟨rfl, ?_⟩)
      rw [gp_0 (fun x => c1 ⟨x.1, x.2.1⟩)]; exact h
    · rw [fr_i (f := 4) h hm (by decide), WC_ix h hr h6, show nI (R.1 7) + nI 1 = nI (R.1 7 + 1) from nI_add _ 1]
      refine tr_eq (by omega) (by omega) (fun c2 => ?_) (fun c2 => ?_)
      · rw [c_hasAns h hr h6 (by omega) (by omega) (fr_i (f := 1) h hm (by decide)), b2_]
        refine tr_i1 (p := (R.1 21).testBit (m 1) = true) (fun c3 => ?_) (fun c3 => ?_)
        · rw [gp_1 ⟨c1.1, c1.2, c2, c3⟩, gp2_eq]
          refine tr_l1 ?_
          have hF := WC_fr h hm
          refine tr_bind (c_hear (q := m 5) (bal := m 6) h hr h6 hT hF.2.1 (fun hp => ⟨hq6 hp, hF.2.2.1⟩) (by omega) (by omega)) fun M6 w6 => ?_
          have g6 : (y_hear R (m 5) (m 6)).1 6 = 1 := (hear_o (by decide) (by decide)).trans h6
          have g21 : (y_hear R (m 5) (m 6)).1 21 = R.1 21 := hear_o (by decide) (by decide)
          have oH : OkR S (y_hear R (m 5) (m 6)) := by
            unfold y_hear
            split
            · exact (hO.u (f := 23) rfl hq).u (f := 24) rfl ho
            · exact hO
          rw [← g21]
          rw [← g21] at h21
          generalize y_hear R (m 5) (m 6) = H at w6 g6 oH h21 ⊢
          have h21'' : H.1 21 < 512 := oH.1 21
          refine tr_b2 (c_answer (t := m 1) hC w6 hr g6 ht h21 (fr_i (f := 1) w6 hm (by decide)) (WC_701 w6 hr)) fun M7 v7 hv => ?_
          obtain ⟨e7, w7⟩ := hv
          dsimp only at e7 w7
          rw [e7]
          have u21 : (H.u 21 (H.1 21 ||| 2 ^ m 1)).1 21 = H.1 21 ||| 2 ^ m 1 := u_s _ _ _
          rw [u21]
          have o2 : OkR S (H.u 21 (H.1 21 ||| 2 ^ m 1)) := oH.u rfl (or512 h21'' (by omega))
          have i6 : (H.u 21 (H.1 21 ||| 2 ^ m 1)).1 6 = 1 := g6
          generalize H.u 21 (H.1 21 ||| 2 ^ m 1) = R2 at w7 o2 i6 u21 ⊢
          refine tr_i1 (fun c5 => ?_) (fun c5 => ?_)
          · rw [if_neg c5]
            exact tr_some (Or.inl ⟨rfl, w7⟩)
          · rw [if_pos c5]
            unfold F_X4_lead
            refine tr_bind (P := fun c' => WC mm c' (S.set r ((R2.u 19 2).u 21 0))) ?_ fun M8 w8 => ?_
            · refine tr_uI 2 w7 rfl fun c8 w8 => ?_
              exact tr_uI 0 w8 rfl fun c9 w9 => tr_some w9
            · refine tr_uI 0 w8 rfl fun M9 w9 => ?_
              have o3 : OkR S (((R2.u 19 2).u 21 0).u 13 0) := ((o2.u (f := 19) rfl (Nat.le_refl 2)).u (f := 21) rfl (show 0 < 512 by decide)).u (f := 13) rfl (show 0 < 65536 by decide)
              have e23 : (((R2.u 19 2).u 21 0).u 13 0).1 23 = R2.1 23 := rfl
              have e6 : (((R2.u 19 2).u 21 0).u 13 0).1 6 = 1 := i6
              rw [← e23]
              generalize ((R2.u 19 2).u 21 0).u 13 0 = R3 at w9 o3 e23 e6 ⊢
              refine tr_l1 ?_
              have hp := WC_p w9 hr e6 (show pci 404 = some 23 from rfl)
              by_cases q0 : R3.1 23 = 0
              · rw [hp.1 q0, oc_n, if_neg (show ¬ 0 < R3.1 23 by omega)]
                refine tr_b2 (c_adv hC w9 hr e6 o3.2.2.2.1) fun M10 o hM => ?_
                rcases hM with ⟨d1, d2, d3⟩ | ⟨q, qs, a, d1, d2, d3, d4, d5, d6⟩
                · have ep : y_propose (S.set r R3) r = (S.set r R3, false) := by
                    unfold y_propose
                    rw [set_rp, d1]
                  rw [ep]
                  exact tr_some (Or.inl ⟨d2, d3⟩)
                · have ep : y_propose (S.set r R3) r = (y_proposeIt (S.set r (R3.q (q :: qs))) r q, true) := by
                    unfold y_propose
                    rw [set_rp, d1]
                    dsimp only
                    rw [set_set]
                  have hQ2 : QOk S (R3.q (q :: qs)) := by
                    have hsub : ∀ x, x ∈ q :: qs → x ∈ R3.2.1 := fun x hx => by rw [← d1] at hx; exact (List.dropWhile_sublist _).subset hx
                    refine ⟨?_, fun x hx => o3.2.2.2.1.2 x (hsub x hx)⟩
                    have := (List.dropWhile_sublist (l := R3.2.1) (fun q => y_known (S.set r R3) r q)).length_le
                    rw [d1] at this
                    exact Nat.le_trans this o3.2.2.2.1.1
                  rw [ep]
                  exact tr_some (Or.inr ⟨R3.q (q :: qs), q, a, d2, d5, d6, d3, d4, e6, o3.q hQ2, rfl⟩)
              · obtain ⟨a, ea, ha⟩ := hp.2 (by omega)
                rw [ea, oc_s, if_pos (show 0 < R3.1 23 by omega)]
                refine tr_l1 (tr_some (Or.inr ⟨R3, R3.1 23, a, rfl, w9, ha, by omega, o3.1 23, e6, o3, rfl⟩))
        · refine tr_some (Or.inl ⟨rfl, ?_⟩)
          rw [gp_0 (fun x => x.2.2.2 c3)]; exact h
      · refine tr_some (Or.inl ⟨rfl, ?_⟩)
        rw [gp_0 (fun x => c2 x.2.2.1)]; exact h
  · rcases hM with ⟨e, w⟩ | ⟨R3, q, a, e, w, ha, q0, hq', e6, o3, ey⟩
    · dsimp only at e w
      subst e
      unfold F_X7_propose
      rw [oc_n]
      exact tr_some w
    · dsimp only at e w ha
      subst e
      rw [ey]
      exact tr_bind (c_propose hC w hr e6 hfl o3 ha q0 hq') fun M6 w6 => tr_some w6
theorem learn_6 {S : Sx} {r q : Nat} {R : Rp} (h : (y_learn (S.set r R) r q).2 = true) : ((y_learn (S.set r R) r q).1.rp r).1 6 = R.1 6 := by
  cases c : (y_note (S.set r R) r (3, 0, 0, q, 0)).2
  · rw [learn_eq0 c] at h
    exact absurd (show false = true from h) (by decide)
  · obtain ⟨R', eR, f1, f2, f3, f4, f5⟩ := note_t c
    have el := learnt_eq (S := S) (r := r) (q := q) (R := R')
    cases c2 : (y_ckp (y_learnt (S.set r R') r q) r).2
    · rw [learn_eq1 c eR c2] at h
      exact absurd (show false = true from h) (by decide)
    · rw [el] at c2
      obtain ⟨R3, e3, k1, k2, k3, k4⟩ := ckp_t c2
      rw [learn_eq2 c eR (by rw [el]; exact c2) (by rw [el]; exact e3), tell_eq]
      have q6 : R3.1 6 = R.1 6 := (k1 6 (by decide) (by decide) (by decide) (by decide) (by decide)).trans (f1 6 (by decide) (by decide) (by decide))
      rw [← q6]
      rw [set_rp]
      show (if _ ≤ _ then (Rp.u _ 43 0).u 44 0 else _ : Rp).1 6 = _
      split <;> split <;> split <;> rfl
theorem c_accepted {mm : Kp} {N : Nat} {c : vC} {S : Sx} {r k : Nat} {m : Mg} {R : Rp} (hC : Cx S) (h : WC mm c (S.set r R)) (hr : r < S.N) (h6 : R.1 6 = 1) (hfl : S.fl.length ≤ 200) (hO : OkR S R) (hF : FoOk R) (h21 : R.1 21 < 2 ^ S.N) (hm : mm.1 = some (k, m)) (hm4 : m 0 = 4) (ht : m 1 < S.N) (hb : m 3 < 65536) (hs : m 4 < 65536) (hL : LgC mm (S.set r R)) (h7' : R.1 7 + 2 < 29990) (h32 : R.1 32 + 1 < 65536) (hW : SeW S) (hlg : R.1 19 = 2 → R.1 20 = m 3 → ¬ R.1 22 = 0 → m 4 = R.1 7 + 1 → ¬ (R.1 21).testBit (m 1) → S.N < 2 * y_count S.N (R.1 21 ||| 2 ^ (m 1)) → R.1 7 + 1 ≤ S.ll → S.lg (R.1 7 + 1) = R.1 22) : tr (b2 (F_X7_afterAccepted N c r k) fun M5 v6 => (F_X7_propose N M5 r v6).bind fun M7 => some M7) (fun c' => WC mm c' (y_gotAccepted (S.set r R) r (m 1) (m 3) (m 4))) := by
  have hN := hC.N
  have h7 := hO.2.2.2.2.1
  have h19 := okv hO 19 (by decide)
  have h20 := okv hO 20 (by decide)
  have h21' : R.1 21 < 512 := hO.1 21
  have h22 : R.1 22 < S.1 4 := hO.1 22
  refine tr_b2 (P := fun p => (p.2 = none ∧ WC mm p.1 (y_gotAccepted (S.set r R) r (m 1) (m 3) (m 4))) ∨ ∃ S3 R3 q a, p.2 = some a ∧ WC mm p.1 (Sx.set S3 r R3) ∧ RqA p.1 a (S3.tb q) ∧ 0 < q ∧ q < S3.1 4 ∧ R3.1 6 = 1 ∧ OkR S3 R3 ∧ Cx S3 ∧ r < S3.N ∧ S3.fl.length ≤ 200 ∧ y_gotAccepted (S.set r R) r (m 1) (m 3) (m 4) = y_proposeIt (Sx.set S3 r R3) r q) ?_ fun M5 v6 hM => ?_
  · unfold F_X7_afterAccepted
    rw [show (2 : Int32) = nI 2 from rfl, c_is h hr h6 (by omega) (by omega) (by decide) (by omega) (fr_i (f := 3) h hm (by decide)), b2_]
    refine tr_i1 (fun c1 => ?_) (fun c1 => ?_)
    · refine tr_some (Or.inl ⟨rfl, ?_⟩)
      rw [gd_0 (fun x => c1 ⟨x.1, x.2.1⟩)]; exact h
    · refine tr_l1 ?_
      have hp := WC_p h hr h6 (show pci 403 = some 22 from rfl)
      by_cases q0 : R.1 22 = 0
      · rw [hp.1 q0, oc_n]
        refine tr_some (Or.inl ⟨rfl, ?_⟩)
        rw [gd_0 (fun x => x.2.2.1 q0)]; exact h
      · obtain ⟨a, ea, ha⟩ := hp.2 (by omega)
        rw [ea, oc_s, fr_i (f := 4) h hm (by decide), WC_ix h hr h6, nI_add1]
        refine tr_eq (by omega) (by omega) (fun c2 => ?_) (fun c2 => ?_)
        · rw [c_hasAns h hr h6 (by omega) (by omega) (fr_i (f := 1) h hm (by decide)), b2_]
          refine tr_i1 (p := (R.1 21).testBit (m 1) = true) (fun c3 => ?_) (fun c3 => ?_)
          · have hlg2 := hlg c1.1 c1.2 q0 c2 c3
            rw [gd_1 ⟨c1.1, c1.2, q0, c2, c3⟩]
            refine tr_b2 (c_answer (t := m 1) hC h hr h6 ht h21 (fr_i (f := 1) h hm (by decide)) (WC_701 h hr)) fun M7 v7 hv => ?_
            obtain ⟨e7, w7⟩ := hv
            dsimp only at e7 w7
            rw [e7]
            have o2 : OkR S (R.u 21 (R.1 21 ||| 2 ^ m 1)) := hO.u rfl (or512 h21' (by omega))
            have i6 : (R.u 21 (R.1 21 ||| 2 ^ m 1)).1 6 = 1 := h6
            have i7 : (R.u 21 (R.1 21 ||| 2 ^ m 1)).1 7 = R.1 7 := rfl
            have i22 : (R.u 21 (R.1 21 ||| 2 ^ m 1)).1 22 = R.1 22 := rfl
            have i32 : (R.u 21 (R.1 21 ||| 2 ^ m 1)).1 32 = R.1 32 := rfl
            have iF : FoOk (R.u 21 (R.1 21 ||| 2 ^ m 1)) := fun x => absurd (show R.1 19 = 0 from x) (by omega)
            have iL : LgC mm (S.set r (R.u 21 (R.1 21 ||| 2 ^ m 1))) := by
              refine ⟨fun j hj => ?_, hL.2.1, hL.2.2⟩
              by_cases e : j = r
              · subst e
                have := hL.1 j hj
                rw [set_rp] at this ⊢
                exact this
              · have := hL.1 j hj
                rw [set_ne _ _ e] at this ⊢
                exact this
            refine tr_i1 (fun c5 => ?_) (fun c5 => ?_)
            · rw [if_neg c5]
              exact tr_some (Or.inl ⟨rfl, w7⟩)
            · rw [if_pos c5]
              have hlg3 := hlg2 c5
              generalize R.u 21 (R.1 21 ||| 2 ^ m 1) = R1 at w7 o2 i6 i7 i22 i32 iF iL ⊢
              refine tr_l1 ?_
              obtain ⟨a2, ea2, ha2⟩ := (WC_p w7 hr i6 (show pci 403 = some 22 from rfl)).2 (by omega)
              rw [i22] at ha2
              rw [ea2]
              have wA := WC_add w7 ha2
              refine tr_bind (c_sendAll (kd := 5) (b := 0) (s := m 4) (q := R.1 22) (hC.set r _) wA hr hfl (by decide) (RqO.some (by omega) ha2) rfl rfl (fr_i (f := 4) w7 hm (by decide))) fun M8 w8 => ?_
              obtain ⟨a1', a2', a3', a4', a5', a6'⟩ := sendL_o 5 r 0 (m 4) (R.1 22) (List.range' 0 S.N) (S.set r R1)
              have eA : y_sendAll (S.set r R1) 5 r 0 (m 4) (R.1 22) = y_sendL 5 r 0 (m 4) (R.1 22) (List.range' 0 S.N) (S.set r R1) := rfl
              have hLs : LgC mm (y_sendL 5 r 0 (m 4) (R.1 22) (List.range' 0 S.N) (S.set r R1)) := by
                have el : (y_sendL 5 r 0 (m 4) (R.1 22) (List.range' 0 S.N) (S.set r R1)).ll = S.ll := a5' 100 (by decide) (by decide)
                refine ⟨fun j hj => ?_, fun x hx e => ?_, fun j x e e8 => ?_⟩
                · rw [a1', el]; exact iL.1 j hj
                · rw [el]
                  rcases sendL_fl _ _ hx with hx | ⟨t, _, _, rfl⟩
                  · exact iL.2.1 x hx e
                  · exact absurd (show 5 = 8 from e) (by decide)
                · rw [el]; exact iL.2.2 j x e e8
              rw [eA] at w8 ⊢
              have e4s : (y_sendL 5 r 0 (m 4) (R.1 22) (List.range' 0 S.N) (S.set r R1)).1 4 = S.1 4 := a5' 4 (by decide) (by decide)
              have eNs : (y_sendL 5 r 0 (m 4) (R.1 22) (List.range' 0 S.N) (S.set r R1)).N = S.N := a5' 1 (by decide) (by decide)
              have ells : (y_sendL 5 r 0 (m 4) (R.1 22) (List.range' 0 S.N) (S.set r R1)).ll = S.ll := a5' 100 (by decide) (by decide)
              generalize y_sendL 5 r 0 (m 4) (R.1 22) (List.range' 0 S.N) (S.set r R1) = S2 at w8 a1' a2' a3' a4' a5' a6' hLs e4s eNs ells ⊢
              have e2 : S2.set r R1 = S2 := by
                have : S2.rp r = R1 := by rw [a1', set_rp]
                rw [← this, set_id]
              rw [← e2] at w8 hLs ⊢
              have a5'' : ∀ f, f < 12 → S2.1 f = S.1 f := fun f hf => a5' f (by omega) (by omega)
              have hC2 : Cx S2 := Cx_c hC a5'' a2' a4'
              have o3 := OkR.c o2 a5''
              have hr2 : r < S2.N := by rw [eNs]; exact hr
              have hW2 : SeW S2 := fun s hs => by rw [a4']; exact hW s hs
              have hfl2 := a6' hfl
              refine tr_b2 (c_learn hC2 (WC_sub w8) hr2 i6 o3 iF (WC_rq (mm := mm) (S := S2.set r R1) w8) (by omega) (by omega) hLs (by rw [ells, i7, show S2.lg = S.lg from a3']; exact hlg3) hW2) fun M9 v9 hv => ?_
              obtain ⟨q1, w9⟩ := hv
              dsimp only at q1 w9
              rw [q1]
              refine tr_if (fun c8 => ?_) (fun c8 => ?_)
              · rw [if_neg (by rw [c8]; decide)]
                exact tr_some (Or.inl ⟨rfl, w9⟩)
              · rw [if_pos c8]
                have q6 := learn_6 c8
                obtain ⟨S3, R3, e3, l1, l2, l3, l4⟩ := learn_t c8
                obtain ⟨hC3, o4⟩ := l4 hC2 o3 (by omega) (by omega)
                rw [e3] at w9 q6 ⊢
                rw [set_rp] at q6
                have e6 : R3.1 6 = 1 := q6.trans i6
                have hr3 : r < S3.N := by rw [show S3.N = S2.N from l2 1 (by decide)]; exact hr2
                refine tr_b2 (c_adv hC3 w9 hr3 e6 o4.2.2.2.1) fun M10 o hM => ?_
                rcases hM with ⟨d1, d2, d3⟩ | ⟨q, qs, a, d1, d2, d3, d4, d5, d6⟩
                · have ep : y_propose (Sx.set S3 r R3) r = (Sx.set S3 r R3, false) := by
                    unfold y_propose
                    rw [set_rp, d1]
                  rw [ep]
                  exact tr_some (Or.inl ⟨d2, d3⟩)
                · have ep : y_propose (Sx.set S3 r R3) r = (y_proposeIt (Sx.set S3 r (R3.q (q :: qs))) r q, true) := by
                    unfold y_propose
                    rw [set_rp, d1]
                    dsimp only
                    rw [set_set]
                  have hQ2 : QOk S3 (R3.q (q :: qs)) := by
                    have hsub : ∀ x, x ∈ q :: qs → x ∈ R3.2.1 := fun x hx => by rw [← d1] at hx; exact (List.dropWhile_sublist _).subset hx
                    refine ⟨?_, fun x hx => o4.2.2.2.1.2 x (hsub x hx)⟩
                    have := (List.dropWhile_sublist (l := R3.2.1) (fun q => y_known (Sx.set S3 r R3) r q)).length_le
                    rw [d1] at this
                    exact Nat.le_trans this o4.2.2.2.1.1
                  rw [ep]
                  exact tr_some (Or.inr ⟨S3, R3.q (q :: qs), q, a, d2, d5, d6, d3, d4, e6, o4.q hQ2, hC3, hr3, by rw [l1]; exact hfl2, rfl⟩)
          · refine tr_some (Or.inl ⟨rfl, ?_⟩)
            rw [gd_0 (fun x => x.2.2.2.2 c3)]; exact h
        · refine tr_some (Or.inl ⟨rfl, ?_⟩)
          rw [gd_0 (fun x => c2 x.2.2.2.1)]; exact h
  · rcases hM with ⟨e, w⟩ | ⟨S3, R3, q, a, e, w, ha, q0, hq', e6, o3, hC3, hr3, hfl3, ey⟩
    · dsimp only at e w
      subst e
      unfold F_X7_propose
      rw [oc_n]
      exact tr_some w
    · dsimp only at e w ha
      subst e
      rw [ey]
      exact tr_bind (c_propose hC3 w hr3 e6 hfl3 o3 ha q0 hq') fun M6 w6 => tr_some w6
