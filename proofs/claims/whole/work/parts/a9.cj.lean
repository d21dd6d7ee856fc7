/-! ===== the class tells and learns ===== -/
def SeW (S : Sx) : Prop := ∀ s, s < 16 → (S.se s).1 46 = 2 → 0 < (S.se s).1 47
theorem st_v {V : Nat} {tb : Nat → Rq} {g : Nat → Nat} : ∀ i s, 0 < (stN V tb g i).2.1 s → (stN V tb g i).2.2.1 s = 1 ∨ (stN V tb g i).2.2.1 s = 2 := by
  intro i
  induction i with
  | zero => intro s h; exact absurd (show 0 < 0 from h) (Nat.lt_irrefl 0)
  | succ i ih =>
    intro s
    show 0 < (if (stN V tb g i).2.1 ((tb (g (i + 1))).1 0) < (tb (g (i + 1))).1 1 then va_up (stN V tb g i).2.1 ((tb (g (i + 1))).1 0) ((tb (g (i + 1))).1 1) else (stN V tb g i).2.1) s → (if (stN V tb g i).2.1 ((tb (g (i + 1))).1 0) < (tb (g (i + 1))).1 1 then va_up (stN V tb g i).2.2.1 ((tb (g (i + 1))).1 0) (y_ver V (stN V tb g i) i (tb (g (i + 1)))) else (stN V tb g i).2.2.1) s = 1 ∨ (if (stN V tb g i).2.1 ((tb (g (i + 1))).1 0) < (tb (g (i + 1))).1 1 then va_up (stN V tb g i).2.2.1 ((tb (g (i + 1))).1 0) (y_ver V (stN V tb g i) i (tb (g (i + 1)))) else (stN V tb g i).2.2.1) s = 2
    by_cases c : (stN V tb g i).2.1 ((tb (g (i + 1))).1 0) < (tb (g (i + 1))).1 1
    · rw [if_pos c, if_pos c]
      by_cases e : s = (tb (g (i + 1))).1 0
      · intro _
        rw [e, va_up_self]
        unfold y_ver
        rw [if_pos c]
        split
        · exact Or.inr rfl
        · exact Or.inl rfl
      · rw [va_up_ne _ _ e, va_up_ne _ _ e]; exact ih s
    · rw [if_neg c, if_neg c]; exact ih s
theorem q_tlC {ρ : Type} {mm : Kp} {N r : Nat} {kx : vC → Option ρ} {Q : ρ → Prop} : ∀ (d k fl : Nat) (c : vC) (S : Sx) (g : Nat → Se), Cx S → r < S.N → (S.rp r).1 6 = 1 → SeW S → k + d = 16 → d < fl → WC mm c S → (∀ s, s < 16 → g s = if k ≤ s then y_sesT S r s else S.se s) → (∀ c', WC mm c' (S.sets g) → tr (kx c') Q) → tr (L_X7_tellAll_31 N r kx fl c (nI k)) Q := by
  intro d
  induction d with
  | zero =>
    intro k fl c S g hC hr h6 hW h1 h2 h hg K
    obtain ⟨fl, rfl⟩ : ∃ f', fl = f' + 1 := ⟨fl - 1, by omega⟩
    obtain rfl : k = 16 := by omega
    rw [L_X7_tellAll_31, if_pos (show (16 : Int32) ≤ nI 16 from nI_le (Nat.le_refl 16) (by decide))]
    refine K c ?_
    obtain ⟨a1, a2, a3, a4, a5⟩ := h
    refine ⟨a1, a2, a3, fun s hs => ?_, a5⟩
    show SeA c S.tb s (g s)
    rw [hg s hs, if_neg (by omega)]
    exact a4 s hs
  | succ d ih =>
    intro k fl c S g hC hr h6 hW h1 h2 h hg K
    obtain ⟨fl, rfl⟩ : ∃ f', fl = f' + 1 := ⟨fl - 1, by omega⟩
    have hk : k < 16 := by omega
    obtain ⟨b46, b48, b47⟩ := hC.s k hk
    have hr9 : r < 9 := by have := hC.N; omega
    obtain ⟨s1, s2, s3, s4, s5, s6, s7, s8, s9⟩ := h.2.2.2.1 k hk
    have h' : WC mm c (S.set r (S.rp r)) := by rw [set_id]; exact h
    obtain ⟨t1, t2, t3, t4, t5, t6, t7, t8⟩ := WC_st h' hr h6
    have hsb := sta_b hC ((S.rp r).1 7) k
    rw [L_X7_tellAll_31, if_neg (show ¬ (16 : Int32) ≤ nI k from nI_ge (b := 16) (by omega) (by decide)), show nI k + (1 : Int32) = nI (k + 1) from nI_add k 1, ix_n hk (by decide), Option.bind_some, s1]
    have keep : ¬ ((S.se k).1 46 = 2 ∧ (S.se k).1 48 = r ∧ (S.sta ((S.rp r).1 7)).2.1 k = (S.se k).1 47) → tr (L_X7_tellAll_31 N r kx fl c (nI (k + 1))) Q := by
      intro hc
      refine ih (k + 1) fl c S g hC hr h6 hW (by omega) (by omega) h (fun s hs => ?_) K
      rw [hg s hs]
      by_cases e : s = k
      · subst e
        rw [if_pos (by omega), if_neg (by omega)]
        unfold y_sesT
        rw [if_neg (fun x => hc x.2)]
      · by_cases e2 : k ≤ s
        · rw [if_pos e2, if_pos (by omega)]
        · rw [if_neg e2, if_neg (by omega)]
    refine tr_eq (b := 2) (by omega) (by decide) (fun c1 => ?_) (fun c1 => keep (fun x => c1 x.1))
    rw [s3, if_pos (Or.inr c1), WC_700 h' hr]
    refine tr_eq (by omega) (by omega) (fun c2 => ?_) (fun c2 => keep (fun x => c2 x.2.1))
    rw [cGv (show k < 16 from hk) (by omega), Option.bind_some, t4 k hk, s2]
    refine tr_eq (by omega) (by omega) (fun c3 => ?_) (fun c3 => keep (fun x => c3 x.2.2.symm))
    rw [cGv (show k < 16 from hk) (by omega), Option.bind_some, t5 k hk]
    have hv := st_v (V := S.V) (tb := S.tb) (g := S.lg) ((S.rp r).1 7) k (by
      have := hW k hk c1
      show 0 < (S.sta ((S.rp r).1 7)).2.1 k
      omega)
    have hv' : (S.sta ((S.rp r).1 7)).2.2.1 k = 1 ∨ (S.sta ((S.rp r).1 7)).2.2.1 k = 2 := hv
    have fin : ∀ v, (v = 3 ∨ v = 4) → v = 2 + (S.sta ((S.rp r).1 7)).2.2.1 k → tr (L_X7_tellAll_31 N r kx fl (uI (uI c 901 k (nI v)) 903 k (-1)) (nI (k + 1))) Q := by
      intro v hv34 ev
      have hw' := WC_end (s := k) (v := v) (g := fun x => if x = k then (va_up (S.se k).1 46 v, (S.se k).2) else S.se x) h hv34 (fun x _ => rfl)
      have hse : ∀ s, (S.sets (fun x => if x = k then (va_up (S.se k).1 46 v, (S.se k).2) else S.se x)).se s = if s = k then (va_up (S.se k).1 46 v, (S.se k).2) else S.se s := fun _ => rfl
      refine ih (k + 1) fl _ (S.sets (fun x => if x = k then (va_up (S.se k).1 46 v, (S.se k).2) else S.se x)) g ?_ hr h6 ?_ (by omega) (by omega) hw' (fun s hs => ?_) K
      · obtain ⟨x1, x2, x3, x4, x5, x6, x7, x8, x9, x10, x11⟩ := hC
        refine ⟨x1, x2, x3, x4, x5, x6, x7, x8, x9, x10, fun s hs => ?_⟩
        rw [hse]
        split
        · refine ⟨?_, b48, b47⟩
          show va_up (S.se k).1 46 v 46 < _
          rw [va_up_self]; omega
        · exact x11 s hs
      · intro s hs
        rw [hse]
        split
        · intro e
          have : va_up (S.se k).1 46 v 46 = 2 := e
          rw [va_up_self] at this
          omega
        · exact hW s hs
      · rw [hg s hs]
        by_cases e : s = k
        · subst e
          rw [if_pos (Nat.le_refl _), if_neg (show ¬ s + 1 ≤ s by omega), hse, if_pos rfl]
          unfold y_sesT
          rw [if_pos ⟨hk, c1, c2, c3.symm⟩, ev]
        · have e1 : (S.sets (fun x => if x = k then (va_up (S.se k).1 46 v, (S.se k).2) else S.se x)).se s = S.se s := if_neg e
          have e3 : y_sesT (S.sets (fun x => if x = k then (va_up (S.se k).1 46 v, (S.se k).2) else S.se x)) r s = y_sesT S r s := by
            unfold y_sesT
            rw [e1]; rfl
          rw [e1, e3]
          by_cases e2 : k ≤ s
          · rw [if_pos e2, if_pos (show k + 1 ≤ s by omega)]
          · rw [if_neg e2, if_neg (show ¬ k + 1 ≤ s by omega)]
    unfold F_X9_endBy
    rcases hv' with e | e
    · rw [e, if_pos (show nI 1 = (1 : Int32) from rfl)]
      unfold F_X9_end
      exact fin 3 (Or.inl rfl) (by rw [e])
    · rw [e, if_neg (show ¬ nI 2 = (1 : Int32) by decide)]
      unfold F_X9_end
      exact fin 4 (Or.inr rfl) (by rw [e])
theorem c_tell {mm : Kp} {N : Nat} {c : vC} {S : Sx} {r : Nat} {R : Rp} (hC : Cx S) (h : WC mm c (S.set r R)) (hr : r < S.N) (h6 : R.1 6 = 1) (h7 : R.1 7 < 2 ^ 30) (h43 : R.1 43 < 2 ^ 30) (hQ : QOk S R) (hW : SeW S) : tr (F_X7_tellAll N c r) (fun c' => WC mm c' (y_tell (S.set r (R.u 13 0)) r)) := by
  unfold F_X7_tellAll
  refine tr_uI 0 h rfl fun c1 w1 => ?_
  have e13 : (R.u 13 0).1 7 = R.1 7 := rfl
  have e43 : (R.u 13 0).1 43 = R.1 43 := rfl
  have e6 : (R.u 13 0).1 6 = 1 := h6
  have eQ : QOk S (R.u 13 0) := hQ
  rw [tell_eq]
  generalize R.u 13 0 = R1 at w1 e13 e43 e6 eQ ⊢
  refine tr_jnK (fun c' => WC mm c' (S.set r (if R1.1 43 ≤ R1.1 7 then (R1.u 43 0).u 44 0 else R1))) (fun c2 w2 => ?_) (fun k hk => ?_)
  · have f7 : (if R1.1 43 ≤ R1.1 7 then (R1.u 43 0).u 44 0 else R1).1 7 = R1.1 7 := by split <;> rfl
    have f6 : (if R1.1 43 ≤ R1.1 7 then (R1.u 43 0).u 44 0 else R1).1 6 = 1 := by rw [← e6]; split <;> rfl
    have fq : (if R1.1 43 ≤ R1.1 7 then (R1.u 43 0).u 44 0 else R1).2.1 = R1.2.1 := by split <;> rfl
    generalize (if R1.1 43 ≤ R1.1 7 then (R1.u 43 0).u 44 0 else R1) = R2 at w2 f7 f6 fq ⊢
    refine q_tlC 16 0 fu c2 (S.set r R2) (y_sesT (S.set r R2) r) (hC.set r R2) hr (by rw [set_rp]; exact f6) hW rfl (by decide) w2 (fun s _ => (if_pos (Nat.zero_le _)).symm) fun c3 w3 => ?_
    have es : y_sesT (S.set r R2) r = y_sesT (S.set r R1) r := by
      unfold y_sesT
      rw [set_rp, set_rp, f7]; rfl
    rw [es] at w3
    have w3' : WC mm c3 ((S.sets (y_sesT (S.set r R1) r)).set r R2) := w3
    refine tr_bind (c_dropDec (S := S.sets (y_sesT (S.set r R1) r)) ((hC.set r R1).sesT r) w3' hr f6 ⟨by rw [fq]; exact eQ.1, fun q hq => eQ.2 q (by rw [← fq]; exact hq)⟩) fun c4 w4 => ?_
    have ef : R2.2.1.filter (fun q => !y_known ((S.sets (y_sesT (S.set r R1) r)).set r R2) r q) = R1.2.1.filter (fun q => !y_known (S.set r R1) r q) := by
      rw [fq]
      congr 1
      funext q
      rw [kn_fr, kn_fr, f7]; rfl
    rw [ef] at w4
    exact tr_some w4
  · have q1 := (WC_pi w1 hr e6).1
    rw [WC_ix w1 hr e6, q1]
    by_cases c0 : R1.1 43 = 0
    · rw [if_pos c0, if_neg (show ¬ nI (R1.1 7) < (-1 : Int32) from fun q => nIn (show R1.1 7 < 2 ^ 31 by omega) (Int32.lt_trans q (by decide)))]
      refine tr_bind (c_drop w1) fun c3 w3 => hk _ ?_
      rw [if_pos (by omega)]; exact w3
    · rw [if_neg c0]
      refine tr_lt (by omega) (by omega) (fun c2 => hk _ (by rw [if_neg (by omega)]; exact w1)) (fun c2 => ?_)
      refine tr_bind (c_drop w1) fun c3 w3 => hk _ ?_
      rw [if_pos c2]; exact w3
/-- a follower holds nothing of an office -/
def FoOk (R : Rp) : Prop := R.1 19 = 0 → R.1 20 = 0 ∧ R.1 21 = 0 ∧ R.1 22 = 0 ∧ R.1 23 = 0 ∧ R.1 24 = 0
theorem u_eq {R : Rp} {f v : Nat} (h : R.1 f = v) : R.u f v = R := by rw [← h, u_id]
theorem c_learn {mm : Kp} {N : Nat} {c : vC} {S : Sx} {r q a : Nat} {R : Rp} (hC : Cx S) (h : WC mm c (S.set r R)) (hr : r < S.N) (h6 : R.1 6 = 1) (hO : OkR S R) (hF : FoOk R) (ha : RqA c a (S.tb q)) (h0 : 0 < q) (hq : q < S.1 4) (hL : LgC mm (S.set r R)) (hlg : R.1 7 + 1 ≤ S.ll → S.lg (R.1 7 + 1) = q) (hW : SeW S) : tr (F_X7_learn N c r (some a)) (fun p => p.2 = (if (y_learn (S.set r R) r q).2 = true then (1 : Int32) else 0) ∧ WC mm p.1 (y_learn (S.set r R) r q).1) := by
  obtain ⟨b1, b2, b3, b4, b5, b6⟩ := hO.b
  obtain ⟨x1, x2, x3, x4⟩ := hO.x
  have hg := hO.g
  have hV1 : 1 ≤ S.V := hC.2.2.1
  have hL1 : 1 ≤ S.L := hC.2.2.2.2.1
  have hr9 : r < 9 := by have := hC.N; omega
  have hn : NbOk (3, 0, 0, q, 0) := ⟨(by decide : 1 ≤ 3), (by decide : 3 ≤ 5), (by decide : 0 < 2 ^ 31), (by decide : 0 < 2 ^ 31), (by decide : 0 < 2 ^ 31)⟩
  unfold F_X7_learn
  have w0 := WC_2 (f := 2) (i := 1) (v := 0) (WC_add h ha) (by decide)
  have ha0 : RqA (uI c 2 1 0) a (S.tb q) := WC_rq (mm := mm) (S := S.set r R) w0
  rw [e_startPay', Option.bind_some, Option.bind_some]
  refine tr_gd ha0.2.1 ?_
  rw [c_writeReq hC ha0 (Nat.le_of_ble_eq_true rfl), Option.bind_some, show [by8 3] ++ encQ (S.tb q) = y_pay S.V S.tb S.sta (3, 0, 0, q, 0) from rfl]
  refine tr_b2 (c_note (n := (3, 0, 0, q, 0)) hC w0 hr h6 hO.2.1 hO.2.2.1 hn) fun c1 v hv => ?_
  obtain ⟨e1, w1⟩ := hv
  dsimp only at e1 w1
  rw [e1]
  refine tr_if (fun c => ?_) (fun c => ?_)
  · rw [learn_eq0 c]
    exact tr_z0 (tr_some ⟨rfl, WC_sub w1⟩)
  · obtain ⟨R', eR, f1, f2, f3, f4, f5⟩ := note_t c
    rw [eR] at w1
    have f6 : R'.1 6 = 1 := (f1 6 (by decide) (by decide) (by decide)).trans h6
    have f7 : R'.1 7 = R.1 7 := f1 7 (by decide) (by decide) (by decide)
    have f8 : R'.1 8 = R.1 8 := f1 8 (by decide) (by decide) (by decide)
    have f9 : R'.1 9 = R.1 9 := f1 9 (by decide) (by decide) (by decide)
    have f10 : R'.1 10 = R.1 10 := f1 10 (by decide) (by decide) (by decide)
    have f19 : R'.1 19 = R.1 19 := f1 19 (by decide) (by decide) (by decide)
    have f21 : R'.1 21 = R.1 21 := f1 21 (by decide) (by decide) (by decide)
    have f32 : R'.1 32 = R.1 32 := f1 32 (by decide) (by decide) (by decide)
    have f43 : R'.1 43 = R.1 43 := f1 43 (by decide) (by decide) (by decide)
    have hJ' := note_J hO.2.1 hO.2.2.1 (rec_len hC hn) f1 f2 f4 f5
    have hLr := hL.1 r hr9
    rw [set_rp] at hLr
    have hix : R.1 7 ≤ S.ll := hLr.1
    have hL' : LgC (mm.1, (a, q) :: mm.2) (S.set r R') := by
      refine ⟨fun k hk => ?_, hL.2.1, hL.2.2⟩
      by_cases e : k = r
      · subst e
        rw [set_rp, f7, f43]; exact hLr
      · have := hL.1 k hk
        rw [set_ne _ _ e] at this ⊢
        exact this
    have wl := WC_log (n := max S.ll (R'.1 7 + 1)) (g := if S.ll < R'.1 7 + 1 then va_up S.lg (R'.1 7 + 1) q else S.lg) w1 hC.N hL' (fun i hi => by
      have hi' : i ≤ S.ll := hi
      split
      · exact va_up_ne _ _ (by omega)
      · rfl)
    rw [log_set] at wl
    have hlg' : (S.log (max S.ll (R'.1 7 + 1)) (if S.ll < R'.1 7 + 1 then va_up S.lg (R'.1 7 + 1) q else S.lg)).lg (R'.1 7 + 1) = q := by
      show (if S.ll < R'.1 7 + 1 then va_up S.lg (R'.1 7 + 1) q else S.lg) (R'.1 7 + 1) = q
      by_cases c3 : S.ll < R'.1 7 + 1
      · rw [if_pos c3, va_up_self]
      · rw [if_neg c3, f7]
        exact hlg (by omega)
    have hC2 := hC.log (max S.ll (R'.1 7 + 1)) (if S.ll < R'.1 7 + 1 then va_up S.lg (R'.1 7 + 1) q else S.lg)
    have el := learnt_eq (S := S) (r := r) (q := q) (R := R')
    have hW2 : SeW (S.log (max S.ll (R'.1 7 + 1)) (if S.ll < R'.1 7 + 1 then va_up S.lg (R'.1 7 + 1) q else S.lg)) := hW
    generalize hS2 : S.log (max S.ll (R'.1 7 + 1)) (if S.ll < R'.1 7 + 1 then va_up S.lg (R'.1 7 + 1) q else S.lg) = S2 at wl hlg' hC2 el hW2
    have sN : S2.N = S.N := by rw [← hS2]; rfl
    have sV : S2.V = S.V := by rw [← hS2]; rfl
    have sL : S2.L = S.L := by rw [← hS2]; rfl
    have s4 : S2.1 4 = S.1 4 := by rw [← hS2]; rfl
    have st : S2.tb = S.tb := by rw [← hS2]; rfl
    have hr2 : r < S2.N := by rw [sN]; exact hr
    obtain ⟨⟨k0, k1, _⟩, _⟩ := (WC_a wl hr2).1
    have haw := WC_rq (mm := mm) (S := S2.set r R') wl
    refine tr_bind (P := fun c' => WC (mm.1, (a, q) :: mm.2) c' (S2.set r (((R'.u 7 (R'.1 7 + 1)).u 8 (max (R'.1 8) (R'.1 7 + 1 - S.V))).u 9 (max (R'.1 9) (R'.1 7 + 1 - S.L))))) ?_ fun c2 w2 => ?_
    · refine tr_imp (c_apply hC2 k0 k1 (WC_st wl hr2 f6) haw h0 (by omega) hlg' (by omega) (by rw [sV]; omega) (by omega) (by rw [sL]; omega)) fun c2 hc2 => ?_
      rw [sV, sL] at hc2
      exact WC_sk wl hc2.1 (fun f g7 g8 g9 => by rw [u_n _ _ g9, u_n _ _ g8, u_n _ _ g7]) rfl (fun _ _ => hc2.2)
    refine tr_l1 ?_
    have w3 := WC_acc0 w2
    generalize hR2 : ((((R'.u 7 (R'.1 7 + 1)).u 8 (max (R'.1 8) (R'.1 7 + 1 - S.V))).u 9 (max (R'.1 9) (R'.1 7 + 1 - S.L))).u 11 0).u 12 0 = R2 at w3 el
    have g6 : R2.1 6 = 1 := by rw [← hR2]; exact f6
    have g7 : R2.1 7 = R.1 7 + 1 := by rw [← hR2, ← f7]; rfl
    have g8 : R2.1 8 = max (R.1 8) (R.1 7 + 1 - S.V) := by rw [← hR2, ← f7, ← f8]; rfl
    have g10 : R2.1 10 = R.1 10 := by rw [← hR2, ← f10]; rfl
    have g11 : R2.1 11 = 0 := by rw [← hR2]; rfl
    have g12 : R2.1 12 = 0 := by rw [← hR2]; rfl
    have g19 : R2.1 19 = R.1 19 := by rw [← hR2, ← f19]; rfl
    have g21 : R2.1 21 = R.1 21 := by rw [← hR2, ← f21]; rfl
    have g32 : R2.1 32 = R.1 32 := by rw [← hR2, ← f32]; rfl
    have g43 : R2.1 43 = R.1 43 := by rw [← hR2, ← f43]; rfl
    have gq : R2.2.1 = R.2.1 := by rw [← hR2, ← f3]; rfl
    have gJ : JR R2 := by rw [← hR2]; exact hJ'
    have gB : BR S2 R2 := ⟨by omega, by omega, by rw [sV]; omega, by omega, by omega, by rw [s4]; omega⟩
    refine tr_b2 (c_ckp hC2 w3 hr2 g6 gJ gB (by omega)) fun c4 v4 h4 => ?_
    obtain ⟨e4, w4⟩ := h4
    dsimp only at e4 w4
    rw [e4]
    refine tr_if (fun c2 => ?_) (fun c2 => ?_)
    · rw [learn_eq1 c eR (by rw [el]; exact c2), el]
      exact tr_z0 (tr_some ⟨rfl, WC_sub w4⟩)
    · obtain ⟨R3, e3, k1, k2, k3, k4⟩ := ckp_t c2
      rw [learn_eq2 c eR (by rw [el]; exact c2) (by rw [el]; exact e3)]
      rw [e3] at w4
      have q6 : R3.1 6 = 1 := (k1 6 (by decide) (by decide) (by decide) (by decide) (by decide)).trans g6
      have q19 : R3.1 19 = R.1 19 := (k1 19 (by decide) (by decide) (by decide) (by decide) (by decide)).trans g19
      have q21 : R3.1 21 = R.1 21 := (k1 21 (by decide) (by decide) (by decide) (by decide) (by decide)).trans g21
      have q7 : R3.1 7 = R.1 7 + 1 := (k1 7 (by decide) (by decide) (by decide) (by decide) (by decide)).trans g7
      have q43 : R3.1 43 = R.1 43 := (k1 43 (by decide) (by decide) (by decide) (by decide) (by decide)).trans g43
      have qq : R3.2.1 = R.2.1 := k2.trans gq
      have h19 : R.1 19 ≤ 2 := hO.1 19
      have qQ : QOk S2 R3 := ⟨by rw [qq]; exact hO.2.2.2.1.1, fun x hx => by rw [s4]; exact hO.2.2.2.1.2 x (by rw [← qq]; exact hx)⟩
      rw [WC_i w4 hr2 q6 (show sci 400 = some 19 from rfl)]
      refine tr_eq (a := R3.1 19) (b := 1) (by omega) (by decide) (fun c5 => ?_) (fun c5 => ?_)
      · refine tr_bind (c_follow w4) fun c6 w6 => ?_
        have eR5 : (if ((if R3.1 19 = 1 then y_follow R3 else R3).u 22 0).1 19 = 2 then ((if R3.1 19 = 1 then y_follow R3 else R3).u 22 0).u 21 0 else ((if R3.1 19 = 1 then y_follow R3 else R3).u 22 0)) = y_follow R3 := by
          rw [if_pos c5, u_eq (show (y_follow R3).1 22 = 0 from rfl), if_neg (show ¬ (y_follow R3).1 19 = 2 from by show ¬ 0 = 2; decide)]
        rw [eR5]
        refine tr_bind (c_tell hC2 w6 hr2 q6 (show R3.1 7 < 2 ^ 30 by omega) (show R3.1 43 < 2 ^ 30 by omega) qQ hW2) fun c7 w7 => ?_
        exact tr_z1 (tr_some ⟨rfl, WC_sub w7⟩)
      · refine tr_bind (c_dropP w4) fun c6 w6 => ?_
        have eR5 : (if ((if R3.1 19 = 1 then y_follow R3 else R3).u 22 0).1 19 = 2 then ((if R3.1 19 = 1 then y_follow R3 else R3).u 22 0).u 21 0 else ((if R3.1 19 = 1 then y_follow R3 else R3).u 22 0)) = (R3.u 21 0).u 22 0 := by
          rw [if_neg c5]
          by_cases c8 : R3.1 19 = 2
          · rw [if_pos (show (R3.u 22 0).1 19 = 2 from c8), u_comm _ _ _ (by decide)]
          · rw [if_neg (show ¬ (R3.u 22 0).1 19 = 2 from c8), u_eq (f := 21) (by rw [q21]; exact (hF (by omega)).2.1)]
        rw [eR5]
        refine tr_bind (c_tell hC2 w6 hr2 q6 (show R3.1 7 < 2 ^ 30 by omega) (show R3.1 43 < 2 ^ 30 by omega) qQ hW2) fun c7 w7 => ?_
        exact tr_z1 (tr_some ⟨rfl, WC_sub w7⟩)
