/-! ===== the reference: a replica's clock ===== -/
theorem r_isRep {M : vM} {S : Sx} {r : Nat} (h : WM M S) (hN : S.N ≤ 9) (hr : r < S.N) : F_X12_isReplica M (nI r) = some (M, 1) := by
  unfold F_X12_isReplica
  rw [if_neg (nIn (by omega)), show M.1 1 = nI S.N from h.1 1 rfl, if_neg (nI_ge hr (by omega)), zb1]
theorem r_isRep0 {M : vM} {S : Sx} {a : Int32} (h : WM M S) (ha : a < 0 ∨ nI S.N ≤ a) : F_X12_isReplica M a = some (M, 0) := by
  unfold F_X12_isReplica
  rw [show M.1 1 = nI S.N from h.1 1 rfl]
  by_cases c : a < 0
  · rw [if_pos c, zb0]
  · rw [if_neg c, if_pos (ha.resolve_left c), zb0]
theorem r_isUp {M : vM} {S : Sx} {r : Nat} (h : WM M S) (hN : S.N ≤ 9) (hr : r < S.N) (h6 : (S.rp r).1 6 < 2 ^ 31) : F_X12_isUp M (nI r) = some (M, if (S.rp r).1 6 = 0 then 0 else 1) := by
  have w : WM M (S.set r (S.rp r)) := by rw [set_id]; exact h
  unfold F_X12_isUp
  rw [r_isRep h hN hr, b2_, if_neg (by decide), r_isRep h hN hr, b2_, if_neg (by decide), mGv (show r < 9 by omega) (by omega), Option.bind_some, WM_g w (by omega) rfl]
  by_cases c : (S.rp r).1 6 = 0
  · rw [c, if_pos (show nI 0 = (0 : Int32) from rfl), if_pos rfl, zb0]
  · rw [if_neg (show ¬ nI ((S.rp r).1 6) = (0 : Int32) from fun e => c (nI_inj (b := 0) (by omega) (by decide) e)), if_neg c, zb1]
theorem r_isUp0 {M : vM} {S : Sx} {a : Int32} (h : WM M S) (ha : a < 0 ∨ nI S.N ≤ a) : F_X12_isUp M a = some (M, 0) := by
  unfold F_X12_isUp
  rw [r_isRep0 h ha, b2_, if_pos rfl, zb0]
theorem tr_53 {M : vM} {S : Sx} (h : WM M S) : tr (some (M, M.1 53)) (fun p => p.2 = nI S.fl.length ∧ WM p.1 S) := tr_some ⟨h.2.1, h⟩
theorem prop_0 {S : Sx} {r : Nat} (h : (y_propose S r).2 = false) : (y_propose S r).1 = S := by
  unfold y_propose at h ⊢
  split at h
  · rfl
  · exact absurd (show true = false from h) (by decide)
theorem nI_mod {a n : Nat} (ha : a < 2 ^ 30) (hn : n < 2 ^ 30) : nI a - nI a / nI n * nI n = nI (a % n) := by
  rw [nI_div (by omega) (by omega), nI_mul, nI_sub (Nat.div_mul_le_self a n)]
  congr 1
  have := Nat.div_add_mod a n
  rw [Nat.mul_comm] at this
  omega
/-- the clock's own step, with the replica as it then is -/
theorem tk_1 {S : Sx} {r : Nat} {R0 R : Rp} (eR : R = R0.u 13 (R0.1 13 + 1)) (c : R.1 19 = 2 ∧ 0 < R.1 22) : y_tick (S.set r R0) r = if S.T ≤ R.1 13 then y_sendAll (S.set r (R.u 13 0)) 3 r (R.1 20) (R.1 7 + 1) (R.1 22) else S.set r R := by
  unfold y_tick
  rw [set_rp]
  dsimp only
  rw [set_set, ← eR, if_pos c, set_set]
  rfl
theorem tk_2 {S : Sx} {r : Nat} {R0 R : Rp} (eR : R = R0.u 13 (R0.1 13 + 1)) (c : ¬ (R.1 19 = 2 ∧ 0 < R.1 22)) (c2 : R.1 19 = 2) : y_tick (S.set r R0) r = if (y_propose (S.set r R) r).2 = true then (y_propose (S.set r R) r).1 else if S.T ≤ R.1 13 then y_sendAll (S.set r (R.u 13 0)) 10 r (R.1 20) (R.1 7) 0 else S.set r R := by
  unfold y_tick
  rw [set_rp]
  dsimp only
  rw [set_set, ← eR, if_neg c, if_pos c2, set_set]
  rfl
theorem tk_3 {S : Sx} {r : Nat} {R0 R : Rp} (eR : R = R0.u 13 (R0.1 13 + 1)) (c2 : R.1 19 = 1) : y_tick (S.set r R0) r = if S.T ≤ R.1 13 then y_campaign (S.set r R) r else S.set r R := by
  unfold y_tick
  rw [set_rp]
  dsimp only
  rw [set_set, ← eR, if_neg (by omega), if_neg (by omega), if_pos c2]
  rfl
theorem tk_4 {S : Sx} {r : Nat} {R0 R : Rp} (eR : R = R0.u 13 (R0.1 13 + 1)) (c1 : ¬ R.1 19 = 1) (c2 : ¬ R.1 19 = 2) : y_tick (S.set r R0) r = if 0 < R.2.1.length then (if S.T + r ≤ R.1 13 then y_campaign (S.set r R) r else if 0 < R.1 25 ∧ ¬ R.1 25 % S.N = r then y_send (S.set r R) (y_msg 9 r (R.1 25 % S.N) 0 0 (R.2.1.headD 0) 0 0) else S.set r R) else if S.T ≤ R.1 13 then y_send (S.set r (R.u 13 0)) (y_msg 6 r ((r + 1) % S.N) 0 (R.1 7 + 1) 0 0 0) else S.set r R := by
  unfold y_tick
  rw [set_rp]
  dsimp only
  rw [set_set, ← eR, if_neg (by omega), if_neg c2, if_neg c1, set_set]
  rfl
theorem headD_get (l : List Nat) : l.headD 0 = l.getD 0 0 := by cases l <;> rfl
theorem r_tick {M : vM} {S : Sx} {r : Nat} (hC : Cx S) (h : WM M S) (hrN : r < S.N) (hfl : S.fl.length ≤ 200) (hO : OkR S (S.rp r)) (h6 : (S.rp r).1 6 = 1) (b13 : (S.rp r).1 13 + 1 < 65536) (hbd : max ((S.rp r).1 10) ((S.rp r).1 25) + 9 < 65536) : tr (F_X12_tickOf M (nI r)) (fun p => p.2 = nI (y_tick S r).fl.length ∧ WM p.1 (y_tick S r)) := by
  have hN := hC.N
  have hN3 : 3 ≤ S.N := hC.1
  have hr : r < 9 := by omega
  have hT : S.T ≤ 40 := hC.2.2.2.2.2.2.2.1
  have h0 : WM (mW M 0 0) S := WM_w h rfl (by decide)
  have h' : WM (mW M 0 0) (S.set r (S.rp r)) := by rw [set_id]; exact h0
  unfold F_X12_tickOf
  rw [l1_, r_isUp h0 hN hrN (by omega), b2_, if_neg (show ¬ (S.rp r).1 6 = 0 by omega), if_neg (by decide)]
  rw [show y_tick S r = y_tick (S.set r (S.rp r)) r by rw [set_id]]
  refine tr_Gr h' hr rfl ?_
  rw [nI_add1]
  refine tr_Sr ((S.rp r).1 13 + 1) h' hr rfl (by decide) (by decide) (by decide) fun M5 w => ?_
  have o1 : OkR S ((S.rp r).u 13 ((S.rp r).1 13 + 1)) := hO.u rfl b13
  have hbd' : max (((S.rp r).u 13 ((S.rp r).1 13 + 1)).1 10) (((S.rp r).u 13 ((S.rp r).1 13 + 1)).1 25) + 9 < 65536 := hbd
  obtain ⟨R, eR⟩ : ∃ R, R = (S.rp r).u 13 ((S.rp r).1 13 + 1) := ⟨_, rfl⟩
  rw [← eR] at w o1 hbd'
  have e11 : M5.1 11 = nI S.T := w.1 11 rfl
  have e1 : M5.1 1 = nI S.N := w.1 1 rfl
  have q13 := okv o1 13 (by decide)
  have q19 := okv o1 19 (by decide)
  have q20 := okv o1 20 (by decide)
  have q25 := okv o1 25 (by decide)
  have q22 : R.1 22 < S.1 4 := o1.1 22
  have q7 := o1.2.2.2.2.1
  have hnr := hC.nr
  refine tr_Gr w hr rfl ?_
  refine tr_jnK (fun v => v = if S.T ≤ R.1 13 then (1 : Int32) else 0) (fun v hv => ?_) (fun k hk => ?_)
  · have v0 : ¬ S.T ≤ R.1 13 → v = 0 := fun c => by rw [hv, if_neg c]
    have v1 : S.T ≤ R.1 13 → ¬ v = 0 := fun c => by rw [hv, if_pos c]; decide
    refine tr_Gr w hr rfl ?_
    refine tr_jnK (fun _ : Unit => ¬ (R.1 19 = 2 ∧ 0 < R.1 22)) (fun _ hn => ?_) (fun k hk => ?_)
    · refine tr_Gr w hr rfl ?_
      refine tr_eq (b := 2) (by omega) (by decide) (fun c2 => ?_) (fun c2 => ?_)
      · rw [tk_2 eR hn c2]
        refine tr_b2 (r_propose (S := S.set r R) (hC.set r R) w hr hfl (by rw [set_rp]; exact o1.2.1) (by rw [set_rp]; exact o1.2.2.1) (by rw [set_rp]; exact o1.b) (by rw [set_rp]; exact o1.g) (by rw [set_rp]; omega) (by rw [set_rp]; exact o1.2.2.2.1)) fun M6 v6 hv6 => ?_
        obtain ⟨e6, w6⟩ := hv6
        dsimp only at e6 w6
        rw [e6]
        refine tr_if (fun c3 => ?_) (fun c3 => by rw [if_pos c3]; exact tr_53 w6)
        rw [if_neg (show ¬ (y_propose (S.set r R) r).2 = true by rw [c3]; decide)]
        rw [prop_0 c3] at w6
        by_cases c4 : S.T ≤ R.1 13
        · rw [if_neg (v1 c4), if_pos c4]
          refine tr_Sr 0 w6 hr rfl (by decide) (by decide) (by decide) fun M7 w7 => ?_
          refine tr_Gr w7 hr rfl ?_
          refine tr_Gr w7 hr rfl ?_
          refine tr_bind (r_sendAll (kd := 10) (q := 0) (hC.set r _) w7 hfl hr (by omega) rfl rfl rfl rfl) fun M8 w8 => ?_
          exact tr_53 w8
        · rw [if_pos (v0 c4), if_neg c4]
          exact tr_53 w6
      · refine tr_Gr w hr rfl ?_
        refine tr_eq (b := 1) (by omega) (by decide) (fun c3 => ?_) (fun c3 => ?_)
        · rw [tk_3 eR c3]
          by_cases c4 : S.T ≤ R.1 13
          · rw [if_neg (v1 c4), if_pos c4]
            refine tr_bind (r_campaign hC w hrN hfl o1 hbd') fun M8 w8 => ?_
            exact tr_53 w8
          · rw [if_pos (v0 c4), if_neg c4]
            exact tr_53 w
        · rw [tk_4 eR c3 c2]
          refine tr_G (show r < 9 from hr) (by omega) ?_
          rw [WM_ql' w hr]
          have q8 := o1.2.2.2.1.1
          refine tr_le (b := 0) (by omega) (by decide) (fun c4 => ?_) (fun c4 => ?_)
          · rw [if_neg (show ¬ 0 < R.2.1.length by omega)]
            by_cases c5 : S.T ≤ R.1 13
            · rw [if_neg (v1 c5), if_pos c5]
              refine tr_Sr 0 w hr rfl (by decide) (by decide) (by decide) fun M7 w7 => ?_
              have e17 : M7.1 1 = nI S.N := w7.1 1 rfl
              rw [e17]
              refine tr_gd (fun e => by have := nI_inj (b := 0) (by omega) (by decide) e; omega) ?_
              refine tr_Gr w7 hr rfl ?_
              rw [show nI r + (1 : Int32) = nI (r + 1) from nI_add1 r, nI_mod (by omega) (by omega)]
              refine tr_bind (r_send (kd := 6) (bl := 0) (sl := R.1 7 + 1) (rq := 0) (td := 0) (hC.set r _) w7 hfl (by omega) rfl rfl rfl rfl (nI_add1 _) rfl rfl) fun M8 w8 => ?_
              exact tr_53 w8
            · rw [if_pos (v0 c5), if_neg c5]
              exact tr_53 w
          · rw [if_pos c4]
            refine tr_Gr w hr rfl ?_
            rw [e11, nI_add, e1]
            refine tr_lt (by omega) (by omega) (fun c5 => ?_) (fun c5 => ?_)
            · rw [if_neg (show ¬ S.T + r ≤ R.1 13 by omega)]
              refine tr_Gr w hr rfl ?_
              refine tr_le (b := 0) (by omega) (by decide) (fun c6 => by rw [if_neg (show ¬ (0 < R.1 25 ∧ ¬ R.1 25 % S.N = r) from fun x => by have := x.1; omega)]; exact tr_53 w) (fun c6 => ?_)
              refine tr_Gr w hr rfl ?_
              refine tr_gd (fun e => by have := nI_inj (b := 0) (by omega) (by decide) e; omega) ?_
              rw [nI_mod (by omega) (by omega)]
              have hml : R.1 25 % S.N < S.N := Nat.mod_lt _ (by omega)
              refine tr_eq (by omega) (by omega) (fun c7 => by rw [if_neg (fun x => x.2 c7)]; exact tr_53 w) (fun c7 => ?_)
              rw [if_pos ⟨c6, c7⟩]
              refine tr_Gr w hr rfl ?_
              refine tr_gd (fun e => by have := nI_inj (b := 0) (by omega) (by decide) e; omega) ?_
              rw [show (8 : Int32) * nI r = nI (8 * r) from nI_mul 8 r, nI_mod (by omega) (by omega)]
              refine tr_G (show _ < 72 by omega) (by omega) ?_
              rw [show M5.2 26 (8 * r) = nI (R.2.1.getD 0 0) from WM_qg (k := 0) w hr q8 c4, ← headD_get]
              refine tr_bind (r_send (kd := 9) (bl := 0) (sl := 0) (td := 0) (hC.set r _) w hfl (by omega) rfl rfl rfl rfl rfl rfl rfl) fun M8 w8 => ?_
              exact tr_53 w8
            · rw [if_pos c5]
              refine tr_bind (r_campaign hC w hrN hfl o1 hbd') fun M8 w8 => ?_
              exact tr_53 w8
    · refine tr_eq (b := 2) (by omega) (by decide) (fun c2 => ?_) (fun c2 => hk _ (fun x => c2 x.1))
      refine tr_Gr w hr rfl ?_
      refine tr_le (b := 0) (by omega) (by decide) (fun c3 => hk _ (by omega)) (fun c3 => ?_)
      rw [tk_1 eR ⟨c2, c3⟩]
      by_cases c4 : S.T ≤ R.1 13
      · rw [if_neg (v1 c4), if_pos c4]
        refine tr_Sr 0 w hr rfl (by decide) (by decide) (by decide) fun M7 w7 => ?_
        refine tr_Gr w7 hr rfl ?_
        refine tr_Gr w7 hr rfl ?_
        refine tr_Gr w7 hr rfl ?_
        refine tr_bind (r_sendAll (kd := 3) (s := R.1 7 + 1) (hC.set r _) w7 hfl hr (by omega) rfl rfl (nI_add1 _) rfl) fun M8 w8 => ?_
        exact tr_53 w8
      · rw [if_pos (v0 c4), if_neg c4]
        exact tr_53 w
  · rw [e11]
    refine tr_lt (by omega) (by omega) (fun c => hk _ (by rw [if_neg (by omega)])) (fun c => hk _ (by rw [if_pos c]))
