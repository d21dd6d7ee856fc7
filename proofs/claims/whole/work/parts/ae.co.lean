/-! ===== the class's handlers ===== -/
theorem WC_ss {mm : Kp} {c : vC} {S : Sx} {r : Nat} {R : Rp} {m : Mg} (h : WC mm c (y_send (S.set r R) m)) : WC mm c ((y_send (S.set r R) m).set r R) := by
  have : (y_send (S.set r R) m).rp r = R := by rw [(send_o (S.set r R) m).1, set_rp]
  have e := set_id (y_send (S.set r R) m) r
  rw [this] at e
  rw [e]; exact h
theorem fr_i {mm : Kp} {c : vC} {S : Sx} {k f : Nat} {m : Mg} (h : WC mm c S) (hm : mm.1 = some (k, m)) (hf : f < 5) : cI c (100 + f) k = nI (m f) := (WC_fr h hm).1 f hf
theorem c_onPrepare {mm : Kp} {N : Nat} {c : vC} {S : Sx} {r k : Nat} {m : Mg} {R : Rp} (hC : Cx S) (h : WC mm c (S.set r R)) (hr : r < S.N) (h6 : R.1 6 = 1) (hfl : S.fl.length ≤ 200) (hO : OkR S R) (hm : mm.1 = some (k, m)) (hb : m 3 < 65536) (hs : m 4 < 65536) (h0 : ∀ s, R.1 9 < s → s ≤ R.1 7 → 0 < S.lg s) : tr (F_X7_onPrepare N c r k) (fun c' => WC mm c' (y_prepared (S.set r R) r (m 1) (m 3) (m 4))) := by
  have h7 := hO.2.2.2.2.1
  have h8 := hO.2.2.2.2.2.1
  have h9 := hO.2.2.2.2.2.2.2.1
  have h10 := okv hO 10 (by decide)
  unfold F_X7_onPrepare
  rw [WC_ix h hr h6, fr_i (f := 4) h hm (by decide), WC_i h hr h6 (show sci 712 = some 10 from rfl), fr_i (f := 3) h hm (by decide), fr_i (f := 1) h hm (by decide)]
  refine tr_lt (by omega) (by omega) (fun c1 => ?_) (fun c1 => ?_)
  · have c' : ¬ m 4 ≤ R.1 7 := by omega
    refine tr_le (by omega) (by omega) (fun c2 => ?_) (fun c2 => ?_)
    · rw [prep_2 c' (by omega)]
      refine tr_jnK (fun M' => (y_pr1 (S.set r R) r (m 3)).2 = true ∧ WC mm M' (y_pr1 (S.set r R) r (m 3)).1) (fun M1 hw => ?_) (fun k' hk => ?_)
      · obtain ⟨c3, w1⟩ := hw
        rw [if_pos c3]
        have hR : ∃ R', (y_pr1 (S.set r R) r (m 3)).1 = S.set r R' ∧ R'.1 6 = 1 ∧ R'.1 7 = R.1 7 := by
          unfold y_pr1 at c3 ⊢
          rw [set_rp] at c3 ⊢
          split
          · rename_i c4
            rw [if_pos c4] at c3
            obtain ⟨R', eR, f1, _⟩ := notePr_t c3
            exact ⟨R', eR, (f1 6 (by decide) (by decide) (by decide) (by decide) (by decide) (by decide)).trans h6, f1 7 (by decide) (by decide) (by decide) (by decide) (by decide) (by decide)⟩
          · exact ⟨R, rfl, h6, rfl⟩
        obtain ⟨R', eR, q6, q7⟩ := hR
        rw [eR] at w1 ⊢
        rw [set_rp, set_set]
        refine tr_bind (c_follow w1) fun M2 w2 => ?_
        have F6 : (y_follow R').1 6 = 1 := q6
        have F7 : (y_follow R').1 7 = R.1 7 := q7
        generalize y_follow R' = F at w2 F6 F7 ⊢
        refine tr_b2 (c_sendTo (t := m 1) (kd := 2) (b := m 3) (s := m 4) w2 hr hfl (fr_i (f := 1) w2 hm (by decide)) rfl (fr_i (f := 3) w2 hm (by decide)) (fr_i (f := 4) w2 hm (by decide))) fun M3 v hv => ?_
        obtain ⟨o, e, ho, z1, g1, g2, _⟩ := hv
        dsimp only at e z1 g1 g2
        subst e
        have w3 := g2 (by decide)
        have w3' := WC_ss w3
        obtain ⟨s1, s2, s3, s4, s5, s6⟩ := send_o (S.set r F) (y_msg 2 r (m 1) (m 3) (m 4) 0 0 0)
        have eN : r < (y_send (S.set r F) (y_msg 2 r (m 1) (m 3) (m 4) 0 0 0)).N := by rw [show (y_send (S.set r F) (y_msg 2 r (m 1) (m 3) (m 4) 0 0 0)).N = S.N from s5 1 (by decide) (by decide)]; exact hr
        refine tr_l1 ?_
        have hp := WC_p w3' eN F6 (show pci 713 = some 12 from rfl)
        rw [show ((y_send (S.set r F) (y_msg 2 r (m 1) (m 3) (m 4) 0 0 0)).tb) = S.tb from s2] at hp
        unfold y_pr2
        by_cases q0 : F.1 12 = 0
        · rw [hp.1 q0, oc_n, if_neg (fun x => by have := x.2; omega)]
          exact tr_some w3
        · obtain ⟨a, ea, ha⟩ := hp.2 (by omega)
          rw [ea, oc_s, fr_i (f := 4) w3 hm (by decide), WC_ix w3' eN F6, nI_add1]
          refine tr_eq (by omega) (by omega) (fun c5 => ?_) (fun c5 => by rw [if_neg (fun x => c5 x.1)]; exact tr_some w3)
          rw [if_pos ⟨c5, by omega⟩]
          refine tr_l1 ?_
          rw [Option.bind_some, gd_ ho, ((WC_a w3' eN).2 F6).2.2.1 (by omega)]
          unfold F_X1_carry
          exact tr_l1 (tr_l1 (tr_some (g1 (by decide) _ _ (some a) (RqO.some (by omega) ha))))
      · refine tr_le (by omega) (by omega) (fun c3 => ?_) (fun c3 => ?_)
        · have e : y_pr1 (S.set r R) r (m 3) = (S.set r R, true) := by
            unfold y_pr1
            rw [set_rp, if_neg (by omega)]
          exact hk _ (by rw [e]; exact ⟨rfl, h⟩)
        · have e : y_pr1 (S.set r R) r (m 3) = y_notePr (S.set r R) r (m 3) := by
            unfold y_pr1
            rw [set_rp, if_pos c3]
          rw [e] at hk ⊢
          refine tr_b2 (c_promise hC h hr h6 hO hb) fun M2 v hv => ?_
          obtain ⟨e1, w1⟩ := hv
          dsimp only at e1 w1
          rw [e1]
          refine tr_if (fun c4 => ?_) (fun c4 => hk _ ⟨c4, w1⟩)
          rw [if_neg (by rw [c4]; decide)]
          exact tr_some w1
    · rw [prep_1 c' c2]
      exact tr_bind (c_deny h hr h6 hfl rfl) fun M3 w3 => tr_some w3
  · rw [prep_0 c1]
    exact tr_bind (c_help hC h hr h6 hfl (by omega) h8 h9 (by omega) (h0 _) rfl rfl) fun M3 w3 => tr_some w3
theorem c_is {mm : Kp} {N : Nat} {c : vC} {S : Sx} {r ro b : Nat} {R : Rp} {c2 : Int32} (h : WC mm c (S.set r R)) (hr : r < S.N) (h6 : R.1 6 = 1) (h19 : R.1 19 < 2 ^ 31) (h20 : R.1 20 < 2 ^ 31) (hro : ro < 2 ^ 31) (hb : b < 2 ^ 31) (e2 : c2 = nI b) : F_X4_is N c r (nI ro) c2 = some (c, if R.1 19 = ro ∧ R.1 20 = b then (1 : Int32) else 0) := by
  unfold F_X4_is
  rw [WC_i h hr h6 (show sci 400 = some 19 from rfl), WC_i h hr h6 (show sci 401 = some 20 from rfl), e2]
  by_cases c1 : R.1 19 = ro
  · rw [if_pos (by rw [c1])]
    by_cases c3 : R.1 20 = b
    · rw [if_pos (by rw [c3]), zb1, if_pos ⟨c1, c3⟩]
    · rw [if_neg (fun x => c3 (nI_inj (by omega) (by omega) x)), zb0, if_neg (fun x => c3 x.2)]
  · rw [if_neg (fun x => c1 (nI_inj (by omega) (by omega) x)), zb0, if_neg (fun x => c1 x.1)]
theorem tr_i1 {ρ : Type} {p : Prop} [Decidable p] {x y : Option ρ} {Q : ρ → Prop} (h0 : ¬ p → tr x Q) (h1 : p → tr y Q) : tr (if (if p then (1 : Int32) else 0) = 0 then x else y) Q := by
  by_cases c : p
  · rw [if_pos c, if_neg (by decide)]; exact h1 c
  · rw [if_neg c, if_pos rfl]; exact h0 c
theorem c_onAccept {mm : Kp} {N : Nat} {c : vC} {S : Sx} {r k : Nat} {m : Mg} {R : Rp} (hC : Cx S) (h : WC mm c (S.set r R)) (hr : r < S.N) (h6 : R.1 6 = 1) (hfl : S.fl.length ≤ 200) (hO : OkR S R) (hF : FoOk R) (hm : mm.1 = some (k, m)) (hb : m 3 < 65536) (hs : m 4 < 65536) (hq0 : 0 < m 5) (hq : m 5 < S.1 4) (h0 : ∀ s, R.1 9 < s → s ≤ R.1 7 → 0 < S.lg s) : tr (F_X7_onAccept N c r k) (fun c' => WC mm c' (y_gotAccept (S.set r R) r (m 1) (m 3) (m 4) (m 5))) := by
  have h7 := hO.2.2.2.2.1
  have h8 := hO.2.2.2.2.2.1
  have h9 := hO.2.2.2.2.2.2.2.1
  have h10 := okv hO 10 (by decide)
  have h19 := okv hO 19 (by decide)
  have h19' : R.1 19 ≤ 2 := hO.1 19
  have h20 := okv hO 20 (by decide)
  unfold F_X7_onAccept
  rw [WC_ix h hr h6, fr_i (f := 4) h hm (by decide), WC_i h hr h6 (show sci 712 = some 10 from rfl), fr_i (f := 3) h hm (by decide), fr_i (f := 1) h hm (by decide), nI_add1]
  refine tr_lt (by omega) (by omega) (fun c1 => ?_) (fun c1 => ?_)
  · refine tr_le (by omega) (by omega) (fun c2 => ?_) (fun c2 => ?_)
    · have cs : m 4 = R.1 7 + 1 := by omega
      refine tr_le (by omega) (by omega) (fun c3 => ?_) (fun c3 => ?_)
      · refine tr_l1 ?_
        obtain ⟨a, ea, ha⟩ := (WC_fr h hm).2.1.2 hq0
        rw [ea, oc_s]
        refine tr_l1 ?_
        refine tr_b2 (c_accept hC h hr h6 hO ha hq0 hq hb) fun M1 v hv => ?_
        obtain ⟨e1, w1⟩ := hv
        dsimp only at e1 w1
        rw [e1]
        refine tr_if (fun c4 => by rw [ga_3 cs (by omega) c4]; exact tr_some w1) (fun c4 => ?_)
        obtain ⟨R', eR, f1, f2⟩ := acc_t c4
        rw [ga_4 cs (by omega) c4 eR]
        rw [eR] at w1
        have k6 : R'.1 6 = 1 := (f1 6 (by decide) (by decide) (by decide) (by decide) (by decide) (by decide) (by decide) (by decide)).trans h6
        have k19 : R'.1 19 = R.1 19 := f1 19 (by decide) (by decide) (by decide) (by decide) (by decide) (by decide) (by decide) (by decide)
        have k20 : R'.1 20 = R.1 20 := f1 20 (by decide) (by decide) (by decide) (by decide) (by decide) (by decide) (by decide) (by decide)
        have k21 : R'.1 21 = R.1 21 := f1 21 (by decide) (by decide) (by decide) (by decide) (by decide) (by decide) (by decide) (by decide)
        have k22 : R'.1 22 = R.1 22 := f1 22 (by decide) (by decide) (by decide) (by decide) (by decide) (by decide) (by decide) (by decide)
        have k23 : R'.1 23 = R.1 23 := f1 23 (by decide) (by decide) (by decide) (by decide) (by decide) (by decide) (by decide) (by decide)
        have k24 : R'.1 24 = R.1 24 := f1 24 (by decide) (by decide) (by decide) (by decide) (by decide) (by decide) (by decide) (by decide)
        rw [show (2 : Int32) = nI 2 from rfl, c_is w1 hr k6 (by omega) (by omega) (by decide) (by omega) (fr_i (f := 3) w1 hm (by decide)), b2_]
        refine tr_jnK (fun M' => WC mm M' (S.set r (if R'.1 19 = 1 ∨ (R'.1 19 = 2 ∧ ¬ R'.1 20 = m 3) then y_follow R' else R'))) (fun M2 w2 => ?_) (fun k' hk => ?_)
        · refine tr_uI 0 w2 rfl fun M3 w3 => ?_
          refine tr_b2 (c_sendTo (t := m 1) (kd := 4) (b := m 3) (s := m 4) w3 hr hfl (fr_i (f := 1) w3 hm (by decide)) rfl (fr_i (f := 3) w3 hm (by decide)) (fr_i (f := 4) w3 hm (by decide))) fun M4 v hv => ?_
          obtain ⟨o, e, ho, z1, g1, g2, _⟩ := hv
          exact tr_some (g2 (by decide))
        · refine tr_i1 (fun c5 => ?_) (fun c5 => ?_)
          · refine tr_bind (c_follow w1) fun M3 w3 => hk _ ?_
            by_cases c6 : R'.1 19 = 0
            · have hf := hF (by omega)
              have ef : y_follow R' = R' := by
                unfold y_follow
                rw [u_eq (f := 19) c6, u_eq (f := 20) (by rw [k20]; exact hf.1), u_eq (f := 21) (by rw [k21]; exact hf.2.1), u_eq (f := 22) (by rw [k22]; exact hf.2.2.1), u_eq (f := 23) (by rw [k23]; exact hf.2.2.2.1), u_eq (f := 24) (by rw [k24]; exact hf.2.2.2.2)]
              rw [ef] at w3
              rw [if_neg (by omega)]; exact w3
            · rw [if_pos (by omega)]; exact w3
          · rw [if_neg (by omega)] at hk
            exact hk _ w1
      · rw [ga_2 cs c3]
        exact tr_bind (c_deny h hr h6 hfl rfl) fun M3 w3 => tr_some w3
    · rw [ga_1 c2]
      exact tr_bind (c_ask h hr h6 hfl rfl) fun M3 w3 => tr_some w3
  · rw [ga_0 c1]
    exact tr_bind (c_help hC h hr h6 hfl (by omega) h8 h9 (by omega) (h0 _) rfl rfl) fun M3 w3 => tr_some w3
theorem fo_id {R : Rp} (hF : FoOk R) (h : R.1 19 = 0) : y_follow R = R := by
  obtain ⟨a, b, c, d, e⟩ := hF h
  unfold y_follow
  rw [u_eq (f := 19) h, u_eq (f := 20) a, u_eq (f := 21) b, u_eq (f := 22) c, u_eq (f := 23) d, u_eq (f := 24) e]
theorem c_above {mm : Kp} {N : Nat} {c : vC} {S : Sx} {r b : Nat} {R : Rp} {c1 : Int32} (h : WC mm c (S.set r R)) (hr : r < S.N) (h6 : R.1 6 = 1) (hF : FoOk R) (h20 : R.1 20 < 2 ^ 31) (hb : b < 2 ^ 31) (e1 : c1 = nI b) : tr (F_X4_followAbove N c r c1) (fun c' => WC mm c' (S.set r (y_above R b))) := by
  unfold F_X4_followAbove y_above
  rw [WC_i h hr h6 (show sci 401 = some 20 from rfl), e1]
  refine tr_le (by omega) (by omega) (fun c2 => by rw [if_neg (by omega)]; exact tr_some h) (fun c2 => ?_)
  refine tr_bind (c_follow h) fun c3 w3 => tr_some ?_
  by_cases c4 : R.1 19 = 0
  · rw [fo_id hF c4] at w3
    rw [if_neg (by omega)]; exact w3
  · rw [if_pos (by omega)]; exact w3
theorem c_onBeat {mm : Kp} {N : Nat} {c : vC} {S : Sx} {r k : Nat} {m : Mg} {R : Rp} (hC : Cx S) (h : WC mm c (S.set r R)) (hr : r < S.N) (h6 : R.1 6 = 1) (hfl : S.fl.length ≤ 200) (hO : OkR S R) (hF : FoOk R) (hm : mm.1 = some (k, m)) (hb : m 3 < 65536) (hs : m 4 < 65536) (h0 : ∀ s, R.1 9 < s → s ≤ R.1 7 → 0 < S.lg s) : tr (F_X7_onBeat N c r k) (fun c' => WC mm c' (y_gotBeat (S.set r R) r (m 1) (m 3) (m 4))) := by
  have h7 := hO.2.2.2.2.1
  have h8 := hO.2.2.2.2.2.1
  have h9 := hO.2.2.2.2.2.2.2.1
  have h10 := okv hO 10 (by decide)
  have h20 := okv hO 20 (by decide)
  unfold F_X7_onBeat
  rw [WC_i h hr h6 (show sci 712 = some 10 from rfl), fr_i (f := 3) h hm (by decide), fr_i (f := 1) h hm (by decide)]
  refine tr_le (by omega) (by omega) (fun c1 => ?_) (fun c1 => ?_)
  · rw [gb_1 (by omega)]
    refine tr_uI 0 h rfl fun M1 w1 => ?_
    refine tr_bind (c_above (b := m 3) w1 hr h6 (show FoOk (R.u 13 0) from hF) (show R.1 20 < 2 ^ 31 by omega) (by omega) (fr_i (f := 3) w1 hm (by decide))) fun M2 w2 => ?_
    have d6 : (y_above (R.u 13 0) (m 3)).1 6 = 1 := (above_o (by decide)).trans h6
    have d7 : (y_above (R.u 13 0) (m 3)).1 7 = R.1 7 := above_o (by decide)
    have d8 : (y_above (R.u 13 0) (m 3)).1 8 = R.1 8 := above_o (by decide)
    have d9 : (y_above (R.u 13 0) (m 3)).1 9 = R.1 9 := above_o (by decide)
    rw [← d7, ← d9] at h0
    rw [← d7]
    generalize y_above (R.u 13 0) (m 3) = R1 at w2 d6 d7 d8 d9 h0 ⊢
    rw [fr_i (f := 4) w2 hm (by decide), WC_ix w2 hr d6, fr_i (f := 1) w2 hm (by decide), nI_add1]
    refine tr_le (by omega) (by omega) (fun c2 => ?_) (fun c2 => ?_)
    · rw [if_neg (show ¬ R1.1 7 < m 4 by omega)]
      refine tr_le (by omega) (by omega) (fun c3 => by rw [if_neg (show ¬ m 4 < R1.1 7 by omega)]; exact tr_some w2) (fun c3 => ?_)
      rw [if_pos c3]
      exact tr_bind (c_help hC w2 hr d6 hfl (by omega) (by omega) (by omega) (by omega) (h0 _) rfl rfl) fun M3 w3 => tr_some w3
    · rw [if_pos c2]
      exact tr_bind (c_ask w2 hr d6 hfl rfl) fun M3 w3 => tr_some w3
  · rw [gb_0 c1]
    exact tr_bind (c_deny h hr h6 hfl rfl) fun M3 w3 => tr_some w3
theorem c_onChosen {mm : Kp} {N : Nat} {c : vC} {S : Sx} {r k : Nat} {m : Mg} {R : Rp} (hC : Cx S) (h : WC mm c (S.set r R)) (hr : r < S.N) (h6 : R.1 6 = 1) (hfl : S.fl.length ≤ 200) (hO : OkR S R) (hF : FoOk R) (hm : mm.1 = some (k, m)) (hs : m 4 < 65536) (hq0 : 0 < m 5) (hq : m 5 < S.1 4) (hL : LgC mm (S.set r R)) (hlg : m 4 = R.1 7 + 1 → R.1 7 + 1 ≤ S.ll → S.lg (R.1 7 + 1) = m 5) (hW : SeW S) : tr (F_X7_onChosen N c r k) (fun c' => WC mm c' (if m 4 = R.1 7 + 1 then (y_learn (S.set r R) r (m 5)).1 else if R.1 7 + 1 < m 4 then y_send (S.set r R) (y_msg 6 r (m 1) 0 (R.1 7 + 1) 0 0 0) else S.set r R)) := by
  have h7 := hO.2.2.2.2.1
  unfold F_X7_onChosen
  rw [WC_ix h hr h6, fr_i (f := 4) h hm (by decide), fr_i (f := 1) h hm (by decide), nI_add1]
  refine tr_le (by omega) (by omega) (fun c1 => ?_) (fun c1 => ?_)
  · refine tr_eq (by omega) (by omega) (fun c2 => ?_) (fun c2 => by rw [if_neg c2, if_neg (by omega)]; exact tr_some h)
    rw [if_pos c2]
    refine tr_l1 ?_
    obtain ⟨a, ea, ha⟩ := (WC_fr h hm).2.1.2 hq0
    rw [ea, oc_s]
    refine tr_l1 ?_
    exact tr_b2 (c_learn hC h hr h6 hO hF ha hq0 hq hL (hlg c2) hW) fun M1 v hv => tr_some hv.2
  · rw [if_neg (by omega), if_pos c1]
    exact tr_bind (c_ask h hr h6 hfl rfl) fun M3 w3 => tr_some w3
theorem c_onForward {mm : Kp} {N : Nat} {c : vC} {S : Sx} {r k : Nat} {m : Mg} {R : Rp} (hC : Cx S) (h : WC mm c (S.set r R)) (hr : r < S.N) (h6 : R.1 6 = 1) (hO : OkR S R) (hm : mm.1 = some (k, m)) (hq0 : 0 < m 5) (hU : ∀ q', q' ∈ R.2.1 → (S.tb q').1 0 = (S.tb (m 5)).1 0 → (S.tb q').1 1 = (S.tb (m 5)).1 1 → q' = m 5) : tr (F_X7_onForward N c r k) (fun c' => WC mm c' (y_gotForward (S.set r R) r (m 5))) := by
  unfold F_X7_onForward y_gotForward
  refine tr_l1 ?_
  obtain ⟨a, ea, ha⟩ := (WC_fr h hm).2.1.2 hq0
  rw [ea, oc_s]
  refine tr_l1 ?_
  rw [c_isNew hC h hr h6 ha, b2_]
  cases cf : y_known (S.set r R) r (m 5)
  · rw [if_neg (show ¬ false = true by decide), if_neg (show ¬ (1 : Int32) = 0 by decide), if_neg (show ¬ false = true by decide)]
    refine tr_l1 ?_
    rw [ea]
    exact tr_bind (c_add hC h hr h6 hO.2.2.2.1 ha hq0 hU) fun M1 w1 => tr_some w1
  · rw [if_pos rfl, if_pos rfl, if_pos rfl]
    exact tr_some h
