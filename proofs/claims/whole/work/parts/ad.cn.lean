/-! ===== the class proposes, campaigns, ticks ===== -/
theorem tr_uP {ρ : Type} {mm : Kp} {c : vC} {S : Sx} {r f g q : Nat} {o : Option Nat} {R : Rp} {K : vC → Option ρ} {Q : ρ → Prop} (h : WC mm c (S.set r R)) (hf : pci f = some g) (hg : g ≠ 12) (ho : RqO c S.tb o q) (k : ∀ c', WC mm c' (S.set r (R.u g q)) → tr (K c') Q) : tr (lt1 (uP c f r o) K) Q := tr_l1 (k _ (WC_P h hf hg ho))
theorem c_propose {mm : Kp} {N : Nat} {c : vC} {S : Sx} {r q a : Nat} {R : Rp} (hC : Cx S) (h : WC mm c (S.set r R)) (hr : r < S.N) (h6 : R.1 6 = 1) (hfl : S.fl.length ≤ 200) (hO : OkR S R) (ha : RqA c a (S.tb q)) (h0 : 0 < q) (hq : q < S.1 4) : tr (F_X7_propose N c r (some a)) (fun c' => WC mm c' (y_proposeIt (S.set r R) r q)) := by
  have hr9 : r < 9 := by have := hC.N; omega
  have h20 := okv hO 20 (by decide)
  unfold F_X7_propose
  rw [oc_s, WC_i h hr h6 (show sci 401 = some 20 from rfl)]
  refine tr_b2 (c_accept hC (WC_add h ha) hr h6 hO ha h0 hq h20) fun c1 v hv => ?_
  obtain ⟨e1, w1⟩ := hv
  dsimp only at e1 w1
  rw [e1]
  refine tr_if (fun c => ?_) (fun c => ?_)
  · rw [prop_eq0 c]
    exact tr_some (WC_sub w1)
  · obtain ⟨R', eR, f1, f2, f3, f4, f5, f6, f7⟩ := acc_t c
    rw [prop_eq1 c eR]
    rw [eR] at w1
    have r6 : R'.1 6 = 1 := (f1 6 (by decide) (by decide) (by decide) (by decide) (by decide) (by decide) (by decide) (by decide)).trans h6
    unfold F_X4_propose
    rw [WC_700 w1 hr, shl1 hr9]
    refine tr_bind (P := fun c2 => WC (mm.1, (a, q) :: mm.2) c2 (S.set r ((R'.u 22 q).u 21 (2 ^ r)))) ?_ fun c2 w2 => ?_
    · refine tr_uP w1 (show pci 403 = some 22 from rfl) (by decide) (RqO.some h0 (WC_rq (mm := mm) (S := S.set r R') w1)) fun c2 w2 => ?_
      exact tr_uI _ w2 rfl fun c3 w3 => tr_some w3
    · refine tr_uI 0 w2 rfl fun c3 w3 => ?_
      rw [WC_i w3 hr r6 (show sci 401 = some 20 from rfl), WC_ix w3 hr r6]
      refine tr_bind (c_sendAll (kd := 3) (b := R'.1 20) (s := R'.1 7 + 1) (q := q) (hC.set r _) w3 hr hfl (by decide) (RqO.some h0 (WC_rq (mm := mm) (S := S.set r (((R'.u 22 q).u 21 (2 ^ r)).u 13 0)) w3)) rfl rfl (nI_add1 _)) fun c4 w4 => ?_
      exact tr_some (WC_sub w4)
def AcOk (R : Rp) : Prop := (R.1 12 = 0 → R.1 11 = 0) ∧ (0 < R.1 12 → 0 < R.1 11)
def TlOk (R : Rp) : Prop := R.1 23 = 0 → R.1 24 = 0
def y_hear (R : Rp) (q bal : Nat) : Rp := if 0 < q ∧ R.1 24 < bal then (R.u 23 q).u 24 bal else R
theorem c_hear {mm : Kp} {N : Nat} {c : vC} {S : Sx} {r q bal : Nat} {o : Option Nat} {R : Rp} {c2 : Int32} (h : WC mm c (S.set r R)) (hr : r < S.N) (h6 : R.1 6 = 1) (hT : TlOk R) (ho : RqO c S.tb o q) (hb : 0 < q → 0 < bal ∧ c2 = nI bal) (hbb : bal < 2 ^ 31) (h24 : R.1 24 < 2 ^ 31) : tr (F_X4_hear N c r o c2) (fun c' => WC mm c' (S.set r (y_hear R q bal))) := by
  unfold F_X4_hear
  by_cases q0 : q = 0
  · rw [ho.1 q0, oc_n, show y_hear R q bal = R from if_neg (by omega)]
    exact tr_some h
  · obtain ⟨a, ea, ha⟩ := ho.2 (by omega)
    obtain ⟨b0, e2⟩ := hb (by omega)
    rw [ea, oc_s, e2]
    refine tr_l1 ?_
    have hp := WC_p h hr h6 (show pci 404 = some 23 from rfl)
    refine tr_jnK (fun _ : Unit => R.1 24 < bal) (fun _ hlt => ?_) (fun k hk => ?_)
    · rw [show y_hear R q bal = (R.u 23 q).u 24 bal from if_pos ⟨by omega, hlt⟩]
      refine tr_uP h (show pci 404 = some 23 from rfl) (by decide) (RqO.some (by omega) ha) fun c3 w3 => ?_
      exact tr_uI _ w3 rfl fun c4 w4 => tr_some w4
    · by_cases c0 : R.1 23 = 0
      · rw [hp.1 c0, oc_n]
        exact hk _ (by rw [hT c0]; exact b0)
      · obtain ⟨a', ea', _⟩ := hp.2 (by omega)
        rw [ea', oc_s, WC_i h hr h6 (show sci 405 = some 24 from rfl)]
        refine tr_le (by omega) (by omega) (fun c1 => ?_) (fun c1 => hk _ c1)
        rw [show y_hear R q bal = R from if_neg (by omega)]
        exact tr_some h
theorem c_campaign {mm : Kp} {N : Nat} {c : vC} {S : Sx} {r : Nat} {R : Rp} (hC : Cx S) (h : WC mm c (S.set r R)) (hr : r < S.N) (h6 : R.1 6 = 1) (hfl : S.fl.length ≤ 200) (hO : OkR S R) (hA : AcOk R) (hbd : max (R.1 10) (R.1 25) + 9 < 65536) : tr (F_X7_campaign N c r) (fun c' => WC mm c' (y_campaign (S.set r R) r)) := by
  have hN := hC.N
  have hr9 : r < 9 := by omega
  have b10 := okv hO 10 (by decide)
  have b25 := okv hO 25 (by decide)
  have hN3 : 3 ≤ S.N := hC.1
  obtain ⟨n1, n2, n3⟩ := next_gt (m := max (R.1 10) (R.1 25)) hr
  unfold F_X7_campaign
  rw [WC_701 h hr, WC_i h hr h6 (show sci 712 = some 10 from rfl), WC_i h hr h6 (show sci 715 = some 25 from rfl), mx_n (by omega) (by omega), WC_700 h hr, nI_mod (by omega) (by omega), nI_sub (Nat.mod_le _ _), nI_add, nI_add]
  refine tr_gd (fun e => by have := nI_inj (b := 0) (by omega) (by decide) e; omega) ?_
  refine tr_jnK (fun v => v = nI (y_next S.N r (max (R.1 10) (R.1 25)))) (fun v hv => ?_) (fun k hk => ?_)
  · subst hv
    refine tr_b2 (c_promise hC h hr h6 hO (by omega)) fun c1 v hv => ?_
    obtain ⟨e1, w1⟩ := hv
    dsimp only at e1 w1
    rw [e1]
    refine tr_if (fun c => by rw [camp_eq0 c]; exact tr_some w1) (fun c => ?_)
    obtain ⟨R', eR, f1, f2, f3, f4⟩ := notePr_t c
    rw [camp_eq1 c eR]
    rw [eR] at w1
    have r6 : R'.1 6 = 1 := (f1 6 (by decide) (by decide) (by decide) (by decide) (by decide) (by decide)).trans h6
    have r12 : R'.1 12 = R.1 12 := f1 12 (by decide) (by decide) (by decide) (by decide) (by decide) (by decide)
    have r11 : R'.1 11 = R.1 11 := f1 11 (by decide) (by decide) (by decide) (by decide) (by decide) (by decide)
    have b11 := okv hO 11 (by decide)
    unfold F_X4_stand
    rw [WC_700 w1 hr, shl1 hr9]
    refine tr_bind (P := fun c2 => WC mm c2 (S.set r ((((y_follow R').u 19 1).u 20 (y_next S.N r (max (R.1 10) (R.1 25)))).u 21 (2 ^ r)))) ?_ fun c2 w2 => ?_
    · refine tr_bind (c_follow w1) fun c2 w2 => ?_
      refine tr_uI 1 w2 rfl fun c3 w3 => ?_
      refine tr_uI _ w3 rfl fun c4 w4 => ?_
      exact tr_uI _ w4 rfl fun c5 w5 => tr_some w5
    · have hF6 : ((((y_follow R').u 19 1).u 20 (y_next S.N r (max (R.1 10) (R.1 25)))).u 21 (2 ^ r)).1 6 = 1 := r6
      have k23 : ((((y_follow R').u 19 1).u 20 (y_next S.N r (max (R.1 10) (R.1 25)))).u 21 (2 ^ r)).1 23 = 0 := rfl
      have k24 : ((((y_follow R').u 19 1).u 20 (y_next S.N r (max (R.1 10) (R.1 25)))).u 21 (2 ^ r)).1 24 = 0 := rfl
      have k12 : ((((y_follow R').u 19 1).u 20 (y_next S.N r (max (R.1 10) (R.1 25)))).u 21 (2 ^ r)).1 12 = R'.1 12 := rfl
      have k11 : ((((y_follow R').u 19 1).u 20 (y_next S.N r (max (R.1 10) (R.1 25)))).u 21 (2 ^ r)).1 11 = R'.1 11 := rfl
      have k7 : ((((y_follow R').u 19 1).u 20 (y_next S.N r (max (R.1 10) (R.1 25)))).u 21 (2 ^ r)).1 7 = R'.1 7 := rfl
      rw [← k12, ← k11, ← k7]
      generalize (((y_follow R').u 19 1).u 20 (y_next S.N r (max (R.1 10) (R.1 25)))).u 21 (2 ^ r) = F at w2 hF6 k23 k24 k12 k11 k7 ⊢
      refine tr_l1 ?_
      have hrp := (WC_a w2 hr).2 hF6
      refine tr_bind (c_hear (q := F.1 12) (bal := F.1 11) w2 hr hF6 (fun _ => k24) (WC_p w2 hr hF6 (show pci 713 = some 12 from rfl)) (fun hp => ⟨by rw [k11, r11]; exact hA.2 (by rw [← r12, ← k12]; exact hp), hrp.2.2.1 hp⟩) (by omega) (by omega)) fun c3 w3 => ?_
      have eh : y_hear F (F.1 12) (F.1 11) = (F.u 23 (F.1 12)).u 24 (F.1 11) := by
        unfold y_hear
        by_cases q0 : F.1 12 = 0
        · have e11 : F.1 11 = 0 := by rw [k11, r11]; exact hA.1 (by rw [← r12, ← k12]; exact q0)
          rw [if_neg (by omega), q0, e11, u_eq k23, u_eq k24]
        · have e11 : 0 < F.1 11 := by rw [k11, r11]; exact hA.2 (by omega)
          rw [if_pos ⟨by omega, by omega⟩]
      rw [eh] at w3
      refine tr_uI 0 w3 rfl fun c4 w4 => ?_
      rw [WC_ix w4 hr hF6]
      refine tr_bind (c_sendAll (kd := 1) (s := F.1 7 + 1) (q := 0) (hC.set r _) w4 hr hfl (by decide) (RqO.none _ _) rfl rfl (nI_add1 _)) fun c5 w5 => ?_
      exact tr_some w5
  · generalize max (R.1 10) (R.1 25) = m at n1 n2 n3 hbd hk ⊢
    have hml := Nat.mod_le m S.N
    refine tr_lt (by omega) (by omega) (fun c1 => hk _ ?_) (fun c1 => ?_)
    · unfold y_next
      rw [if_neg (by omega)]
    · refine hk _ ?_
      unfold y_next
      rw [if_pos c1]
theorem c_remind {mm : Kp} {N : Nat} {c : vC} {S : Sx} {r : Nat} {R : Rp} (hC : Cx S) (h : WC mm c (S.set r R)) (hr : r < S.N) (h6 : R.1 6 = 1) (hfl : S.fl.length ≤ 200) : tr (F_X7_remind N c r) (fun c' => WC mm c' (if 0 < R.1 22 then y_sendAll (S.set r (R.u 13 0)) 3 r (R.1 20) (R.1 7 + 1) (R.1 22) else y_sendAll (S.set r (R.u 13 0)) 10 r (R.1 20) (R.1 7) 0)) := by
  unfold F_X7_remind
  refine tr_uI 0 h rfl fun c1 w1 => ?_
  have h6' : (R.u 13 0).1 6 = 1 := h6
  refine tr_l1 ?_
  have hp := WC_p w1 hr h6' (show pci 403 = some 22 from rfl)
  rw [WC_i w1 hr h6' (show sci 401 = some 20 from rfl), WC_ix w1 hr h6']
  by_cases q0 : R.1 22 = 0
  · rw [hp.1 q0, oc_n, if_neg (by omega)]
    exact tr_bind (c_sendAll (kd := 10) (q := 0) (hC.set r _) w1 hr hfl (by decide) (RqO.none _ _) rfl rfl rfl) fun c5 w5 => tr_some w5
  · obtain ⟨a, ea, ha⟩ := hp.2 (show 0 < R.1 22 by omega)
    rw [ea, oc_s, if_pos (by omega)]
    refine tr_l1 ?_
    exact tr_bind (c_sendAll (kd := 3) (s := R.1 7 + 1) (q := R.1 22) (hC.set r _) w1 hr hfl (by decide) (RqO.some (by omega) ha) rfl rfl (nI_add1 _)) fun c5 w5 => tr_some w5
theorem c_forward {mm : Kp} {N : Nat} {c : vC} {S : Sx} {r : Nat} {R : Rp} (hC : Cx S) (h : WC mm c (S.set r R)) (hr : r < S.N) (h6 : R.1 6 = 1) (hfl : S.fl.length ≤ 200) (hQ : QOk S R) (hl : 0 < R.2.1.length) (h25 : R.1 25 < 2 ^ 30) : tr (F_X7_forward N c r) (fun c' => WC mm c' (if 0 < R.1 25 ∧ ¬ R.1 25 % S.N = r then y_send (S.set r R) (y_msg 9 r (R.1 25 % S.N) 0 0 (R.2.1.headD 0) 0 0) else S.set r R)) := by
  have hN := hC.N
  have hN3 : 3 ≤ S.N := hC.1
  unfold F_X7_forward
  rw [WC_701 h hr, WC_i h hr h6 (show sci 715 = some 25 from rfl), WC_700 h hr, nI_mod h25 (by omega)]
  refine tr_gd (fun e => by have := nI_inj (b := 0) (by omega) (by decide) e; omega) ?_
  refine tr_le (b := 0) (by omega) (by decide) (fun c1 => by rw [if_neg (fun x => by have := x.1; omega)]; exact tr_some h) (fun c1 => ?_)
  have hml : R.1 25 % S.N < S.N := Nat.mod_lt _ (by omega)
  refine tr_eq (by omega) (by omega) (fun c2 => by rw [if_neg (fun x => x.2 c2)]; exact tr_some h) (fun c2 => ?_)
  rw [if_pos ⟨c1, c2⟩]
  obtain ⟨a, ea, ha, hh⟩ := c_first (N := N) h hr h6 hQ hl
  refine tr_b2 (c_sendTo (kd := 9) (b := 0) (s := 0) h hr hfl rfl rfl rfl rfl) fun M v hv => ?_
  obtain ⟨o, e, ho, z1, g1, g2, _⟩ := hv
  dsimp only at e z1 g1 g2
  subst e
  obtain ⟨s1, s2, s3, s4, s5, s6⟩ := send_o (S.set r R) (y_msg 9 r (R.1 25 % S.N) 0 0 0 0 0)
  have w2 := g2 (by decide)
  have w2' : WC mm M ((y_send (S.set r R) (y_msg 9 r (R.1 25 % S.N) 0 0 0 0 0)).set r R) := by
    have : (y_send (S.set r R) (y_msg 9 r (R.1 25 % S.N) 0 0 0 0 0)).rp r = R := by rw [s1, set_rp]
    have e := set_id (y_send (S.set r R) (y_msg 9 r (R.1 25 % S.N) 0 0 0 0 0)) r
    rw [this] at e
    rw [e]; exact w2
  have eN : (y_send (S.set r R) (y_msg 9 r (R.1 25 % S.N) 0 0 0 0 0)).N = S.N := s5 1 (by decide) (by decide)
  have e4 : (y_send (S.set r R) (y_msg 9 r (R.1 25 % S.N) 0 0 0 0 0)).1 4 = S.1 4 := s5 4 (by decide) (by decide)
  obtain ⟨a2, ea2, ha2, hh2⟩ := c_first (N := N) w2' (by rw [eN]; exact hr) h6 ⟨hQ.1, fun q hq => by rw [e4]; exact hQ.2 q hq⟩ hl
  rw [s2] at ha2
  rw [ea2, b2_, Option.bind_some, gd_ ho]
  unfold F_X1_carry
  exact tr_l1 (tr_l1 (tr_some (g1 (by decide) _ 0 (some a2) (RqO.some hh ha2))))
theorem c_tick {mm : Kp} {N : Nat} {c : vC} {S : Sx} {r : Nat} (hC : Cx S) (h : WC mm c S) (hr : r < S.N) (hfl : S.fl.length ≤ 200) (hO : OkR S (S.rp r)) (hA : AcOk (S.rp r)) (h6 : (S.rp r).1 6 = 1) (b13 : (S.rp r).1 13 + 1 < 65536) (hbd : max ((S.rp r).1 10) ((S.rp r).1 25) + 9 < 65536) : tr (F_X7_tick N c r) (fun c' => WC mm c' (y_tick S r)) := by
  have hN := hC.N
  have hN3 : 3 ≤ S.N := hC.1
  have hr9 : r < 9 := by omega
  have hT : S.T ≤ 40 := hC.2.2.2.2.2.2.2.1
  have h' : WC mm c (S.set r (S.rp r)) := by rw [set_id]; exact h
  rw [show y_tick S r = y_tick (S.set r (S.rp r)) r by rw [set_id]]
  unfold F_X7_tick
  rw [WC_i h' hr h6 (show sci 716 = some 13 from rfl), nI_add1]
  refine tr_uI _ h' rfl fun c1 w => ?_
  have o1 : OkR S ((S.rp r).u 13 ((S.rp r).1 13 + 1)) := hO.u rfl b13
  have hbd' : max (((S.rp r).u 13 ((S.rp r).1 13 + 1)).1 10) (((S.rp r).u 13 ((S.rp r).1 13 + 1)).1 25) + 9 < 65536 := hbd
  have hA' : AcOk ((S.rp r).u 13 ((S.rp r).1 13 + 1)) := hA
  have g6 : ((S.rp r).u 13 ((S.rp r).1 13 + 1)).1 6 = 1 := h6
  obtain ⟨R, eR⟩ : ∃ R, R = (S.rp r).u 13 ((S.rp r).1 13 + 1) := ⟨_, rfl⟩
  rw [← eR] at w o1 hbd' hA' g6
  have q13 := okv o1 13 (by decide)
  have q19 := okv o1 19 (by decide)
  have q25 := okv o1 25 (by decide)
  have q8 := o1.2.2.2.1.1
  rw [WC_i w hr g6 (show sci 400 = some 19 from rfl)]
  refine tr_eq (b := 2) (by omega) (by decide) (fun c2 => ?_) (fun c2 => ?_)
  · refine tr_l1 ?_
    have hp := WC_p w hr g6 (show pci 403 = some 22 from rfl)
    have rem : ∀ c', WC mm c' (S.set r R) → tr (if (cI c' 716 r) < (cI c' 702 r) then (some c') else ((F_X7_remind N c' r).bind fun M15 => some M15)) (fun c' => WC mm c' (if S.T ≤ R.1 13 then (if 0 < R.1 22 then y_sendAll (S.set r (R.u 13 0)) 3 r (R.1 20) (R.1 7 + 1) (R.1 22) else y_sendAll (S.set r (R.u 13 0)) 10 r (R.1 20) (R.1 7) 0) else S.set r R)) := by
      intro c' w'
      rw [WC_i w' hr g6 (show sci 716 = some 13 from rfl), WC_702 w' hr]
      refine tr_lt (by omega) (by omega) (fun c3 => by rw [if_neg (by omega)]; exact tr_some w') (fun c3 => ?_)
      rw [if_pos c3]
      exact tr_bind (c_remind hC w' hr g6 hfl) fun c5 w5 => tr_some w5
    by_cases q0 : R.1 22 = 0
    · rw [hp.1 q0, tk_2 eR (fun x => by have := x.2; omega) c2]
      refine tr_jnK2 (fun M o => (R.2.1.dropWhile (fun q => y_known (S.set r R) r q) = [] ∧ o = none ∧ WC mm M (S.set r R)) ∨ ∃ q qs a, R.2.1.dropWhile (fun q => y_known (S.set r R) r q) = q :: qs ∧ o = some a ∧ 0 < q ∧ q < S.1 4 ∧ WC mm M (S.set r (R.q (q :: qs))) ∧ RqA M a (S.tb q)) (fun M o hM => ?_) (fun k hk => ?_)
      · rcases hM with ⟨d1, d2, d3⟩ | ⟨q, qs, a, d1, d2, d3, d4, d5, d6⟩
        · have ep : y_propose (S.set r R) r = (S.set r R, false) := by
            unfold y_propose
            rw [set_rp, d1]
          rw [d2, oc_n, ep, if_neg (show ¬ (S.set r R, false).2 = true from fun x => absurd (show false = true from x) (by decide))]
          have := rem M d3
          rw [if_neg (show ¬ 0 < R.1 22 by omega)] at this
          exact this
        · have ep : y_propose (S.set r R) r = (y_proposeIt (S.set r (R.q (q :: qs))) r q, true) := by
            unfold y_propose
            rw [set_rp, d1]
            dsimp only
            rw [set_set]
          rw [d2, oc_s, ep, if_pos rfl]
          have hQ2 : QOk S (R.q (q :: qs)) := by
            have hsub : ∀ x, x ∈ q :: qs → x ∈ R.2.1 := fun x hx => by rw [← d1] at hx; exact (List.dropWhile_sublist _).subset hx
            refine ⟨?_, fun x hx => o1.2.2.2.1.2 x (hsub x hx)⟩
            have := (List.dropWhile_sublist (l := R.2.1) (fun q => y_known (S.set r R) r q)).length_le
            rw [d1] at this
            exact Nat.le_trans this q8
          exact tr_bind (c_propose hC d5 hr g6 hfl (o1.q hQ2) d6 d3 d4) fun c5 w5 => tr_some w5
      · rw [oc_n]
        refine tr_b2 (c_adv hC w hr g6 o1.2.2.2.1) fun M o hM => hk _ _ hM
    · obtain ⟨a, ea, ha⟩ := hp.2 (by omega)
      rw [ea, tk_1 eR ⟨c2, by omega⟩]
      refine tr_jn ?_
      rw [oc_s]
      dsimp only
      rw [oc_n]
      have := rem c1 w
      rw [if_pos (show 0 < R.1 22 by omega)] at this
      exact this
  · unfold F_X7_campaignIsDue
    have hqu := (WC_qu w hr g6).1
    rw [WC_i w hr g6 (show sci 400 = some 19 from rfl), WC_i w hr g6 (show sci 716 = some 13 from rfl), WC_702 w hr, hqu, WC_700 w hr, nI_add]
    by_cases c3 : R.1 19 = 1
    · rw [tk_3 eR c3, c3, if_pos (show nI 1 = (1 : Int32) from rfl)]
      by_cases c4 : S.T ≤ R.1 13
      · rw [if_neg (show ¬ nI (R.1 13) < nI S.T from Int32.not_lt.mpr (nI_le c4 (by omega))), zb1, b2_, if_neg (by decide), if_pos c4]
        exact tr_bind (c_campaign hC w hr g6 hfl o1 hA' hbd') fun c5 w5 => tr_some w5
      · rw [if_pos (show nI (R.1 13) < nI S.T from Int32.not_le.mp (nI_ge (by omega) (by omega))), zb0, b2_, if_pos rfl, WC_i w hr g6 (show sci 400 = some 19 from rfl), c3, if_neg (show ¬ nI 1 = (0 : Int32) by decide), if_neg c4]
        exact tr_some w
    · rw [tk_4 eR c3 c2, if_neg (show ¬ nI (R.1 19) = (1 : Int32) from fun e => c3 (nI_inj (b := 1) (by omega) (by decide) e))]
      have h19 : R.1 19 ≤ 2 := o1.1 19
      have c19 : R.1 19 = 0 := by omega
      have fol : tr (if (cI c1 400 r) = 0 then ((F_X7_tickAsFollower N c1 r).bind fun M4 => some M4) else (some c1)) (fun c' => WC mm c' (if 0 < R.2.1.length then (if 0 < R.1 25 ∧ ¬ R.1 25 % S.N = r then y_send (S.set r R) (y_msg 9 r (R.1 25 % S.N) 0 0 (R.2.1.headD 0) 0 0) else S.set r R) else if S.T ≤ R.1 13 then y_send (S.set r (R.u 13 0)) (y_msg 6 r ((r + 1) % S.N) 0 (R.1 7 + 1) 0 0 0) else S.set r R)) := by
        rw [WC_i w hr g6 (show sci 400 = some 19 from rfl), c19, if_pos (show nI 0 = (0 : Int32) from rfl)]
        unfold F_X7_tickAsFollower
        rw [hqu, WC_i w hr g6 (show sci 716 = some 13 from rfl), WC_702 w hr]
        refine tr_bind (P := fun c' => WC mm c' (if 0 < R.2.1.length then (if 0 < R.1 25 ∧ ¬ R.1 25 % S.N = r then y_send (S.set r R) (y_msg 9 r (R.1 25 % S.N) 0 0 (R.2.1.headD 0) 0 0) else S.set r R) else if S.T ≤ R.1 13 then y_send (S.set r (R.u 13 0)) (y_msg 6 r ((r + 1) % S.N) 0 (R.1 7 + 1) 0 0 0) else S.set r R)) ?_ fun c5 w5 => tr_some w5
        refine tr_le (b := 0) (by omega) (by decide) (fun c4 => ?_) (fun c4 => ?_)
        · rw [if_neg (show ¬ 0 < R.2.1.length by omega)]
          refine tr_lt (by omega) (by omega) (fun c5 => by rw [if_neg (show ¬ S.T ≤ R.1 13 by omega)]; exact tr_some w) (fun c5 => ?_)
          rw [if_pos c5]
          refine tr_uI 0 w rfl fun c6 w6 => ?_
          rw [WC_701 w6 hr, WC_700 w6 hr, nI_add1, nI_mod (by omega) (by omega)]
          refine tr_gd (fun e => by have := nI_inj (b := 0) (by omega) (by decide) e; omega) ?_
          exact tr_bind (c_ask w6 hr g6 hfl rfl) fun c7 w7 => tr_some w7
        · rw [if_pos c4]
          exact tr_bind (c_forward hC w hr g6 hfl o1.2.2.2.1 c4 (by omega)) fun c7 w7 => tr_some w7
      by_cases c4 : 0 < R.2.1.length
      · rw [if_neg (show ¬ nI R.2.1.length ≤ (0 : Int32) from nI_ge (a := 0) c4 (by omega))]
        by_cases c5 : S.T + r ≤ R.1 13
        · rw [if_neg (show ¬ nI (R.1 13) < nI (S.T + r) from Int32.not_lt.mpr (nI_le c5 (by omega))), zb1, b2_, if_neg (by decide), if_pos c4, if_pos c5]
          exact tr_bind (c_campaign hC w hr g6 hfl o1 hA' hbd') fun c6 w6 => tr_some w6
        · rw [if_pos (show nI (R.1 13) < nI (S.T + r) from Int32.not_le.mp (nI_ge (by omega) (by omega))), zb0, b2_, if_pos rfl]
          rw [if_pos c4] at fol ⊢
          rw [if_neg c5]
          exact fol
      · rw [if_pos (show nI R.2.1.length ≤ (0 : Int32) from nI_le (b := 0) (by omega) (by decide)), zb0, b2_, if_pos rfl]
        rw [if_neg c4] at fol ⊢
        exact fol
