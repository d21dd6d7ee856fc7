/-! ===== the class sends to all, asks, denies, helps ===== -/
theorem q_sa {ρ : Type} {mm : Kp} {N r kd b s q : Nat} {ro : Option Nat} {kx : vC → Option ρ} {Q : ρ → Prop} (hkd : kd ≠ 8) : ∀ (d k fl : Nat) (c : vC) (S : Sx), WC mm c S → r < S.N → S.N ≤ 9 → k + d = S.N → S.fl.length ≤ 200 → RqO c S.tb ro q → d < fl → (∀ c', WC mm c' (y_sendL kd r b s q (List.range' k d) S) → tr (kx c') Q) → tr (L_X7_sendToAll_3 N r (nI kd) (nI b) (nI s) ro kx fl c (nI k)) Q := by
  intro d
  induction d with
  | zero =>
    intro k fl c S h hr hN h1 hfl hq h2 K
    obtain ⟨fl, rfl⟩ : ∃ f', fl = f' + 1 := ⟨fl - 1, by omega⟩
    have h' : WC mm c (S.set r (S.rp r)) := by rw [set_id]; exact h
    rw [L_X7_sendToAll_3, WC_701 h' hr, if_pos (nI_le (by omega) (by omega))]
    exact K c h
  | succ d ih =>
    intro k fl c S h hr hN h1 hfl hq h2 K
    obtain ⟨fl, rfl⟩ : ∃ f', fl = f' + 1 := ⟨fl - 1, by omega⟩
    have h' : WC mm c (S.set r (S.rp r)) := by rw [set_id]; exact h
    rw [List.range'_succ] at K
    rw [L_X7_sendToAll_3, WC_701 h' hr, if_neg (nI_ge (show k < S.N by omega) (by omega)), WC_700 h' hr, nI_add1]
    refine tr_eq (by omega) (by omega) (fun c1 => ?_) (fun c1 => ?_)
    · refine ih (k + 1) fl c S h hr hN (by omega) hfl hq (by omega) fun c' w' => K c' ?_
      show WC mm c' (y_sendL kd r b s q (List.range' (k + 1) d) (if k = r then S else y_send S (y_msg kd r k b s q 0 0)))
      rw [if_pos c1]; exact w'
    · refine tr_b2 (c_sendTo h hr hfl rfl rfl rfl rfl) fun M v hv => ?_
      obtain ⟨o, e, ho, z1, g1, _, _⟩ := hv
      dsimp only at e z1 g1
      subst e
      rw [Option.bind_some, gd_ ho]
      have w1 := g1 hkd q 0 ro (hq.c z1)
      obtain ⟨s1, s2, s3, s4, s5, s6⟩ := send_o S (y_msg kd r k b s q 0 0)
      have eN : (y_send S (y_msg kd r k b s q 0 0)).N = S.N := s5 1 (by decide) (by decide)
      unfold F_X1_carry
      refine tr_bind (P := fun c' => c' = uI (uP M 105 o ro) 106 o (nI 0)) (tr_l1 (tr_l1 (tr_some rfl))) fun c' hc' => ?_
      subst hc'
      refine ih (k + 1) fl _ (y_send S (y_msg kd r k b s q 0 0)) w1 (by rw [eN]; exact hr) (by rw [eN]; exact hN) (by rw [eN]; omega) (s6 hfl) (by rw [s2]; exact hq.c (((zn_I (o := o) (by decide)).1.tr (zn_P (o := o) (by decide)).1).tr z1)) (by omega) fun c' w' => K c' ?_
      show WC mm c' (y_sendL kd r b s q (List.range' (k + 1) d) (if k = r then S else y_send S (y_msg kd r k b s q 0 0)))
      rw [if_neg c1]; exact w'
theorem c_sendAll {mm : Kp} {N : Nat} {c : vC} {S : Sx} {r kd b s q : Nat} {ro : Option Nat} {c1 c2 c3 : Int32} (hC : Cx S) (h : WC mm c S) (hr : r < S.N) (hfl : S.fl.length ≤ 200) (hkd : kd ≠ 8) (hq : RqO c S.tb ro q) (e1 : c1 = nI kd) (e2 : c2 = nI b) (e3 : c3 = nI s) : tr (F_X7_sendToAll N c r c1 c2 c3 ro) (fun c' => WC mm c' (y_sendAll S kd r b s q)) := by
  subst e1; subst e2; subst e3
  unfold F_X7_sendToAll
  exact q_sa hkd S.N 0 fu c S h hr hC.N (by omega) hfl hq (by have := hC.N; show _ < 32768; omega) fun c' w' => tr_some w'
theorem c_ask {mm : Kp} {N : Nat} {c : vC} {S : Sx} {r t : Nat} {R : Rp} {c1 : Int32} (h : WC mm c (S.set r R)) (hr : r < S.N) (h6 : R.1 6 = 1) (hfl : S.fl.length ≤ 200) (e1 : c1 = nI t) : tr (F_X7_askFor N c r c1) (fun c' => WC mm c' (y_send (S.set r R) (y_msg 6 r t 0 (R.1 7 + 1) 0 0 0))) := by
  unfold F_X7_askFor
  rw [WC_ix h hr h6, nI_add1]
  refine tr_b2 (c_sendTo (kd := 6) (b := 0) h hr hfl e1 rfl rfl rfl) fun M v hv => ?_
  obtain ⟨o, e, ho, z1, g1, g2, _⟩ := hv
  exact tr_some (g2 (by decide))
theorem c_deny {mm : Kp} {N : Nat} {c : vC} {S : Sx} {r t : Nat} {R : Rp} {c1 : Int32} (h : WC mm c (S.set r R)) (hr : r < S.N) (h6 : R.1 6 = 1) (hfl : S.fl.length ≤ 200) (e1 : c1 = nI t) : tr (F_X7_deny N c r c1) (fun c' => WC mm c' (y_send (S.set r R) (y_msg 7 r t (R.1 10) 0 0 0 0))) := by
  unfold F_X7_deny
  rw [WC_i h hr h6 (show sci 712 = some 10 from rfl)]
  refine tr_b2 (c_sendTo (kd := 7) (s := 0) h hr hfl e1 rfl rfl rfl) fun M v hv => ?_
  obtain ⟨o, e, ho, z1, g1, g2, _⟩ := hv
  exact tr_some (g2 (by decide))
theorem c_reqOf {mm : Kp} {N : Nat} {c : vC} {S : Sx} {r s : Nat} {R : Rp} (h : WC mm c (S.set r R)) (hr : r < S.N) (h6 : R.1 6 = 1) (h7 : R.1 7 < 2 ^ 30) (h9 : R.1 9 ≤ R.1 7) (hs : s < 2 ^ 31) : F_X10_requestOf N c r (nI s) = some (c, if R.1 9 < s ∧ s ≤ R.1 7 then cQ c 1006 r (s % 32) else none) := by
  obtain ⟨s1, s2, s3, _⟩ := WC_st h hr h6
  unfold F_X10_requestOf F_X10_base
  rw [jn_, s1]
  by_cases c1 : R.1 7 < s
  · rw [if_pos (Int32.not_le.mp (nI_ge c1 (by omega))), if_neg (show ¬ (R.1 9 < s ∧ s ≤ R.1 7) by omega)]; rfl
  · rw [if_neg (Int32.not_lt.mpr (nI_le (by omega) (by omega))), b2_, s3, nI_sub (by omega), show R.1 7 - (R.1 7 - R.1 9) = R.1 9 by omega]
    by_cases c2 : s ≤ R.1 9
    · rw [if_pos (nI_le c2 (by omega)), if_neg (show ¬ (R.1 9 < s ∧ s ≤ R.1 7) by omega)]; rfl
    · rw [if_neg (nI_ge (by omega) (by omega)), if_pos (show R.1 9 < s ∧ s ≤ R.1 7 by omega)]
      dsimp only
      rw [if_neg (show ¬ (1 : Int32) = 0 by decide), show fmI (nI s) (32 : Int32) = nI (s % 32) from fm_n (b := 32) hs (by decide), cQv (show _ < 32 by omega) (by omega), Option.bind_some]
theorem zc_nD {c : vC} {r k n : Nat} (g : Nat → Int32) (h : ∀ a, cz c ≤ a → cK c a = 0) : zc r (uDW (nD c k n) (cz c) g) c := by
  refine ⟨⟨Nat.le_succ _, fun a ha => ⟨va_up_ne _ _ (by omega), va_up_ne _ _ (by omega), ?_, fun _ _ _ => rfl, rfl⟩, fun q a ha => ?_⟩, fun _ _ _ _ _ => rfl, fun _ _ _ _ => rfl, fun _ _ _ _ => rfl, fun _ _ => rfl, fun _ _ _ => rfl⟩
  · show va_up (va_up (cD c) (cz c) (fun _ => 0)) (cz c) g a = cD c a
    rw [va_up_ne _ _ (by omega), va_up_ne _ _ (by omega)]
  · have ha' : cz c + 1 ≤ a := ha
    show va_up (cK c) (cz c) k a = 0
    rw [va_up_ne _ _ (by omega)]
    exact q a (by omega)
theorem e_copy {N : Nat} {c : vC} {i : Nat} {l : List Nat} (hb : Bts l) (hl : l.length ≤ 256) : F_X0_copy N (sB c i l) i = some (uDW (nD (sB c i l) 20 l.length) (cz c) (va_cpy (cR (sB c i l) 0 i) (fun _ => 0) 0 0 l.length), some (cz c)) := by
  unfold F_X0_copy
  rw [sB_1, nIt (show l.length < 2 ^ 31 by omega), gd_ ⟨nIn (by omega), hl⟩, l1_]
  have e1 : cI (nD (sB c i l) 20 l.length) 1 i = nI l.length := sB_1 _ _ _
  rw [e1]
  unfold cpB
  rw [nIt (show l.length < 2 ^ 31 by omega), show (0 : Int32).toNatClampNeg = 0 from rfl, if_neg]
  · rw [Option.bind_some]
    have e2 : cD (nD (sB c i l) 20 l.length) (cz (sB c i l)) = fun _ => 0 := va_up_self _ _ _
    rw [e2]
    rfl
  · rintro (q | q | q | q | q | q | q)
    · exact absurd q (by decide)
    · exact absurd q (by decide)
    · exact nIn (show l.length < 2 ^ 31 by omega) q
    · exact q (va_up_self _ _ _)
    · exact q (by omega)
    · refine q ?_
      show 0 + l.length ≤ va_up (cN (sB c i l)) (cz (sB c i l)) l.length (cz (sB c i l))
      rw [va_up_self]; omega
    · refine q (fun j hj => ?_)
      rw [Nat.zero_add]
      show fits .byte (.int (cR (sB c i l) 0 i j)) = true
      rw [sB_0 _ _ _ hj]
      exact sb_fitB _
theorem q_h64 {ρ : Type} {mm : Kp} {N r t i a many : Nat} {kx : vC → Option ρ} {Q : ρ → Prop} (hm : many ≤ 9) (hi : i < 2 ^ 30) : ∀ (d k fl : Nat) (c : vC) (S : Sx), WC mm c S → Cx S → r < S.N → (S.rp r).1 6 = 1 → (S.rp r).1 7 = i → k + d = many → S.fl.length ≤ 200 → BtA c a (S.enc i) → d < fl → (∀ c', WC mm c' (y_sendP r t i (List.range' k d) S) → tr (kx c') Q) → tr (L_X7_help_64 N r (nI t) (some a) (nI many) kx fl c (nI k)) Q := by
  intro d
  induction d with
  | zero =>
    intro k fl c S h hC hr h6 h7 h1 hfl ha h2 K
    obtain ⟨fl, rfl⟩ : ∃ f', fl = f' + 1 := ⟨fl - 1, by omega⟩
    rw [L_X7_help_64, if_pos (nI_le (by omega) (by omega))]
    exact K c h
  | succ d ih =>
    intro k fl c S h hC hr h6 h7 h1 hfl ha h2 K
    obtain ⟨fl, rfl⟩ : ∃ f', fl = f' + 1 := ⟨fl - 1, by omega⟩
    have h' : WC mm c (S.set r (S.rp r)) := by rw [set_id]; exact h
    rw [List.range'_succ] at K
    rw [L_X7_help_64, if_neg (nI_ge (show k < many by omega) (by omega)), nI_add1, WC_ix h' hr h6, h7]
    refine tr_b2 (c_sendTo (kd := 8) (b := 0) h hr hfl rfl rfl rfl rfl) fun M v hv => ?_
    obtain ⟨o, e, ho, z1, _, _, g3⟩ := hv
    dsimp only at e z1 g3
    subst e
    rw [Option.bind_some, gd_ ho]
    have w1 := g3 rfl a k (ha.c z1)
    obtain ⟨s1, s2, s3, s4, s5, s6⟩ := send_o S (y_msg 8 r t 0 i 0 0 k)
    unfold F_X1_carryPiece
    refine tr_bind (P := fun c' => c' = uI (uP M 107 o (some a)) 108 o (nI k)) (tr_l1 (tr_l1 (tr_some rfl))) fun c' hc' => ?_
    subst hc'
    have een : (y_send S (y_msg 8 r t 0 i 0 0 k)).enc i = S.enc i := by
      show encSt (y_send S (y_msg 8 r t 0 i 0 0 k)).V (stN (y_send S (y_msg 8 r t 0 i 0 0 k)).V (y_send S (y_msg 8 r t 0 i 0 0 k)).tb (y_send S (y_msg 8 r t 0 i 0 0 k)).lg i) i = encSt S.V (stN S.V S.tb S.lg i) i
      rw [s2, s3, show (y_send S (y_msg 8 r t 0 i 0 0 k)).V = S.V from s5 2 (by decide) (by decide)]
    exact ih (k + 1) fl _ (y_send S (y_msg 8 r t 0 i 0 0 k)) w1 (hC.send _) (by rw [show (y_send S (y_msg 8 r t 0 i 0 0 k)).N = S.N from s5 1 (by decide) (by decide)]; exact hr) (by rw [s1]; exact h6) (by rw [s1]; exact h7) (by omega) (s6 hfl) (by rw [een]; exact ha.c (((zn_I (o := o) (by decide)).1.tr (zn_P (o := o) (by decide)).1).tr z1)) (by omega) K
theorem c_help {mm : Kp} {N : Nat} {c : vC} {S : Sx} {r t s : Nat} {R : Rp} {c1 c2 : Int32} (hC : Cx S) (h : WC mm c (S.set r R)) (hr : r < S.N) (h6 : R.1 6 = 1) (hfl : S.fl.length ≤ 200) (h7 : R.1 7 < 2 ^ 30) (h8 : R.1 8 ≤ R.1 7) (h9 : R.1 9 ≤ R.1 7) (hs : s < 2 ^ 31) (h0 : R.1 9 < s → s ≤ R.1 7 → 0 < S.lg s) (e1 : c1 = nI t) (e2 : c2 = nI s) : tr (F_X7_help N c r c1 c2) (fun c' => WC mm c' (y_help (S.set r R) r t s)) := by
  subst e2
  unfold F_X7_help
  rw [c_reqOf h hr h6 h7 h9 hs, b2_]
  by_cases cq : R.1 9 < s ∧ s ≤ R.1 7
  · have ey : y_help (S.set r R) r t s = y_send (S.set r R) (y_msg 5 r t 0 s (S.lg s) 0 0) := by
      unfold y_help
      rw [set_rp]
      exact if_pos cq
    have hq := (WC_st h hr h6).2.2.2.2.2.2.2 s cq.1 cq.2
    obtain ⟨a, ea, ha⟩ := hq.2 (h0 cq.1 cq.2)
    rw [if_pos cq, ea, oc_s, ey]
    refine tr_b2 (c_sendTo (kd := 5) (b := 0) h hr hfl e1 rfl rfl rfl) fun M v hv => ?_
    obtain ⟨o, e, ho, z1, g1, _, _⟩ := hv
    dsimp only at e z1 g1
    subst e
    rw [Option.bind_some, gd_ ho]
    unfold F_X1_carry
    exact tr_l1 (tr_l1 (tr_some (g1 (by decide) _ 0 (some a) (RqO.some (h0 cq.1 cq.2) (ha.c z1)))))
  · have ey : y_help (S.set r R) r t s = y_sendP r t (R.1 7) (List.range' 0 (y_many (S.set r R) (R.1 7))) (S.set r R) := by
      unfold y_help
      rw [set_rp]
      exact if_neg cq
    have hel := enc_len hC (i := R.1 7) (by omega)
    rw [if_neg cq, oc_n, ey, e_clear, Option.bind_some, c_writeSt hC (WC_2 (f := 2) (i := 1) (v := 0) h (by decide)) hr h6 h7 h8 (Nat.le_of_ble_eq_true rfl), Option.bind_some, List.nil_append, e_copy (l := S.enc (R.1 7)) (Bts.encSt _ _ _) (by omega), b2_]
    have w1 := WC_B (i := 1) (l := S.enc (R.1 7)) (WC_2 (f := 2) (i := 1) (v := 0) h (by decide))
    have hz : cz (sB (uI c 2 1 0) 1 (S.enc (R.1 7))) = cz (uI c 2 1 0) := rfl
    have w2 := WC_n w1 (zc_nD (k := 20) (n := (S.enc (R.1 7)).length) (va_cpy (cR (sB (uI c 2 1 0) 1 (S.enc (R.1 7))) 0 1) (fun _ => 0) 0 0 (S.enc (R.1 7)).length) w1.1)
    rw [hz] at w2
    have ha : BtA (uDW (nD (sB (uI c 2 1 0) 1 (S.enc (R.1 7))) 20 (S.enc (R.1 7)).length) (cz (uI c 2 1 0)) (va_cpy (cR (sB (uI c 2 1 0) 1 (S.enc (R.1 7))) 0 1) (fun _ => 0) 0 0 (S.enc (R.1 7)).length)) (cz (uI c 2 1 0)) (S.enc (R.1 7)) := by
      refine ⟨Nat.lt_succ_self _, va_up_self _ _ _, va_up_self _ _ _, fun j hj => ?_⟩
      show va_up _ (cz (uI c 2 1 0)) (va_cpy (cR (sB (uI c 2 1 0) 1 (S.enc (R.1 7))) 0 1) (fun _ => 0) 0 0 (S.enc (R.1 7)).length) (cz (uI c 2 1 0)) j = _
      rw [va_up_self]
      show (if 0 ≤ j ∧ j < 0 + (S.enc (R.1 7)).length then cR (sB (uI c 2 1 0) 1 (S.enc (R.1 7))) 0 1 (0 + (j - 0)) else 0) = _
      rw [if_pos (by omega), Nat.zero_add, Nat.sub_zero, sB_0 _ _ _ hj]
    generalize uDW (nD (sB (uI c 2 1 0) 1 (S.enc (R.1 7))) 20 (S.enc (R.1 7)).length) (cz (uI c 2 1 0)) (va_cpy (cR (sB (uI c 2 1 0) 1 (S.enc (R.1 7))) 0 1) (fun _ => 0) 0 0 (S.enc (R.1 7)).length) = c3 at w2 ha ⊢
    unfold F_X1_piecesOf
    have ha' := ha
    obtain ⟨a1, a2, a3, a4⟩ := ha
    rw [Option.bind_some, gd_ a2, b2_, a3, show Int32.ofNat (S.enc (R.1 7)).length = nI (S.enc (R.1 7)).length from rfl, show nI (S.enc (R.1 7)).length + (64 : Int32) = nI ((S.enc (R.1 7)).length + 64) from nI_add _ 64, show nI ((S.enc (R.1 7)).length + 64) - (1 : Int32) = nI ((S.enc (R.1 7)).length + 63) from nI_p1 _, show nI ((S.enc (R.1 7)).length + 63) / (64 : Int32) = nI (y_many (S.set r R) (R.1 7)) from nI_div (b := 64) (by omega) (by decide), e1]
    have hm : y_many (S.set r R) (R.1 7) ≤ 9 := by
      show ((S.enc (R.1 7)).length + 63) / 64 ≤ 9
      omega
    exact q_h64 hm h7 (y_many (S.set r R) (R.1 7)) 0 fu c3 (S.set r R) w2 (hC.set r R) hr (by rw [set_rp]; exact h6) (by rw [set_rp]) (by omega) hfl ha' (by show _ < 32768; omega) fun c' w' => tr_some w'
