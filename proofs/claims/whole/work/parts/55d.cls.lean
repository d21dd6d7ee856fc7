def F_X7_sendTo (N : Nat) (M : vC) (a0 : Nat) (a1 : Int32) (a2 : Int32) (a3 : Int32) (a4 : Int32) : Option (vC × Option Nat) := b2 (F_X3_send N M ) fun M1 v2 => (v2).bind fun o3 => gd (o3 < 202) <| (F_X1_address N M1 (o3) (a2) ((cI M1 700 (a0))) (a1)).bind fun M5 => (F_X1_say N M5 (o3) (a3) (a4)).bind fun M6 => some (M6, (some (o3)))

set_option maxRecDepth 100000 in
set_option maxHeartbeats 4000000 in
theorem p_X7_sendTo {N : Nat} {M : vC} {R : (vC × Option Nat)} {a0 : Nat} {a1 : Int32} {a2 : Int32} {a3 : Int32} {a4 : Int32} (ha0 : a0 < N) (h : F_X7_sendTo N M a0 a1 a2 a3 a4 = some R) {E : vE} {S0 : vS} {z x d0 : Nat} (hR : RC S0 z x N d0 M) : vi_Met E yX7_sendTo cX7_sendTo 6 (some (.object "SnapCluster$Frame")) 1 0 0 [.ref (ad z x 7 (a0)), .int (a1), .int (a2), .int (a3), .int (a4)] S0 (cz M) (D3 1 S0 z x N d0 R) := by
  refine vi_met (by decide) (Nat.le_of_ble_eq_true rfl) ?_
  intro X C
  have hF := cF.refl S0 z x N d0
  unfold F_X7_sendTo at h
  refine vi_aload_n C dX7_sendTo_0 rfl rfl ?_
  refine c_gets (f := 708) (k := 7) (i := a0) C dX7_sendTo_1 rfl fX7_54 rfl (by decide) rfl hR ha0 rfl ?_
  refine c_cv3 (kc := 3) (a := (ad z x 3 (0))) (kt := 1) C [] [] dX7_sendTo_4 rfl ivX7_262 imX3_send rfl rfl (rcK hR (rfl : 0 = 0)) hR hF h (fun _ e => p_X3_send  e hR) rfl (Nat.le_of_ble_eq_true rfl) ⟨by decide, by decide⟩ ⟨Nat.le_refl _, Nat.le_refl _⟩ (fun S M1 v2 h hR hF => ?_)
  refine vi_astoreq (o := ((v2).map (ad z x 1))) C dX7_sendTo_7 rfl (by decide) ?_
  refine vi_aloadq (o := ((v2).map (ad z x 1))) C dX7_sendTo_9 rfl rfl ?_
  refine vi_iload_n C dX7_sendTo_11 rfl rfl ?_
  refine vi_aload_n C dX7_sendTo_12 rfl rfl ?_
  refine c_geti (f := 700) (k := 7) (i := a0) C dX7_sendTo_13 rfl fX7_36 rfl (by decide) rfl hR ha0 ?_
  refine vi_iload_n C dX7_sendTo_16 rfl rfl ?_
  obtain ⟨o3, rfl, hh⟩ := bdo h
  replace h := hh
  clear hh
  obtain ⟨c4, h⟩ := gdo h
  refine c_cv0 (kc := 1) (a := (ad z x 1 (o3))) C [.int (a2), .int ((cI M1 700 (a0))), .int (a1)] [] dX7_sendTo_17 rfl ivX7_268 imX1_address rfl rfl (rcK hR c4) hR hF h (fun _ e => p_X1_address c4 e hR) rfl (Nat.le_of_ble_eq_true rfl) ⟨by decide, by decide⟩ ⟨Nat.le_refl _, Nat.le_refl _⟩ (fun S M5 h hR hF => ?_)
  refine vi_aload C dX7_sendTo_20 rfl rfl ?_
  refine vi_iload_n C dX7_sendTo_22 rfl rfl ?_
  refine vi_iload C dX7_sendTo_23 rfl rfl ?_
  refine c_cv0 (kc := 1) (a := (ad z x 1 (o3))) C [.int (a3), .int (a4)] [] dX7_sendTo_25 rfl ivX7_274 imX1_say rfl rfl (rcK hR c4) hR hF h (fun _ e => p_X1_say c4 e hR) rfl (Nat.le_of_ble_eq_true rfl) ⟨by decide, by decide⟩ ⟨Nat.le_refl _, Nat.le_refl _⟩ (fun S M6 h hR hF => ?_)
  refine vi_aload C dX7_sendTo_28 rfl rfl ?_
  exact c_ret3 (k := 1) (v := (some (o3))) C dX7_sendTo_30 rfl (Or.inl ⟨_, rfl⟩) hR hF ⟨Nat.zero_le _, Nat.zero_le _⟩ h

def L_X7_sendToAll_3 {ρ : Type} (N : Nat) (l0 : Nat) (l1 : Int32) (l2 : Int32) (l3 : Int32) (l4 : (Option Nat)) (kx42 : vC → Option ρ) : Nat → vC → Int32 → Option ρ
  | 0, _, _ => none
  | f + 1, M, l5 => if (cI M 701 (l0)) ≤ l5 then (kx42 M ) else (if l5 = (cI M 700 (l0)) then (L_X7_sendToAll_3 N l0 l1 l2 l3 l4 kx42 f M ((l5 + (1)))) else (b2 (F_X7_sendTo N M (l0) (l5) (l1) (l2) (l3)) fun M1 v2 => (v2).bind fun o3 => gd (o3 < 202) <| (F_X1_carry N M1 (o3) (l4) ((0 : Int32))).bind fun M5 => L_X7_sendToAll_3 N l0 l1 l2 l3 l4 kx42 f M5 ((l5 + (1)))))

def F_X7_sendToAll (N : Nat) (M : vC) (a0 : Nat) (a1 : Int32) (a2 : Int32) (a3 : Int32) (a4 : Option Nat) : Option vC := L_X7_sendToAll_3 N (a0) (a1) (a2) (a3) ((a4)) (fun (M8 : vC)  => some M8) fu M ((0 : Int32))

set_option maxRecDepth 100000 in
set_option maxHeartbeats 4000000 in
theorem w_X7_sendToAll_3 {E : vE} {X : vX} {S0 : vS} {z x N d0 : Nat} {ρ : Type} {R : ρ} {Z : State → Prop} {l0 : Nat} {l1 : Int32} {l2 : Int32} {l3 : Int32} {l4 : (Option Nat)} {kx42 : vC → Option ρ} (hl0 : l0 < N) (C : vi_C E X yX7_sendToAll cX7_sendToAll 6 none 2 0 0 (45 * 2)) (hx42 : ∀ (M : vC) , kx42 M  = some R → ∀ S, RC S z x N d0 M → cF S0 S z x N d0 → vi_W E X 6 Z 42 [] [] S (cz M) 0 0) : ∀ (f : Nat) (M : vC) (l5 : Int32), L_X7_sendToAll_3 N l0 l1 l2 l3 l4 kx42 f M l5 = some R → ∀ S, RC S z x N d0 M → cF S0 S z x N d0 → vi_W E X 6 Z 3 [(0, .ref (ad z x 7 (l0))), (1, .int (l1)), (2, .int (l2)), (3, .int (l3)), (4, va_rf (l4)), (5, .int (l5))] [] S (cz M) 0 0 := by
  intro f
  induction f with
  | zero => intro M l5 h; cases h
  | succ f ih =>
    intro M l5 h S hR hF
    rw [L_X7_sendToAll_3] at h
    refine vi_iload C dX7_sendToAll_3 rfl rfl ?_
    refine vi_aload_n C dX7_sendToAll_5 rfl rfl ?_
    refine c_geti (f := 701) (k := 7) (i := l0) C dX7_sendToAll_6 rfl fX7_40 rfl (by decide) rfl hR hl0 ?_
    refine vi_icmp_ge (t' := 42) C dX7_sendToAll_9 rfl (by decide) (fun c7 => ?_) (fun c7 => ?_)
    · replace h := iT c7 h
      exact (vi_cut [] trivial (hx42 _  h _ hR hF))
    · replace h := iN c7 h
      refine vi_iload C dX7_sendToAll_12 rfl rfl ?_
      refine vi_aload_n C dX7_sendToAll_14 rfl rfl ?_
      refine c_geti (f := 700) (k := 7) (i := l0) C dX7_sendToAll_15 rfl fX7_36 rfl (by decide) rfl hR hl0 ?_
      refine vi_icmp_eq (t' := 36) C dX7_sendToAll_18 rfl (by decide) (fun c6 => ?_) (fun c6 => ?_)
      · replace h := iT c6 h
        refine vi_iincv (v := 1) C dX7_sendToAll_36 rfl rfl (by decide) (by decide) ?_
        refine vi_cut [(0, .ref (ad z x 7 (l0))), (1, .int (l1)), (2, .int (l2)), (3, .int (l3)), (4, va_rf (l4)), (5, .int ((l5 + (1))))] (by cases l4 <;> exact ⟨rfl, rfl, rfl, rfl, rfl, rfl, trivial⟩) ?_
        refine vi_goto (t' := 3) C dX7_sendToAll_39 (by decide) ?_
        exact vi_cut [(0, .ref (ad z x 7 (l0))), (1, .int (l1)), (2, .int (l2)), (3, .int (l3)), (4, va_rf (l4)), (5, .int ((l5 + (1))))] ⟨rfl, rfl, rfl, rfl, rfl, rfl, trivial⟩ (ih _ _ h _ hR hF)
      · replace h := iN c6 h
        refine vi_aload_n C dX7_sendToAll_21 rfl rfl ?_
        refine vi_iload C dX7_sendToAll_22 rfl rfl ?_
        refine vi_iload_n C dX7_sendToAll_24 rfl rfl ?_
        refine vi_iload_n C dX7_sendToAll_25 rfl rfl ?_
        refine vi_iload_n C dX7_sendToAll_26 rfl rfl ?_
        refine c_cv3 (kc := 7) (a := (ad z x 7 (l0))) (kt := 1) C [.int (l5), .int (l1), .int (l2), .int (l3)] [] dX7_sendToAll_27 rfl ivX7_277 imX7_sendTo rfl rfl (rcK hR hl0) hR hF h (fun _ e => p_X7_sendTo hl0 e hR) rfl (Nat.le_of_ble_eq_true rfl) ⟨by decide, by decide⟩ ⟨Nat.le_refl _, Nat.le_refl _⟩ (fun S M1 v2 h hR hF => ?_)
        refine vi_aloadq (o := (l4)) C dX7_sendToAll_30 rfl rfl ?_
        refine vi_iconst (v := 0) C dX7_sendToAll_32 rfl (by decide) ?_
        obtain ⟨o3, rfl, hh⟩ := bdo h
        replace h := hh
        clear hh
        obtain ⟨c4, h⟩ := gdo h
        refine c_cv0 (kc := 1) (a := (ad z x 1 (o3))) C [va_rf (l4), .int ((0 : Int32))] [] dX7_sendToAll_33 rfl ivX7_281 imX1_carry rfl rfl (rcK hR c4) hR hF h (fun _ e => p_X1_carry c4 e hR) rfl (Nat.le_of_ble_eq_true rfl) ⟨by decide, by decide⟩ ⟨Nat.le_refl _, Nat.le_refl _⟩ (fun S M5 h hR hF => ?_)
        refine vi_iincv (v := 1) C dX7_sendToAll_36 rfl rfl (by decide) (by decide) ?_
        refine vi_cut [(0, .ref (ad z x 7 (l0))), (1, .int (l1)), (2, .int (l2)), (3, .int (l3)), (4, va_rf (l4)), (5, .int ((l5 + (1))))] (by cases l4 <;> exact ⟨rfl, rfl, rfl, rfl, rfl, rfl, trivial⟩) ?_
        refine vi_goto (t' := 3) C dX7_sendToAll_39 (by decide) ?_
        exact vi_cut [(0, .ref (ad z x 7 (l0))), (1, .int (l1)), (2, .int (l2)), (3, .int (l3)), (4, va_rf (l4)), (5, .int ((l5 + (1))))] ⟨rfl, rfl, rfl, rfl, rfl, rfl, trivial⟩ (ih _ _ h _ hR hF)

set_option maxRecDepth 100000 in
set_option maxHeartbeats 4000000 in
theorem p_X7_sendToAll {N : Nat} {M : vC} {R : vC} {a0 : Nat} {a1 : Int32} {a2 : Int32} {a3 : Int32} {a4 : Option Nat} (ha0 : a0 < N) (h : F_X7_sendToAll N M a0 a1 a2 a3 a4 = some R) {E : vE} {S0 : vS} {z x d0 : Nat} (hR : RC S0 z x N d0 M) : vi_Met E yX7_sendToAll cX7_sendToAll 6 none 2 0 0 [.ref (ad z x 7 (a0)), .int (a1), .int (a2), .int (a3), va_rf (a4)] S0 (cz M) (D0 S0 z x N d0 R) := by
  refine vi_met (by decide) (by cases a4 <;> exact Nat.le_of_ble_eq_true rfl) ?_
  intro X C
  rw [show lv_args 0 [.ref (ad z x 7 (a0)), .int (a1), .int (a2), .int (a3), va_rf (a4)] = [(0, .ref (ad z x 7 (a0))), (1, .int (a1)), (2, .int (a2)), (3, .int (a3)), (4, va_rf (a4))] from by cases a4 <;> rfl]
  have hF := cF.refl S0 z x N d0
  unfold F_X7_sendToAll at h
  refine vi_iconst (v := 0) C dX7_sendToAll_0 rfl (by decide) ?_
  refine vi_istore C dX7_sendToAll_1 rfl (by decide) ?_
  refine vi_cut [(0, .ref (ad z x 7 (a0))), (1, .int (a1)), (2, .int (a2)), (3, .int (a3)), (4, va_rf (a4)), (5, .int ((0 : Int32)))] (by cases a4 <;> exact ⟨rfl, rfl, rfl, rfl, rfl, rfl, trivial⟩) ?_
  refine vi_cut [(0, .ref (ad z x 7 (a0))), (1, .int (a1)), (2, .int (a2)), (3, .int (a3)), (4, va_rf (a4)), (5, .int ((0 : Int32)))] ⟨rfl, rfl, rfl, rfl, rfl, rfl, trivial⟩ (w_X7_sendToAll_3 ha0 C ?_ _ _ _ h _ hR hF)
  · intro M8 h S hR hF
    exact c_ret0 C dX7_sendToAll_42 rfl hR hF ⟨Nat.zero_le _, Nat.zero_le _⟩ h

def F_X7_askFor (N : Nat) (M : vC) (a0 : Nat) (a1 : Int32) : Option vC := b2 (F_X7_sendTo N M (a0) (a1) ((6 : Int32)) ((0 : Int32)) (((cI M 1007 (a0)) + (1 : Int32)))) fun M1 v2 => some M1

set_option maxRecDepth 100000 in
set_option maxHeartbeats 4000000 in
theorem p_X7_askFor {N : Nat} {M : vC} {R : vC} {a0 : Nat} {a1 : Int32} (ha0 : a0 < N) (h : F_X7_askFor N M a0 a1 = some R) {E : vE} {S0 : vS} {z x d0 : Nat} (hR : RC S0 z x N d0 M) : vi_Met E yX7_askFor cX7_askFor 2 none 2 0 0 [.ref (ad z x 7 (a0)), .int (a1)] S0 (cz M) (D0 S0 z x N d0 R) := by
  refine vi_met (by decide) (Nat.le_of_ble_eq_true rfl) ?_
  intro X C
  have hF := cF.refl S0 z x N d0
  unfold F_X7_askFor at h
  refine vi_aload_n C dX7_askFor_0 rfl rfl ?_
  refine vi_iload_n C dX7_askFor_1 rfl rfl ?_
  refine vi_bipush (v := 6) C dX7_askFor_2 rfl (by decide) ?_
  refine vi_iconst (v := 0) C dX7_askFor_4 rfl (by decide) ?_
  refine vi_aload_n C dX7_askFor_5 rfl rfl ?_
  refine c_gets (f := 703) (k := 7) (i := a0) C dX7_askFor_6 rfl fX7_46 rfl (by decide) rfl hR ha0 rfl ?_
  refine c_geti (f := 1007) (k := 10) (i := a0) C dX7_askFor_9 rfl fX7_66 rfl (by decide) rfl hR ha0 ?_
  refine vi_iconst (v := 1) C dX7_askFor_12 rfl (by decide) ?_
  refine vi_iadd C dX7_askFor_13 rfl ?_
  refine c_cv3 (kc := 7) (a := (ad z x 7 (a0))) (kt := 1) C [.int (a1), .int ((6 : Int32)), .int ((0 : Int32)), .int (((cI M 1007 (a0)) + (1 : Int32)))] [] dX7_askFor_14 rfl ivX7_277 imX7_sendTo rfl rfl (rcK hR ha0) hR hF h (fun _ e => p_X7_sendTo ha0 e hR) rfl (Nat.le_of_ble_eq_true rfl) ⟨by decide, by decide⟩ ⟨Nat.le_refl _, Nat.le_refl _⟩ (fun S M1 v2 h hR hF => ?_)
  refine vi_pop C dX7_askFor_17 rfl (vi_rfc _) ?_
  exact c_ret0 C dX7_askFor_18 rfl hR hF ⟨Nat.zero_le _, Nat.zero_le _⟩ h

def F_X7_deny (N : Nat) (M : vC) (a0 : Nat) (a1 : Int32) : Option vC := b2 (F_X7_sendTo N M (a0) (a1) ((7 : Int32)) ((cI M 712 (a0))) ((0 : Int32))) fun M1 v2 => some M1

set_option maxRecDepth 100000 in
set_option maxHeartbeats 4000000 in
theorem p_X7_deny {N : Nat} {M : vC} {R : vC} {a0 : Nat} {a1 : Int32} (ha0 : a0 < N) (h : F_X7_deny N M a0 a1 = some R) {E : vE} {S0 : vS} {z x d0 : Nat} (hR : RC S0 z x N d0 M) : vi_Met E yX7_deny cX7_deny 2 none 2 0 0 [.ref (ad z x 7 (a0)), .int (a1)] S0 (cz M) (D0 S0 z x N d0 R) := by
  refine vi_met (by decide) (Nat.le_of_ble_eq_true rfl) ?_
  intro X C
  have hF := cF.refl S0 z x N d0
  unfold F_X7_deny at h
  refine vi_aload_n C dX7_deny_0 rfl rfl ?_
  refine vi_iload_n C dX7_deny_1 rfl rfl ?_
  refine vi_bipush (v := 7) C dX7_deny_2 rfl (by decide) ?_
  refine vi_aload_n C dX7_deny_4 rfl rfl ?_
  refine c_geti (f := 712) (k := 7) (i := a0) C dX7_deny_5 rfl fX7_78 rfl (by decide) rfl hR ha0 ?_
  refine vi_iconst (v := 0) C dX7_deny_8 rfl (by decide) ?_
  refine c_cv3 (kc := 7) (a := (ad z x 7 (a0))) (kt := 1) C [.int (a1), .int ((7 : Int32)), .int ((cI M 712 (a0))), .int ((0 : Int32))] [] dX7_deny_9 rfl ivX7_277 imX7_sendTo rfl rfl (rcK hR ha0) hR hF h (fun _ e => p_X7_sendTo ha0 e hR) rfl (Nat.le_of_ble_eq_true rfl) ⟨by decide, by decide⟩ ⟨Nat.le_refl _, Nat.le_refl _⟩ (fun S M1 v2 h hR hF => ?_)
  refine vi_pop C dX7_deny_12 rfl (vi_rfc _) ?_
  exact c_ret0 C dX7_deny_13 rfl hR hF ⟨Nat.zero_le _, Nat.zero_le _⟩ h

def F_X10_requestOf (N : Nat) (M : vC) (a0 : Nat) (a1 : Int32) : Option (vC × Option Nat) := jn (fun (M6 : vC) (s0_21 : Int32) => if s0_21 = 0 then (some (M6, none)) else ((cGQ M6 1006 (a0) ((fmI (a1) ((32 : Int32))))).bind fun v7 => some (M6, (v7)))) (fun k21_1 => if (cI M 1007 (a0)) < a1 then ((k21_1 (M) ((0 : Int32)))) else (b2 (F_X10_base N M (a0)) fun M2 v3 => if a1 ≤ v3 then ((k21_1 (M2) ((0 : Int32)))) else ((k21_1 (M2) ((1 : Int32))))))

set_option maxRecDepth 100000 in
set_option maxHeartbeats 4000000 in
theorem p_X10_requestOf {N : Nat} {M : vC} {R : (vC × Option Nat)} {a0 : Nat} {a1 : Int32} (ha0 : a0 < N) (h : F_X10_requestOf N M a0 a1 = some R) {E : vE} {S0 : vS} {z x d0 : Nat} (hR : RC S0 z x N d0 M) : vi_Met E yX10_requestOf cX10_requestOf 3 (some (.object "SnapCluster$Request")) 1 0 0 [.ref (ad z x 10 (a0)), .int (a1)] S0 (cz M) (D4 S0 z x N d0 R) := by
  refine vi_met (by decide) (Nat.le_of_ble_eq_true rfl) ?_
  intro X C
  have hF := cF.refl S0 z x N d0
  unfold F_X10_requestOf at h
  refine vi_iload_n C dX10_requestOf_0 rfl rfl ?_
  refine vi_aload_n C dX10_requestOf_1 rfl rfl ?_
  refine c_geti (f := 1007) (k := 10) (i := a0) C dX10_requestOf_2 rfl fX10_37 rfl (by decide) rfl hR ha0 ?_
  refine r_jn h (fun k => ∀ (M6 : vC) (s0_21 : Int32), k M6 s0_21 = some R → ∀ S, RC S z x N d0 M6 → cF S0 S z x N d0 → vi_W E X 3 (vi_Z E X (D4 S0 z x N d0 R) 0 0) 21 [(0, .ref (ad z x 10 (a0))), (1, .int (a1))] [.int (s0_21)] S (cz M6) 0 0) ?_ ?_
  · intro M6 s0_21 h S hR hF
    refine vi_istore_n C dX10_requestOf_21 rfl (by decide) ?_
    refine vi_iload_n C dX10_requestOf_22 rfl rfl ?_
    refine vi_if_eq (t' := 40) C dX10_requestOf_23 rfl (by decide) (fun c8 => ?_) (fun c8 => ?_)
    · replace h := iT c8 h
      refine vi_null C dX10_requestOf_40 rfl ?_
      exact c_ret4 (v := none) C dX10_requestOf_41 rfl (Or.inl ⟨_, rfl⟩) hR hF ⟨Nat.zero_le _, Nat.zero_le _⟩ h
    · replace h := iN c8 h
      refine vi_aload_n C dX10_requestOf_26 rfl rfl ?_
      refine c_gets (f := 1006) (k := 10) (i := a0) C dX10_requestOf_27 rfl fX10_26 rfl (by decide) rfl hR ha0 rfl ?_
      refine vi_iload_n C dX10_requestOf_30 rfl rfl ?_
      refine vi_bipush (v := 32) C dX10_requestOf_31 rfl (by decide) ?_
      refine vi_fmod C dX10_requestOf_33 rfl mlX10_46 (by decide) (by decide) (Nat.le_of_ble_eq_true rfl) (Nat.zero_le _) (Nat.zero_le _) ?_
      refine c_aaloadQ C dX10_requestOf_36 rfl rfl hR ⟨ha0, by decide⟩ h (fun v7 h => ?_)
      refine vi_goto (t' := 41) C dX10_requestOf_37 (by decide) ?_
      exact c_ret4 (v := (v7)) C dX10_requestOf_41 rfl (Or.inl ⟨_, rfl⟩) hR hF ⟨Nat.zero_le _, Nat.zero_le _⟩ h
  · intro k21_1 h21_1 h
    refine vi_icmp_gt (t' := 20) C dX10_requestOf_5 rfl (by decide) (fun c5 => ?_) (fun c5 => ?_)
    · replace h := iT c5 h
      refine vi_iconst (v := 0) C dX10_requestOf_20 rfl (by decide) ?_
      exact (vi_cut [(0, .ref (ad z x 10 (a0))), (1, .int (a1))] ⟨rfl, rfl, trivial⟩ (h21_1 _ _ h _ hR hF))
    · replace h := iN c5 h
      refine vi_iload_n C dX10_requestOf_8 rfl rfl ?_
      refine vi_aload_n C dX10_requestOf_9 rfl rfl ?_
      refine c_cv1 (kc := 10) (a := (ad z x 10 (a0))) C [] [.int (a1)] dX10_requestOf_10 rfl ivX10_56 imX10_base rfl rfl (rcK hR ha0) hR hF h (fun _ e => p_X10_base ha0 e hR) rfl (Nat.le_of_ble_eq_true rfl) ⟨by decide, by decide⟩ ⟨Nat.le_refl _, Nat.le_refl _⟩ (fun S M2 v3 h hR hF => ?_)
      refine vi_icmp_le (t' := 20) C dX10_requestOf_13 rfl (by decide) (fun c4 => ?_) (fun c4 => ?_)
      · replace h := iT c4 h
        refine vi_iconst (v := 0) C dX10_requestOf_20 rfl (by decide) ?_
        exact (vi_cut [(0, .ref (ad z x 10 (a0))), (1, .int (a1))] ⟨rfl, rfl, trivial⟩ (h21_1 _ _ h _ hR hF))
      · replace h := iN c4 h
        refine vi_iconst (v := 1) C dX10_requestOf_16 rfl (by decide) ?_
        refine vi_goto (t' := 21) C dX10_requestOf_17 (by decide) ?_
        exact (vi_cut [(0, .ref (ad z x 10 (a0))), (1, .int (a1))] ⟨rfl, rfl, trivial⟩ (h21_1 _ _ h _ hR hF))

def L_X7_help_64 {ρ : Type} (N : Nat) (l0 : Nat) (l1 : Int32) (l4 : (Option Nat)) (l5 : Int32) (kx99 : vC → Option ρ) : Nat → vC → Int32 → Option ρ
  | 0, _, _ => none
  | f + 1, M, l6 => if l5 ≤ l6 then (kx99 M ) else (b2 (F_X7_sendTo N M (l0) (l1) ((8 : Int32)) ((0 : Int32)) ((cI M 1007 (l0)))) fun M10 v11 => (v11).bind fun o12 => gd (o12 < 202) <| (F_X1_carryPiece N M10 (o12) (l4) (l6)).bind fun M14 => L_X7_help_64 N l0 l1 l4 l5 kx99 f M14 ((l6 + (1))))

def F_X7_help (N : Nat) (M : vC) (a0 : Nat) (a1 : Int32) (a2 : Int32) : Option vC := b2 (F_X10_requestOf N M (a0) (a2)) fun M1 v2 => oc (v2) ((F_X0_clear N M1 (1)).bind fun M4 => (F_X10_writeTo N M4 (a0) (1)).bind fun M5 => b2 (F_X0_copy N M5 (1)) fun M6 v7 => b2 (F_X1_piecesOf N M6 (v7)) fun M8 v9 => L_X7_help_64 N (a0) (a1) ((v7)) (v9) (fun (M16 : vC)  => some M16) fu M8 ((0 : Int32))) (fun o3 => b2 (F_X7_sendTo N M1 (a0) (a1) ((5 : Int32)) ((0 : Int32)) (a2)) fun M17 v18 => (v18).bind fun o19 => gd (o19 < 202) <| (F_X1_carry N M17 (o19) (some (o3)) ((0 : Int32))).bind fun M21 => some M21)

set_option maxRecDepth 100000 in
set_option maxHeartbeats 4000000 in
theorem w_X7_help_64 {E : vE} {X : vX} {S0 : vS} {z x N d0 : Nat} {ρ : Type} {R : ρ} {Z : State → Prop} {l0 : Nat} {l1 : Int32} {l4 : (Option Nat)} {l5 : Int32} {kx99 : vC → Option ρ} (hl0 : l0 < N) {q n : Nat} (hqn : q ≤ 1 ∧ n ≤ 256) (C : vi_C E X yX7_help cX7_help 7 none 3 1 256 (45 * 3)) (hx99 : ∀ (M : vC) , kx99 M  = some R → ∀ S, RC S z x N d0 M → cF S0 S z x N d0 → vi_W E X 7 Z 99 [] [] S (cz M) q n) : ∀ (f : Nat) (M : vC) (l6 : Int32), L_X7_help_64 N l0 l1 l4 l5 kx99 f M l6 = some R → ∀ S, RC S z x N d0 M → cF S0 S z x N d0 → vi_W E X 7 Z 64 [(0, .ref (ad z x 7 (l0))), (1, .int (l1)), (4, va_rf (l4)), (5, .int (l5)), (6, .int (l6))] [] S (cz M) q n := by
  intro f
  induction f with
  | zero => intro M l6 h; cases h
  | succ f ih =>
    intro M l6 h S hR hF
    rw [L_X7_help_64] at h
    refine vi_iload C dX7_help_64 rfl rfl ?_
    refine vi_iload C dX7_help_66 rfl rfl ?_
    refine vi_icmp_ge (t' := 99) C dX7_help_68 rfl (by decide) (fun c15 => ?_) (fun c15 => ?_)
    · replace h := iT c15 h
      exact (vi_cut [] trivial (hx99 _  h _ hR hF))
    · replace h := iN c15 h
      refine vi_aload_n C dX7_help_71 rfl rfl ?_
      refine vi_iload_n C dX7_help_72 rfl rfl ?_
      refine vi_bipush (v := 8) C dX7_help_73 rfl (by decide) ?_
      refine vi_iconst (v := 0) C dX7_help_75 rfl (by decide) ?_
      refine vi_aload_n C dX7_help_76 rfl rfl ?_
      refine c_gets (f := 703) (k := 7) (i := l0) C dX7_help_77 rfl fX7_46 rfl (by decide) rfl hR hl0 rfl ?_
      refine c_geti (f := 1007) (k := 10) (i := l0) C dX7_help_80 rfl fX7_66 rfl (by decide) rfl hR hl0 ?_
      refine c_cv3 (kc := 7) (a := (ad z x 7 (l0))) (kt := 1) C [.int (l1), .int ((8 : Int32)), .int ((0 : Int32)), .int ((cI M 1007 (l0)))] [] dX7_help_83 rfl ivX7_277 imX7_sendTo rfl rfl (rcK hR hl0) hR hF h (fun _ e => p_X7_sendTo hl0 e hR) rfl (Nat.le_of_ble_eq_true rfl) ⟨by decide, by decide⟩ ⟨by omega, by omega⟩ (fun S M10 v11 h hR hF => ?_)
      refine vi_aloadq (o := (l4)) C dX7_help_86 rfl rfl ?_
      refine vi_iload C dX7_help_88 rfl rfl ?_
      obtain ⟨o12, rfl, hh⟩ := bdo h
      replace h := hh
      clear hh
      obtain ⟨c13, h⟩ := gdo h
      refine c_cv0 (kc := 1) (a := (ad z x 1 (o12))) C [va_rf (l4), .int (l6)] [] dX7_help_90 rfl ivX7_297 imX1_carryPiece rfl rfl (rcK hR c13) hR hF h (fun _ e => p_X1_carryPiece c13 e hR) rfl (Nat.le_of_ble_eq_true rfl) ⟨by decide, by decide⟩ ⟨by omega, by omega⟩ (fun S M14 h hR hF => ?_)
      refine vi_iincv (v := 1) C dX7_help_93 rfl rfl (by decide) (by decide) ?_
      refine vi_goto (t' := 64) C dX7_help_96 (by decide) ?_
      exact vi_cut [(0, .ref (ad z x 7 (l0))), (1, .int (l1)), (4, va_rf (l4)), (5, .int (l5)), (6, .int ((l6 + (1))))] ⟨rfl, rfl, rfl, rfl, rfl, trivial⟩ (ih _ _ h _ hR hF)

set_option maxRecDepth 100000 in
set_option maxHeartbeats 4000000 in
theorem p_X7_help {N : Nat} {M : vC} {R : vC} {a0 : Nat} {a1 : Int32} {a2 : Int32} (ha0 : a0 < N) (h : F_X7_help N M a0 a1 a2 = some R) {E : vE} {S0 : vS} {z x d0 : Nat} (hR : RC S0 z x N d0 M) : vi_Met E yX7_help cX7_help 7 none 3 1 256 [.ref (ad z x 7 (a0)), .int (a1), .int (a2)] S0 (cz M) (D0 S0 z x N d0 R) := by
  refine vi_met (by decide) (Nat.le_of_ble_eq_true rfl) ?_
  intro X C
  have hF := cF.refl S0 z x N d0
  unfold F_X7_help at h
  refine vi_aload_n C dX7_help_0 rfl rfl ?_
  refine c_gets (f := 703) (k := 7) (i := a0) C dX7_help_1 rfl fX7_46 rfl (by decide) rfl hR ha0 rfl ?_
  refine vi_iload_n C dX7_help_4 rfl rfl ?_
  refine c_cv4 (kc := 10) (a := (ad z x 10 (a0))) C [.int (a2)] [] dX7_help_5 rfl ivX7_285 imX10_requestOf rfl rfl (rcK hR ha0) hR hF h (fun _ e => p_X10_requestOf ha0 e hR) rfl (Nat.le_of_ble_eq_true rfl) ⟨by decide, by decide⟩ ⟨by omega, by omega⟩ (fun S M1 v2 h hR hF => ?_)
  refine vi_astore_nq (o := (v2)) C dX7_help_8 rfl (by decide) ?_
  refine vi_aload_nq (o := (v2)) C dX7_help_9 rfl rfl ?_
  rcases oco h with ⟨rfl, hh⟩ | ⟨o3, rfl, hh⟩
  · replace h := hh
    clear hh
    refine vi_ifnull (o := none) (t' := 27) C dX7_help_10 rfl (by decide) (fun _ => ?_) (fun e => absurd rfl e)
    refine vi_aload_n C dX7_help_27 rfl rfl ?_
    refine c_gets (f := 710) (k := 7) (i := a0) C dX7_help_28 rfl fX7_62 rfl (by decide) rfl hR ha0 rfl ?_
    refine c_cv0 (kc := 0) (a := (ad z x 0 (1))) C [] [] dX7_help_31 rfl ivX7_232 imX0_clear rfl rfl (rcK hR (show 1 < 3 from by decide)) hR hF h (fun _ e => p_X0_clear (show 1 < 3 from by decide) e hR) rfl (Nat.le_of_ble_eq_true rfl) ⟨by decide, by decide⟩ ⟨by omega, by omega⟩ (fun S M4 h hR hF => ?_)
    refine vi_aload_n C dX7_help_34 rfl rfl ?_
    refine c_gets (f := 703) (k := 7) (i := a0) C dX7_help_35 rfl fX7_46 rfl (by decide) rfl hR ha0 rfl ?_
    refine vi_aload_n C dX7_help_38 rfl rfl ?_
    refine c_gets (f := 710) (k := 7) (i := a0) C dX7_help_39 rfl fX7_62 rfl (by decide) rfl hR ha0 rfl ?_
    refine c_cv0 (kc := 10) (a := (ad z x 10 (a0))) C [.ref (ad z x 0 (1))] [] dX7_help_42 rfl ivX7_205 imX10_writeTo rfl rfl (rcK hR ha0) hR hF h (fun _ e => p_X10_writeTo ha0 (show 1 < 3 from by decide) e hR) rfl (Nat.le_of_ble_eq_true rfl) ⟨by decide, by decide⟩ ⟨by omega, by omega⟩ (fun S M5 h hR hF => ?_)
    refine vi_aload_n C dX7_help_45 rfl rfl ?_
    refine c_gets (f := 710) (k := 7) (i := a0) C dX7_help_46 rfl fX7_62 rfl (by decide) rfl hR ha0 rfl ?_
    refine c_cv4 (kc := 0) (a := (ad z x 0 (1))) C [] [] dX7_help_49 rfl ivX7_289 imX0_copy rfl rfl (rcK hR (show 1 < 3 from by decide)) hR hF h (fun _ e => p_X0_copy (show 1 < 3 from by decide) e hR) rfl (Nat.le_of_ble_eq_true rfl) ⟨by decide, by decide⟩ ⟨by omega, by omega⟩ (fun S M6 v7 h hR hF => ?_)
    refine vi_astoreq (o := (v7)) C dX7_help_52 rfl (by decide) ?_
    refine vi_aloadq (o := (v7)) C dX7_help_54 rfl rfl ?_
    refine c_cs1 C [va_rf (v7)] [] dX7_help_56 rfl ivX7_293 isX1_piecesOf hR hF h (fun _ e => p_X1_piecesOf  e hR) rfl (Nat.le_of_ble_eq_true rfl) ⟨by decide, by decide⟩ ⟨by omega, by omega⟩ (fun S M8 v9 h hR hF => ?_)
    refine vi_istore C dX7_help_59 rfl (by decide) ?_
    refine vi_cut [(0, .ref (ad z x 7 (a0))), (1, .int (a1)), (2, .int (a2)), (3, .null), (4, va_rf (v7)), (5, .int (v9))] (by cases v7 <;> exact ⟨rfl, rfl, rfl, rfl, rfl, rfl, trivial⟩) ?_
    refine vi_iconst (v := 0) C dX7_help_61 rfl (by decide) ?_
    refine vi_istore C dX7_help_62 rfl (by decide) ?_
    refine vi_cut [(0, .ref (ad z x 7 (a0))), (1, .int (a1)), (4, va_rf (v7)), (5, .int (v9)), (6, .int ((0 : Int32)))] ⟨rfl, rfl, rfl, rfl, rfl, trivial⟩ (w_X7_help_64 (q := 1) (n := 256) ha0 ⟨by omega, by omega⟩ C ?_ _ _ _ h _ hR hF)
    · intro M16 h S hR hF
      exact c_ret0 C dX7_help_99 rfl hR hF ⟨by omega, by omega⟩ h
  · replace h := hh
    clear hh
    refine vi_ifnull (o := (some (o3))) (t' := 27) C dX7_help_10 rfl (by decide) (fun e => by cases e) (fun _ => ?_)
    refine vi_aload_n C dX7_help_13 rfl rfl ?_
    refine vi_iload_n C dX7_help_14 rfl rfl ?_
    refine vi_iconst (v := 5) C dX7_help_15 rfl (by decide) ?_
    refine vi_iconst (v := 0) C dX7_help_16 rfl (by decide) ?_
    refine vi_iload_n C dX7_help_17 rfl rfl ?_
    refine c_cv3 (kc := 7) (a := (ad z x 7 (a0))) (kt := 1) C [.int (a1), .int ((5 : Int32)), .int ((0 : Int32)), .int (a2)] [] dX7_help_18 rfl ivX7_277 imX7_sendTo rfl rfl (rcK hR ha0) hR hF h (fun _ e => p_X7_sendTo ha0 e hR) rfl (Nat.le_of_ble_eq_true rfl) ⟨by decide, by decide⟩ ⟨by omega, by omega⟩ (fun S M17 v18 h hR hF => ?_)
    refine vi_aload_n C dX7_help_21 rfl rfl ?_
    refine vi_iconst (v := 0) C dX7_help_22 rfl (by decide) ?_
    obtain ⟨o19, rfl, hh⟩ := bdo h
    replace h := hh
    clear hh
    obtain ⟨c20, h⟩ := gdo h
    refine c_cv0 (kc := 1) (a := (ad z x 1 (o19))) C [.ref (o3), .int ((0 : Int32))] [] dX7_help_23 rfl ivX7_281 imX1_carry rfl rfl (rcK hR c20) hR hF h (fun _ e => p_X1_carry c20 e hR) rfl (Nat.le_of_ble_eq_true rfl) ⟨by decide, by decide⟩ ⟨by omega, by omega⟩ (fun S M21 h hR hF => ?_)
    exact c_ret0 C dX7_help_26 rfl hR hF ⟨Nat.zero_le _, Nat.zero_le _⟩ h

def F_X7_campaign (N : Nat) (M : vC) (a0 : Nat) : Option vC := gd (¬ (cI M 701 (a0)) = 0) <| jn (fun (l2_38 : Int32) => b2 (F_X7_promise N M (a0) (l2_38)) fun M4 v5 => if v5 = 0 then (some M4) else ((F_X4_stand N M4 (a0) (l2_38) ((cI M4 700 (a0)))).bind fun M6 => lt1 (cP M6 713 (a0)) fun v7 => (F_X4_hear N M6 (a0) (v7) ((cI M6 714 (a0)))).bind fun M8 => lt1 (uI M8 716 (a0) ((0 : Int32))) fun M9 => (F_X7_sendToAll N M9 (a0) ((1 : Int32)) (l2_38) (((cI M9 1007 (a0)) + (1 : Int32))) none).bind fun M10 => some M10)) (fun k38_2 => if (mxI ((cI M 712 (a0))) ((cI M 715 (a0)))) < (((mxI ((cI M 712 (a0))) ((cI M 715 (a0)))) - ((mxI ((cI M 712 (a0))) ((cI M 715 (a0)))) - (mxI ((cI M 712 (a0))) ((cI M 715 (a0)))) / (cI M 701 (a0)) * (cI M 701 (a0)))) + (cI M 700 (a0))) then ((k38_2 ((((mxI ((cI M 712 (a0))) ((cI M 715 (a0)))) - ((mxI ((cI M 712 (a0))) ((cI M 715 (a0)))) - (mxI ((cI M 712 (a0))) ((cI M 715 (a0)))) / (cI M 701 (a0)) * (cI M 701 (a0)))) + (cI M 700 (a0)))))) else ((k38_2 (((((mxI ((cI M 712 (a0))) ((cI M 715 (a0)))) - ((mxI ((cI M 712 (a0))) ((cI M 715 (a0)))) - (mxI ((cI M 712 (a0))) ((cI M 715 (a0)))) / (cI M 701 (a0)) * (cI M 701 (a0)))) + (cI M 700 (a0))) + (cI M 701 (a0)))))))

set_option maxRecDepth 100000 in
set_option maxHeartbeats 4000000 in
theorem p_X7_campaign {N : Nat} {M : vC} {R : vC} {a0 : Nat} (ha0 : a0 < N) (h : F_X7_campaign N M a0 = some R) {E : vE} {S0 : vS} {z x d0 : Nat} (hR : RC S0 z x N d0 M) : vi_Met E yX7_campaign cX7_campaign 3 none 5 0 0 [.ref (ad z x 7 (a0))] S0 (cz M) (D0 S0 z x N d0 R) := by
  refine vi_met (by decide) (Nat.le_of_ble_eq_true rfl) ?_
  intro X C
  have hF := cF.refl S0 z x N d0
  unfold F_X7_campaign at h
  refine vi_aload_n C dX7_campaign_0 rfl rfl ?_
  refine c_geti (f := 712) (k := 7) (i := a0) C dX7_campaign_1 rfl fX7_78 rfl (by decide) rfl hR ha0 ?_
  refine vi_aload_n C dX7_campaign_4 rfl rfl ?_
  refine c_geti (f := 715) (k := 7) (i := a0) C dX7_campaign_5 rfl fX7_97 rfl (by decide) rfl hR ha0 ?_
  refine vi_mmax C dX7_campaign_8 rfl ivX7_330 mlX7_330 (by decide) (Nat.le_of_ble_eq_true rfl) (Nat.zero_le _) (Nat.zero_le _) ?_
  refine vi_istore_n C dX7_campaign_11 rfl (by decide) ?_
  refine vi_iload_n C dX7_campaign_12 rfl rfl ?_
  refine vi_iload_n C dX7_campaign_13 rfl rfl ?_
  refine vi_aload_n C dX7_campaign_14 rfl rfl ?_
  refine c_geti (f := 701) (k := 7) (i := a0) C dX7_campaign_15 rfl fX7_40 rfl (by decide) rfl hR ha0 ?_
  obtain ⟨c1, h⟩ := gdo h
  refine vi_irem C dX7_campaign_18 rfl c1 ?_
  refine vi_isub C dX7_campaign_19 rfl ?_
  refine vi_aload_n C dX7_campaign_20 rfl rfl ?_
  refine c_geti (f := 700) (k := 7) (i := a0) C dX7_campaign_21 rfl fX7_36 rfl (by decide) rfl hR ha0 ?_
  refine vi_iadd C dX7_campaign_24 rfl ?_
  refine vi_istore_n C dX7_campaign_25 rfl (by decide) ?_
  refine vi_iload_n C dX7_campaign_26 rfl rfl ?_
  refine vi_iload_n C dX7_campaign_27 rfl rfl ?_
  refine r_jn h (fun k => ∀ (l2_38 : Int32), k l2_38 = some R → ∀ S, RC S z x N d0 M → cF S0 S z x N d0 → vi_W E X 3 (vi_Z E X (D0 S0 z x N d0 R) 0 0) 38 [(0, .ref (ad z x 7 (a0))), (2, .int (l2_38))] [] S (cz M) 0 0) ?_ ?_
  · intro l2_38 h S hR hF
    refine vi_aload_n C dX7_campaign_38 rfl rfl ?_
    refine vi_iload_n C dX7_campaign_39 rfl rfl ?_
    refine c_cv1 (kc := 7) (a := (ad z x 7 (a0))) C [.int (l2_38)] [] dX7_campaign_40 rfl ivX7_336 imX7_promise rfl rfl (rcK hR ha0) hR hF h (fun _ e => p_X7_promise ha0 e hR) rfl (Nat.le_of_ble_eq_true rfl) ⟨by decide, by decide⟩ ⟨Nat.le_refl _, Nat.le_refl _⟩ (fun S M4 v5 h hR hF => ?_)
    refine vi_if_ne (t' := 47) C dX7_campaign_43 rfl (by decide) (fun c11 => ?_) (fun c11 => ?_)
    · replace h := iN c11 h
      refine vi_aload_n C dX7_campaign_47 rfl rfl ?_
      refine c_gets (f := 707) (k := 7) (i := a0) C dX7_campaign_48 rfl fX7_28 rfl (by decide) rfl hR ha0 rfl ?_
      refine vi_iload_n C dX7_campaign_51 rfl rfl ?_
      refine vi_aload_n C dX7_campaign_52 rfl rfl ?_
      refine c_geti (f := 700) (k := 7) (i := a0) C dX7_campaign_53 rfl fX7_36 rfl (by decide) rfl hR ha0 ?_
      refine c_cv0 (kc := 4) (a := (ad z x 4 (a0))) C [.int (l2_38), .int ((cI M4 700 (a0)))] [] dX7_campaign_56 rfl ivX7_340 imX4_stand rfl rfl (rcK hR ha0) hR hF h (fun _ e => p_X4_stand ha0 e hR) rfl (Nat.le_of_ble_eq_true rfl) ⟨by decide, by decide⟩ ⟨Nat.le_refl _, Nat.le_refl _⟩ (fun S M6 h hR hF => ?_)
      refine vi_aload_n C dX7_campaign_59 rfl rfl ?_
      refine c_gets (f := 707) (k := 7) (i := a0) C dX7_campaign_60 rfl fX7_28 rfl (by decide) rfl hR ha0 rfl ?_
      refine vi_aload_n C dX7_campaign_63 rfl rfl ?_
      refine c_getpL (f := 713) (k := 7) (i := a0) C dX7_campaign_64 rfl fX7_81 rfl (by decide) rfl hR ha0 rfl h (fun v7 h => ?_)
      refine vi_aload_n C dX7_campaign_67 rfl rfl ?_
      refine c_geti (f := 714) (k := 7) (i := a0) C dX7_campaign_68 rfl fX7_85 rfl (by decide) rfl hR ha0 ?_
      refine c_cv0 (kc := 4) (a := (ad z x 4 (a0))) C [va_rf (v7), .int ((cI M6 714 (a0)))] [] dX7_campaign_71 rfl ivX7_343 imX4_hear rfl rfl (rcK hR ha0) hR hF h (fun _ e => p_X4_hear ha0 e hR) rfl (Nat.le_of_ble_eq_true rfl) ⟨by decide, by decide⟩ ⟨Nat.le_refl _, Nat.le_refl _⟩ (fun S M8 h hR hF => ?_)
      refine vi_aload_n C dX7_campaign_74 rfl rfl ?_
      refine vi_iconst (v := 0) C dX7_campaign_75 rfl (by decide) ?_
      refine c_puti (f := 716) (k := 7) (i := a0) C dX7_campaign_76 rfl (fpX7_111 _) rfl (by decide) rfl hR hF ha0 h (fun S M9 h hR hF => ?_)
      refine vi_aload_n C dX7_campaign_79 rfl rfl ?_
      refine vi_iconst (v := 1) C dX7_campaign_80 rfl (by decide) ?_
      refine vi_iload_n C dX7_campaign_81 rfl rfl ?_
      refine vi_aload_n C dX7_campaign_82 rfl rfl ?_
      refine c_gets (f := 703) (k := 7) (i := a0) C dX7_campaign_83 rfl fX7_46 rfl (by decide) rfl hR ha0 rfl ?_
      refine c_geti (f := 1007) (k := 10) (i := a0) C dX7_campaign_86 rfl fX7_66 rfl (by decide) rfl hR ha0 ?_
      refine vi_iconst (v := 1) C dX7_campaign_89 rfl (by decide) ?_
      refine vi_iadd C dX7_campaign_90 rfl ?_
      refine vi_null C dX7_campaign_91 rfl ?_
      refine c_cv0 (kc := 7) (a := (ad z x 7 (a0))) C [.int ((1 : Int32)), .int (l2_38), .int (((cI M9 1007 (a0)) + (1 : Int32))), .null] [] dX7_campaign_92 rfl ivX7_320 imX7_sendToAll rfl rfl (rcK hR ha0) hR hF h (fun _ e => p_X7_sendToAll ha0 e hR) rfl (Nat.le_of_ble_eq_true rfl) ⟨by decide, by decide⟩ ⟨Nat.le_refl _, Nat.le_refl _⟩ (fun S M10 h hR hF => ?_)
      exact c_ret0 C dX7_campaign_95 rfl hR hF ⟨Nat.zero_le _, Nat.zero_le _⟩ h
    · replace h := iT c11 h
      exact c_ret0 C dX7_campaign_46 rfl hR hF ⟨Nat.zero_le _, Nat.zero_le _⟩ h
  · intro k38_2 h38_2 h
    refine vi_icmp_gt (t' := 38) C dX7_campaign_28 rfl (by decide) (fun c3 => ?_) (fun c3 => ?_)
    · replace h := iT c3 h
      exact (vi_cut [(0, .ref (ad z x 7 (a0))), (2, .int ((((mxI ((cI M 712 (a0))) ((cI M 715 (a0)))) - ((mxI ((cI M 712 (a0))) ((cI M 715 (a0)))) - (mxI ((cI M 712 (a0))) ((cI M 715 (a0)))) / (cI M 701 (a0)) * (cI M 701 (a0)))) + (cI M 700 (a0)))))] ⟨rfl, rfl, trivial⟩ (h38_2 _ h _ hR hF))
    · replace h := iN c3 h
      refine vi_iload_n C dX7_campaign_31 rfl rfl ?_
      refine vi_aload_n C dX7_campaign_32 rfl rfl ?_
      refine c_geti (f := 701) (k := 7) (i := a0) C dX7_campaign_33 rfl fX7_40 rfl (by decide) rfl hR ha0 ?_
      refine vi_iadd C dX7_campaign_36 rfl ?_
      refine vi_istore_n C dX7_campaign_37 rfl (by decide) ?_
      exact (vi_cut [(0, .ref (ad z x 7 (a0))), (2, .int (((((mxI ((cI M 712 (a0))) ((cI M 715 (a0)))) - ((mxI ((cI M 712 (a0))) ((cI M 715 (a0)))) - (mxI ((cI M 712 (a0))) ((cI M 715 (a0)))) / (cI M 701 (a0)) * (cI M 701 (a0)))) + (cI M 700 (a0))) + (cI M 701 (a0)))))] ⟨rfl, rfl, trivial⟩ (h38_2 _ h _ hR hF))

def F_X7_campaignIsDue (N : Nat) (M : vC) (a0 : Nat) : Option (vC × Int32) := if (cI M 400 (a0)) = (1 : Int32) then (if (cI M 716 (a0)) < (cI M 702 (a0)) then (zb ((0 : Int32)) (some (M, (0 : Int32)))) else (zb ((1 : Int32)) (some (M, (1 : Int32))))) else (if (cI M 601 (a0)) ≤ 0 then (zb ((0 : Int32)) (some (M, (0 : Int32)))) else (if (cI M 716 (a0)) < ((cI M 702 (a0)) + (cI M 700 (a0))) then (zb ((0 : Int32)) (some (M, (0 : Int32)))) else (zb ((1 : Int32)) (some (M, (1 : Int32))))))

set_option maxRecDepth 100000 in
set_option maxHeartbeats 4000000 in
theorem p_X7_campaignIsDue {N : Nat} {M : vC} {R : (vC × Int32)} {a0 : Nat} (ha0 : a0 < N) (h : F_X7_campaignIsDue N M a0 = some R) {E : vE} {S0 : vS} {z x d0 : Nat} (hR : RC S0 z x N d0 M) : vi_Met E yX7_campaignIsDue cX7_campaignIsDue 1 (some .boolean) 0 0 0 [.ref (ad z x 7 (a0))] S0 (cz M) (D1 S0 z x N d0 R) := by
  refine vi_met (by decide) (Nat.le_of_ble_eq_true rfl) ?_
  intro X C
  have hF := cF.refl S0 z x N d0
  unfold F_X7_campaignIsDue at h
  refine vi_aload_n C dX7_campaignIsDue_0 rfl rfl ?_
  refine c_gets (f := 707) (k := 7) (i := a0) C dX7_campaignIsDue_1 rfl fX7_28 rfl (by decide) rfl hR ha0 rfl ?_
  refine c_geti (f := 400) (k := 4) (i := a0) C dX7_campaignIsDue_4 rfl fX7_88 rfl (by decide) rfl hR ha0 ?_
  refine vi_iconst (v := 1) C dX7_campaignIsDue_7 rfl (by decide) ?_
  refine vi_icmp_ne (t' := 28) C dX7_campaignIsDue_8 rfl (by decide) (fun c4 => ?_) (fun c4 => ?_)
  · replace h := iN c4 h
    refine vi_aload_n C dX7_campaignIsDue_28 rfl rfl ?_
    refine c_gets (f := 705) (k := 7) (i := a0) C dX7_campaignIsDue_29 rfl fX7_12 rfl (by decide) rfl hR ha0 rfl ?_
    refine c_geti (f := 601) (k := 6) (i := a0) C dX7_campaignIsDue_32 rfl fX7_100 rfl (by decide) rfl hR ha0 ?_
    refine vi_if_le (t' := 58) C dX7_campaignIsDue_35 rfl (by decide) (fun c2 => ?_) (fun c2 => ?_)
    · replace h := iT c2 h
      refine vi_iconst (v := 0) C dX7_campaignIsDue_58 rfl (by decide) ?_
      exact c_retz C dX7_campaignIsDue_59 rfl hR hF ⟨Nat.zero_le _, Nat.zero_le _⟩ h
    · replace h := iN c2 h
      refine vi_aload_n C dX7_campaignIsDue_38 rfl rfl ?_
      refine c_geti (f := 716) (k := 7) (i := a0) C dX7_campaignIsDue_39 rfl fX7_111 rfl (by decide) rfl hR ha0 ?_
      refine vi_aload_n C dX7_campaignIsDue_42 rfl rfl ?_
      refine c_geti (f := 702) (k := 7) (i := a0) C dX7_campaignIsDue_43 rfl fX7_43 rfl (by decide) rfl hR ha0 ?_
      refine vi_aload_n C dX7_campaignIsDue_46 rfl rfl ?_
      refine c_geti (f := 700) (k := 7) (i := a0) C dX7_campaignIsDue_47 rfl fX7_36 rfl (by decide) rfl hR ha0 ?_
      refine vi_iadd C dX7_campaignIsDue_50 rfl ?_
      refine vi_icmp_lt (t' := 58) C dX7_campaignIsDue_51 rfl (by decide) (fun c1 => ?_) (fun c1 => ?_)
      · replace h := iT c1 h
        refine vi_iconst (v := 0) C dX7_campaignIsDue_58 rfl (by decide) ?_
        exact c_retz C dX7_campaignIsDue_59 rfl hR hF ⟨Nat.zero_le _, Nat.zero_le _⟩ h
      · replace h := iN c1 h
        refine vi_iconst (v := 1) C dX7_campaignIsDue_54 rfl (by decide) ?_
        refine vi_goto (t' := 59) C dX7_campaignIsDue_55 (by decide) ?_
        exact c_retz C dX7_campaignIsDue_59 rfl hR hF ⟨Nat.zero_le _, Nat.zero_le _⟩ h
  · replace h := iT c4 h
    refine vi_aload_n C dX7_campaignIsDue_11 rfl rfl ?_
    refine c_geti (f := 716) (k := 7) (i := a0) C dX7_campaignIsDue_12 rfl fX7_111 rfl (by decide) rfl hR ha0 ?_
    refine vi_aload_n C dX7_campaignIsDue_15 rfl rfl ?_
    refine c_geti (f := 702) (k := 7) (i := a0) C dX7_campaignIsDue_16 rfl fX7_43 rfl (by decide) rfl hR ha0 ?_
    refine vi_icmp_lt (t' := 26) C dX7_campaignIsDue_19 rfl (by decide) (fun c3 => ?_) (fun c3 => ?_)
    · replace h := iT c3 h
      refine vi_iconst (v := 0) C dX7_campaignIsDue_26 rfl (by decide) ?_
      exact c_retz C dX7_campaignIsDue_27 rfl hR hF ⟨Nat.zero_le _, Nat.zero_le _⟩ h
    · replace h := iN c3 h
      refine vi_iconst (v := 1) C dX7_campaignIsDue_22 rfl (by decide) ?_
      refine vi_goto (t' := 27) C dX7_campaignIsDue_23 (by decide) ?_
      exact c_retz C dX7_campaignIsDue_27 rfl hR hF ⟨Nat.zero_le _, Nat.zero_le _⟩ h

def F_X7_propose (N : Nat) (M : vC) (a0 : Nat) (a1 : Option Nat) : Option vC := oc (a1) (some M) (fun o1 => b2 (F_X7_accept N M (a0) (some (o1)) ((cI M 401 (a0)))) fun M2 v3 => if v3 = 0 then (some M2) else ((F_X4_propose N M2 (a0) (some (o1)) ((cI M2 700 (a0)))).bind fun M4 => lt1 (uI M4 716 (a0) ((0 : Int32))) fun M5 => (F_X7_sendToAll N M5 (a0) ((3 : Int32)) ((cI M5 401 (a0))) (((cI M5 1007 (a0)) + (1 : Int32))) (some (o1))).bind fun M6 => some M6))

set_option maxRecDepth 100000 in
set_option maxHeartbeats 4000000 in
theorem p_X7_propose {N : Nat} {M : vC} {R : vC} {a0 : Nat} {a1 : Option Nat} (ha0 : a0 < N) (h : F_X7_propose N M a0 a1 = some R) {E : vE} {S0 : vS} {z x d0 : Nat} (hR : RC S0 z x N d0 M) : vi_Met E yX7_propose cX7_propose 2 none 5 0 0 [.ref (ad z x 7 (a0)), va_rf (a1)] S0 (cz M) (D0 S0 z x N d0 R) := by
  refine vi_met (by decide) (by cases a1 <;> exact Nat.le_of_ble_eq_true rfl) ?_
  intro X C
  rw [show lv_args 0 [.ref (ad z x 7 (a0)), va_rf (a1)] = [(0, .ref (ad z x 7 (a0))), (1, va_rf (a1))] from by cases a1 <;> rfl]
  have hF := cF.refl S0 z x N d0
  unfold F_X7_propose at h
  refine vi_aload_nq (o := (a1)) C dX7_propose_0 rfl rfl ?_
  rcases oco h with ⟨rfl, hh⟩ | ⟨o1, rfl, hh⟩
  · replace h := hh
    clear hh
    refine vi_ifnull (o := none) (t' := 19) C dX7_propose_1 rfl (by decide) (fun _ => ?_) (fun e => absurd rfl e)
    exact c_ret0 C dX7_propose_19 rfl hR hF ⟨Nat.zero_le _, Nat.zero_le _⟩ h
  · replace h := hh
    clear hh
    refine vi_ifnull (o := (some (o1))) (t' := 19) C dX7_propose_1 rfl (by decide) (fun e => by cases e) (fun _ => ?_)
    refine vi_aload_n C dX7_propose_4 rfl rfl ?_
    refine vi_aload_n C dX7_propose_5 rfl rfl ?_
    refine vi_aload_n C dX7_propose_6 rfl rfl ?_
    refine c_gets (f := 707) (k := 7) (i := a0) C dX7_propose_7 rfl fX7_28 rfl (by decide) rfl hR ha0 rfl ?_
    refine c_geti (f := 401) (k := 4) (i := a0) C dX7_propose_10 rfl fX7_91 rfl (by decide) rfl hR ha0 ?_
    refine c_cv1 (kc := 7) (a := (ad z x 7 (a0))) C [.ref (o1), .int ((cI M 401 (a0)))] [] dX7_propose_13 rfl ivX7_350 imX7_accept rfl rfl (rcK hR ha0) hR hF h (fun _ e => p_X7_accept ha0 e hR) rfl (Nat.le_of_ble_eq_true rfl) ⟨by decide, by decide⟩ ⟨Nat.le_refl _, Nat.le_refl _⟩ (fun S M2 v3 h hR hF => ?_)
    refine vi_if_ne (t' := 20) C dX7_propose_16 rfl (by decide) (fun c7 => ?_) (fun c7 => ?_)
    · replace h := iN c7 h
      refine vi_aload_n C dX7_propose_20 rfl rfl ?_
      refine c_gets (f := 707) (k := 7) (i := a0) C dX7_propose_21 rfl fX7_28 rfl (by decide) rfl hR ha0 rfl ?_
      refine vi_aload_n C dX7_propose_24 rfl rfl ?_
      refine vi_aload_n C dX7_propose_25 rfl rfl ?_
      refine c_geti (f := 700) (k := 7) (i := a0) C dX7_propose_26 rfl fX7_36 rfl (by decide) rfl hR ha0 ?_
      refine c_cv0 (kc := 4) (a := (ad z x 4 (a0))) C [.ref (o1), .int ((cI M2 700 (a0)))] [] dX7_propose_29 rfl ivX7_354 imX4_propose rfl rfl (rcK hR ha0) hR hF h (fun _ e => p_X4_propose ha0 e hR) rfl (Nat.le_of_ble_eq_true rfl) ⟨by decide, by decide⟩ ⟨Nat.le_refl _, Nat.le_refl _⟩ (fun S M4 h hR hF => ?_)
      refine vi_aload_n C dX7_propose_32 rfl rfl ?_
      refine vi_iconst (v := 0) C dX7_propose_33 rfl (by decide) ?_
      refine c_puti (f := 716) (k := 7) (i := a0) C dX7_propose_34 rfl (fpX7_111 _) rfl (by decide) rfl hR hF ha0 h (fun S M5 h hR hF => ?_)
      refine vi_aload_n C dX7_propose_37 rfl rfl ?_
      refine vi_iconst (v := 3) C dX7_propose_38 rfl (by decide) ?_
      refine vi_aload_n C dX7_propose_39 rfl rfl ?_
      refine c_gets (f := 707) (k := 7) (i := a0) C dX7_propose_40 rfl fX7_28 rfl (by decide) rfl hR ha0 rfl ?_
      refine c_geti (f := 401) (k := 4) (i := a0) C dX7_propose_43 rfl fX7_91 rfl (by decide) rfl hR ha0 ?_
      refine vi_aload_n C dX7_propose_46 rfl rfl ?_
      refine c_gets (f := 703) (k := 7) (i := a0) C dX7_propose_47 rfl fX7_46 rfl (by decide) rfl hR ha0 rfl ?_
      refine c_geti (f := 1007) (k := 10) (i := a0) C dX7_propose_50 rfl fX7_66 rfl (by decide) rfl hR ha0 ?_
      refine vi_iconst (v := 1) C dX7_propose_53 rfl (by decide) ?_
      refine vi_iadd C dX7_propose_54 rfl ?_
      refine vi_aload_n C dX7_propose_55 rfl rfl ?_
      refine c_cv0 (kc := 7) (a := (ad z x 7 (a0))) C [.int ((3 : Int32)), .int ((cI M5 401 (a0))), .int (((cI M5 1007 (a0)) + (1 : Int32))), .ref (o1)] [] dX7_propose_56 rfl ivX7_320 imX7_sendToAll rfl rfl (rcK hR ha0) hR hF h (fun _ e => p_X7_sendToAll ha0 e hR) rfl (Nat.le_of_ble_eq_true rfl) ⟨by decide, by decide⟩ ⟨Nat.le_refl _, Nat.le_refl _⟩ (fun S M6 h hR hF => ?_)
      exact c_ret0 C dX7_propose_59 rfl hR hF ⟨Nat.zero_le _, Nat.zero_le _⟩ h
    · replace h := iT c7 h
      exact c_ret0 C dX7_propose_19 rfl hR hF ⟨Nat.zero_le _, Nat.zero_le _⟩ h

def F_X7_remind (N : Nat) (M : vC) (a0 : Nat) : Option vC := lt1 (uI M 716 (a0) ((0 : Int32))) fun M1 => lt1 (cP M1 403 (a0)) fun v2 => oc (v2) ((F_X7_sendToAll N M1 (a0) ((10 : Int32)) ((cI M1 401 (a0))) ((cI M1 1007 (a0))) none).bind fun M4 => some M4) (fun o3 => lt1 (cP M1 403 (a0)) fun v5 => (F_X7_sendToAll N M1 (a0) ((3 : Int32)) ((cI M1 401 (a0))) (((cI M1 1007 (a0)) + (1 : Int32))) (v5)).bind fun M6 => some M6)

set_option maxRecDepth 100000 in
set_option maxHeartbeats 4000000 in
theorem p_X7_remind {N : Nat} {M : vC} {R : vC} {a0 : Nat} (ha0 : a0 < N) (h : F_X7_remind N M a0 = some R) {E : vE} {S0 : vS} {z x d0 : Nat} (hR : RC S0 z x N d0 M) : vi_Met E yX7_remind cX7_remind 1 none 3 0 0 [.ref (ad z x 7 (a0))] S0 (cz M) (D0 S0 z x N d0 R) := by
  refine vi_met (by decide) (Nat.le_of_ble_eq_true rfl) ?_
  intro X C
  have hF := cF.refl S0 z x N d0
  unfold F_X7_remind at h
  refine vi_aload_n C dX7_remind_0 rfl rfl ?_
  refine vi_iconst (v := 0) C dX7_remind_1 rfl (by decide) ?_
  refine c_puti (f := 716) (k := 7) (i := a0) C dX7_remind_2 rfl (fpX7_111 _) rfl (by decide) rfl hR hF ha0 h (fun S M1 h hR hF => ?_)
  refine vi_aload_n C dX7_remind_5 rfl rfl ?_
  refine c_gets (f := 707) (k := 7) (i := a0) C dX7_remind_6 rfl fX7_28 rfl (by decide) rfl hR ha0 rfl ?_
  refine c_getpL (f := 403) (k := 4) (i := a0) C dX7_remind_9 rfl fX7_103 rfl (by decide) rfl hR ha0 rfl h (fun v2 h => ?_)
  rcases oco h with ⟨rfl, hh⟩ | ⟨o3, rfl, hh⟩
  · replace h := hh
    clear hh
    refine vi_ifnonnull (o := none) (t' := 39) C dX7_remind_12 rfl (by decide) (fun e => absurd rfl e) (fun _ => ?_)
    refine vi_aload_n C dX7_remind_15 rfl rfl ?_
    refine vi_bipush (v := 10) C dX7_remind_16 rfl (by decide) ?_
    refine vi_aload_n C dX7_remind_18 rfl rfl ?_
    refine c_gets (f := 707) (k := 7) (i := a0) C dX7_remind_19 rfl fX7_28 rfl (by decide) rfl hR ha0 rfl ?_
    refine c_geti (f := 401) (k := 4) (i := a0) C dX7_remind_22 rfl fX7_91 rfl (by decide) rfl hR ha0 ?_
    refine vi_aload_n C dX7_remind_25 rfl rfl ?_
    refine c_gets (f := 703) (k := 7) (i := a0) C dX7_remind_26 rfl fX7_46 rfl (by decide) rfl hR ha0 rfl ?_
    refine c_geti (f := 1007) (k := 10) (i := a0) C dX7_remind_29 rfl fX7_66 rfl (by decide) rfl hR ha0 ?_
    refine vi_null C dX7_remind_32 rfl ?_
    refine c_cv0 (kc := 7) (a := (ad z x 7 (a0))) C [.int ((10 : Int32)), .int ((cI M1 401 (a0))), .int ((cI M1 1007 (a0))), .null] [] dX7_remind_33 rfl ivX7_320 imX7_sendToAll rfl rfl (rcK hR ha0) hR hF h (fun _ e => p_X7_sendToAll ha0 e hR) rfl (Nat.le_of_ble_eq_true rfl) ⟨by decide, by decide⟩ ⟨Nat.le_refl _, Nat.le_refl _⟩ (fun S M4 h hR hF => ?_)
    refine vi_goto (t' := 67) C dX7_remind_36 (by decide) ?_
    exact c_ret0 C dX7_remind_67 rfl hR hF ⟨Nat.zero_le _, Nat.zero_le _⟩ h
  · replace h := hh
    clear hh
    refine vi_ifnonnull (o := (some (o3))) (t' := 39) C dX7_remind_12 rfl (by decide) (fun _ => ?_) (fun e => by cases e)
    refine vi_aload_n C dX7_remind_39 rfl rfl ?_
    refine vi_iconst (v := 3) C dX7_remind_40 rfl (by decide) ?_
    refine vi_aload_n C dX7_remind_41 rfl rfl ?_
    refine c_gets (f := 707) (k := 7) (i := a0) C dX7_remind_42 rfl fX7_28 rfl (by decide) rfl hR ha0 rfl ?_
    refine c_geti (f := 401) (k := 4) (i := a0) C dX7_remind_45 rfl fX7_91 rfl (by decide) rfl hR ha0 ?_
    refine vi_aload_n C dX7_remind_48 rfl rfl ?_
    refine c_gets (f := 703) (k := 7) (i := a0) C dX7_remind_49 rfl fX7_46 rfl (by decide) rfl hR ha0 rfl ?_
    refine c_geti (f := 1007) (k := 10) (i := a0) C dX7_remind_52 rfl fX7_66 rfl (by decide) rfl hR ha0 ?_
    refine vi_iconst (v := 1) C dX7_remind_55 rfl (by decide) ?_
    refine vi_iadd C dX7_remind_56 rfl ?_
    refine vi_aload_n C dX7_remind_57 rfl rfl ?_
    refine c_gets (f := 707) (k := 7) (i := a0) C dX7_remind_58 rfl fX7_28 rfl (by decide) rfl hR ha0 rfl ?_
    refine c_getpL (f := 403) (k := 4) (i := a0) C dX7_remind_61 rfl fX7_103 rfl (by decide) rfl hR ha0 rfl h (fun v5 h => ?_)
    refine c_cv0 (kc := 7) (a := (ad z x 7 (a0))) C [.int ((3 : Int32)), .int ((cI M1 401 (a0))), .int (((cI M1 1007 (a0)) + (1 : Int32))), va_rf (v5)] [] dX7_remind_64 rfl ivX7_320 imX7_sendToAll rfl rfl (rcK hR ha0) hR hF h (fun _ e => p_X7_sendToAll ha0 e hR) rfl (Nat.le_of_ble_eq_true rfl) ⟨by decide, by decide⟩ ⟨Nat.le_refl _, Nat.le_refl _⟩ (fun S M6 h hR hF => ?_)
    exact c_ret0 C dX7_remind_67 rfl hR hF ⟨Nat.zero_le _, Nat.zero_le _⟩ h

def F_X7_forward (N : Nat) (M : vC) (a0 : Nat) : Option vC := gd (¬ (cI M 701 (a0)) = 0) <| if (cI M 715 (a0)) ≤ 0 then (some M) else (if ((cI M 715 (a0)) - (cI M 715 (a0)) / (cI M 701 (a0)) * (cI M 701 (a0))) = (cI M 700 (a0)) then (some M) else (b2 (F_X7_sendTo N M (a0) (((cI M 715 (a0)) - (cI M 715 (a0)) / (cI M 701 (a0)) * (cI M 701 (a0)))) ((9 : Int32)) ((0 : Int32)) ((0 : Int32))) fun M2 v3 => b2 (F_X6_first N M2 (a0)) fun M4 v5 => (v3).bind fun o6 => gd (o6 < 202) <| (F_X1_carry N M4 (o6) (v5) ((0 : Int32))).bind fun M8 => some M8))

set_option maxRecDepth 100000 in
set_option maxHeartbeats 4000000 in
theorem p_X7_forward {N : Nat} {M : vC} {R : vC} {a0 : Nat} (ha0 : a0 < N) (h : F_X7_forward N M a0 = some R) {E : vE} {S0 : vS} {z x d0 : Nat} (hR : RC S0 z x N d0 M) : vi_Met E yX7_forward cX7_forward 2 none 2 0 0 [.ref (ad z x 7 (a0))] S0 (cz M) (D0 S0 z x N d0 R) := by
  refine vi_met (by decide) (Nat.le_of_ble_eq_true rfl) ?_
  intro X C
  have hF := cF.refl S0 z x N d0
  unfold F_X7_forward at h
  refine vi_aload_n C dX7_forward_0 rfl rfl ?_
  refine c_geti (f := 715) (k := 7) (i := a0) C dX7_forward_1 rfl fX7_97 rfl (by decide) rfl hR ha0 ?_
  refine vi_aload_n C dX7_forward_4 rfl rfl ?_
  refine c_geti (f := 701) (k := 7) (i := a0) C dX7_forward_5 rfl fX7_40 rfl (by decide) rfl hR ha0 ?_
  obtain ⟨c1, h⟩ := gdo h
  refine vi_irem C dX7_forward_8 rfl c1 ?_
  refine vi_istore_n C dX7_forward_9 rfl (by decide) ?_
  refine vi_aload_n C dX7_forward_10 rfl rfl ?_
  refine c_geti (f := 715) (k := 7) (i := a0) C dX7_forward_11 rfl fX7_97 rfl (by decide) rfl hR ha0 ?_
  refine vi_if_le (t' := 45) C dX7_forward_14 rfl (by decide) (fun c10 => ?_) (fun c10 => ?_)
  · replace h := iT c10 h
    exact c_ret0 C dX7_forward_45 rfl hR hF ⟨Nat.zero_le _, Nat.zero_le _⟩ h
  · replace h := iN c10 h
    refine vi_iload_n C dX7_forward_17 rfl rfl ?_
    refine vi_aload_n C dX7_forward_18 rfl rfl ?_
    refine c_geti (f := 700) (k := 7) (i := a0) C dX7_forward_19 rfl fX7_36 rfl (by decide) rfl hR ha0 ?_
    refine vi_icmp_eq (t' := 45) C dX7_forward_22 rfl (by decide) (fun c9 => ?_) (fun c9 => ?_)
    · replace h := iT c9 h
      exact c_ret0 C dX7_forward_45 rfl hR hF ⟨Nat.zero_le _, Nat.zero_le _⟩ h
    · replace h := iN c9 h
      refine vi_aload_n C dX7_forward_25 rfl rfl ?_
      refine vi_iload_n C dX7_forward_26 rfl rfl ?_
      refine vi_bipush (v := 9) C dX7_forward_27 rfl (by decide) ?_
      refine vi_iconst (v := 0) C dX7_forward_29 rfl (by decide) ?_
      refine vi_iconst (v := 0) C dX7_forward_30 rfl (by decide) ?_
      refine c_cv3 (kc := 7) (a := (ad z x 7 (a0))) (kt := 1) C [.int (((cI M 715 (a0)) - (cI M 715 (a0)) / (cI M 701 (a0)) * (cI M 701 (a0)))), .int ((9 : Int32)), .int ((0 : Int32)), .int ((0 : Int32))] [] dX7_forward_31 rfl ivX7_277 imX7_sendTo rfl rfl (rcK hR ha0) hR hF h (fun _ e => p_X7_sendTo ha0 e hR) rfl (Nat.le_of_ble_eq_true rfl) ⟨by decide, by decide⟩ ⟨Nat.le_refl _, Nat.le_refl _⟩ (fun S M2 v3 h hR hF => ?_)
      refine vi_aload_n C dX7_forward_34 rfl rfl ?_
      refine c_gets (f := 705) (k := 7) (i := a0) C dX7_forward_35 rfl fX7_12 rfl (by decide) rfl hR ha0 rfl ?_
      refine c_cv4 (kc := 6) (a := (ad z x 6 (a0))) C [] [va_rf ((v3).map (ad z x 1))] dX7_forward_38 rfl ivX7_346 imX6_first rfl rfl (rcK hR ha0) hR hF h (fun _ e => p_X6_first ha0 e hR) rfl (by simp only [List.map_cons, List.map_nil, vi_rfc]; exact Nat.le_of_ble_eq_true rfl) ⟨by decide, by decide⟩ ⟨Nat.le_refl _, Nat.le_refl _⟩ (fun S M4 v5 h hR hF => ?_)
      refine vi_iconst (v := 0) C dX7_forward_41 rfl (by decide) ?_
      obtain ⟨o6, rfl, hh⟩ := bdo h
      replace h := hh
      clear hh
      obtain ⟨c7, h⟩ := gdo h
      refine c_cv0 (kc := 1) (a := (ad z x 1 (o6))) C [va_rf (v5), .int ((0 : Int32))] [] dX7_forward_42 rfl ivX7_281 imX1_carry rfl rfl (rcK hR c7) hR hF h (fun _ e => p_X1_carry c7 e hR) rfl (Nat.le_of_ble_eq_true rfl) ⟨by decide, by decide⟩ ⟨Nat.le_refl _, Nat.le_refl _⟩ (fun S M8 h hR hF => ?_)
      exact c_ret0 C dX7_forward_45 rfl hR hF ⟨Nat.zero_le _, Nat.zero_le _⟩ h

def F_X7_tickAsFollower (N : Nat) (M : vC) (a0 : Nat) : Option vC := if (cI M 601 (a0)) ≤ 0 then (if (cI M 716 (a0)) < (cI M 702 (a0)) then (some M) else (lt1 (uI M 716 (a0) ((0 : Int32))) fun M1 => gd (¬ (cI M1 701 (a0)) = 0) <| (F_X7_askFor N M1 (a0) ((((cI M1 700 (a0)) + (1 : Int32)) - ((cI M1 700 (a0)) + (1 : Int32)) / (cI M1 701 (a0)) * (cI M1 701 (a0))))).bind fun M3 => some M3)) else ((F_X7_forward N M (a0)).bind fun M5 => some M5)

set_option maxRecDepth 100000 in
set_option maxHeartbeats 4000000 in
theorem p_X7_tickAsFollower {N : Nat} {M : vC} {R : vC} {a0 : Nat} (ha0 : a0 < N) (h : F_X7_tickAsFollower N M a0 = some R) {E : vE} {S0 : vS} {z x d0 : Nat} (hR : RC S0 z x N d0 M) : vi_Met E yX7_tickAsFollower cX7_tickAsFollower 1 none 3 0 0 [.ref (ad z x 7 (a0))] S0 (cz M) (D0 S0 z x N d0 R) := by
  refine vi_met (by decide) (Nat.le_of_ble_eq_true rfl) ?_
  intro X C
  have hF := cF.refl S0 z x N d0
  unfold F_X7_tickAsFollower at h
  refine vi_aload_n C dX7_tickAsFollower_0 rfl rfl ?_
  refine c_gets (f := 705) (k := 7) (i := a0) C dX7_tickAsFollower_1 rfl fX7_12 rfl (by decide) rfl hR ha0 rfl ?_
  refine c_geti (f := 601) (k := 6) (i := a0) C dX7_tickAsFollower_4 rfl fX7_100 rfl (by decide) rfl hR ha0 ?_
  refine vi_if_le (t' := 17) C dX7_tickAsFollower_7 rfl (by decide) (fun c6 => ?_) (fun c6 => ?_)
  · replace h := iT c6 h
    refine vi_aload_n C dX7_tickAsFollower_17 rfl rfl ?_
    refine c_geti (f := 716) (k := 7) (i := a0) C dX7_tickAsFollower_18 rfl fX7_111 rfl (by decide) rfl hR ha0 ?_
    refine vi_aload_n C dX7_tickAsFollower_21 rfl rfl ?_
    refine c_geti (f := 702) (k := 7) (i := a0) C dX7_tickAsFollower_22 rfl fX7_43 rfl (by decide) rfl hR ha0 ?_
    refine vi_icmp_lt (t' := 48) C dX7_tickAsFollower_25 rfl (by decide) (fun c4 => ?_) (fun c4 => ?_)
    · replace h := iT c4 h
      exact c_ret0 C dX7_tickAsFollower_48 rfl hR hF ⟨Nat.zero_le _, Nat.zero_le _⟩ h
    · replace h := iN c4 h
      refine vi_aload_n C dX7_tickAsFollower_28 rfl rfl ?_
      refine vi_iconst (v := 0) C dX7_tickAsFollower_29 rfl (by decide) ?_
      refine c_puti (f := 716) (k := 7) (i := a0) C dX7_tickAsFollower_30 rfl (fpX7_111 _) rfl (by decide) rfl hR hF ha0 h (fun S M1 h hR hF => ?_)
      refine vi_aload_n C dX7_tickAsFollower_33 rfl rfl ?_
      refine vi_aload_n C dX7_tickAsFollower_34 rfl rfl ?_
      refine c_geti (f := 700) (k := 7) (i := a0) C dX7_tickAsFollower_35 rfl fX7_36 rfl (by decide) rfl hR ha0 ?_
      refine vi_iconst (v := 1) C dX7_tickAsFollower_38 rfl (by decide) ?_
      refine vi_iadd C dX7_tickAsFollower_39 rfl ?_
      refine vi_aload_n C dX7_tickAsFollower_40 rfl rfl ?_
      refine c_geti (f := 701) (k := 7) (i := a0) C dX7_tickAsFollower_41 rfl fX7_40 rfl (by decide) rfl hR ha0 ?_
      obtain ⟨c2, h⟩ := gdo h
      refine vi_irem C dX7_tickAsFollower_44 rfl c2 ?_
      refine c_cv0 (kc := 7) (a := (ad z x 7 (a0))) C [.int ((((cI M1 700 (a0)) + (1 : Int32)) - ((cI M1 700 (a0)) + (1 : Int32)) / (cI M1 701 (a0)) * (cI M1 701 (a0))))] [] dX7_tickAsFollower_45 rfl ivX7_327 imX7_askFor rfl rfl (rcK hR ha0) hR hF h (fun _ e => p_X7_askFor ha0 e hR) rfl (Nat.le_of_ble_eq_true rfl) ⟨by decide, by decide⟩ ⟨Nat.le_refl _, Nat.le_refl _⟩ (fun S M3 h hR hF => ?_)
      exact c_ret0 C dX7_tickAsFollower_48 rfl hR hF ⟨Nat.zero_le _, Nat.zero_le _⟩ h
  · replace h := iN c6 h
    refine vi_aload_n C dX7_tickAsFollower_10 rfl rfl ?_
    refine c_cv0 (kc := 7) (a := (ad z x 7 (a0))) C [] [] dX7_tickAsFollower_11 rfl ivX7_324 imX7_forward rfl rfl (rcK hR ha0) hR hF h (fun _ e => p_X7_forward ha0 e hR) rfl (Nat.le_of_ble_eq_true rfl) ⟨by decide, by decide⟩ ⟨Nat.le_refl _, Nat.le_refl _⟩ (fun S M5 h hR hF => ?_)
    refine vi_goto (t' := 48) C dX7_tickAsFollower_14 (by decide) ?_
    exact c_ret0 C dX7_tickAsFollower_48 rfl hR hF ⟨Nat.zero_le _, Nat.zero_le _⟩ h

def F_X7_tick (N : Nat) (M : vC) (a0 : Nat) : Option vC := lt1 (uI M 716 (a0) (((cI M 716 (a0)) + (1 : Int32)))) fun M1 => if (cI M1 400 (a0)) = (2 : Int32) then (lt1 (cP M1 403 (a0)) fun v8 => jn (fun (M13 : vC) (s0_46 : (Option Nat)) => oc (s0_46) (if (cI M13 716 (a0)) < (cI M13 702 (a0)) then (some M13) else ((F_X7_remind N M13 (a0)).bind fun M15 => some M15)) (fun o14 => (F_X7_propose N M13 (a0) (some (o14))).bind fun M17 => some M17)) (fun k46_9 => oc (v8) (b2 (F_X6_advance N M1 (a0) (a0)) fun M11 v12 => (k46_9 (M11) ((v12)))) (fun o10 => (k46_9 (M1) (none))))) else (b2 (F_X7_campaignIsDue N M1 (a0)) fun M2 v3 => if v3 = 0 then (if (cI M2 400 (a0)) = 0 then ((F_X7_tickAsFollower N M2 (a0)).bind fun M4 => some M4) else (some M2)) else ((F_X7_campaign N M2 (a0)).bind fun M6 => some M6))

set_option maxRecDepth 100000 in
set_option maxHeartbeats 4000000 in
theorem p_X7_tick {N : Nat} {M : vC} {R : vC} {a0 : Nat} (ha0 : a0 < N) (h : F_X7_tick N M a0 = some R) {E : vE} {S0 : vS} {z x d0 : Nat} (hR : RC S0 z x N d0 M) : vi_Met E yX7_tick cX7_tick 2 none 6 0 0 [.ref (ad z x 7 (a0))] S0 (cz M) (D0 S0 z x N d0 R) := by
  refine vi_met (by decide) (Nat.le_of_ble_eq_true rfl) ?_
  intro X C
  have hF := cF.refl S0 z x N d0
  unfold F_X7_tick at h
  refine vi_aload_n C dX7_tick_0 rfl rfl ?_
  refine vi_dup C dX7_tick_1 rfl rfl ?_
  refine c_geti (f := 716) (k := 7) (i := a0) C dX7_tick_2 rfl fX7_111 rfl (by decide) rfl hR ha0 ?_
  refine vi_iconst (v := 1) C dX7_tick_5 rfl (by decide) ?_
  refine vi_iadd C dX7_tick_6 rfl ?_
  refine c_puti (f := 716) (k := 7) (i := a0) C dX7_tick_7 rfl (fpX7_111 _) rfl (by decide) rfl hR hF ha0 h (fun S M1 h hR hF => ?_)
  refine vi_aload_n C dX7_tick_10 rfl rfl ?_
  refine c_gets (f := 707) (k := 7) (i := a0) C dX7_tick_11 rfl fX7_28 rfl (by decide) rfl hR ha0 rfl ?_
  refine c_geti (f := 400) (k := 4) (i := a0) C dX7_tick_14 rfl fX7_88 rfl (by decide) rfl hR ha0 ?_
  refine vi_iconst (v := 2) C dX7_tick_17 rfl (by decide) ?_
  refine vi_icmp_ne (t' := 77) C dX7_tick_18 rfl (by decide) (fun c18 => ?_) (fun c18 => ?_)
  · replace h := iN c18 h
    refine vi_aload_n C dX7_tick_77 rfl rfl ?_
    refine c_cv1 (kc := 7) (a := (ad z x 7 (a0))) C [] [] dX7_tick_78 rfl ivX7_311 imX7_campaignIsDue rfl rfl (rcK hR ha0) hR hF h (fun _ e => p_X7_campaignIsDue ha0 e hR) rfl (Nat.le_of_ble_eq_true rfl) ⟨by decide, by decide⟩ ⟨Nat.le_refl _, Nat.le_refl _⟩ (fun S M2 v3 h hR hF => ?_)
    refine vi_if_eq (t' := 91) C dX7_tick_81 rfl (by decide) (fun c7 => ?_) (fun c7 => ?_)
    · replace h := iT c7 h
      refine vi_aload_n C dX7_tick_91 rfl rfl ?_
      refine c_gets (f := 707) (k := 7) (i := a0) C dX7_tick_92 rfl fX7_28 rfl (by decide) rfl hR ha0 rfl ?_
      refine c_geti (f := 400) (k := 4) (i := a0) C dX7_tick_95 rfl fX7_88 rfl (by decide) rfl hR ha0 ?_
      refine vi_if_ne (t' := 105) C dX7_tick_98 rfl (by decide) (fun c5 => ?_) (fun c5 => ?_)
      · replace h := iN c5 h
        exact c_ret0 C dX7_tick_105 rfl hR hF ⟨Nat.zero_le _, Nat.zero_le _⟩ h
      · replace h := iT c5 h
        refine vi_aload_n C dX7_tick_101 rfl rfl ?_
        refine c_cv0 (kc := 7) (a := (ad z x 7 (a0))) C [] [] dX7_tick_102 rfl ivX7_317 imX7_tickAsFollower rfl rfl (rcK hR ha0) hR hF h (fun _ e => p_X7_tickAsFollower ha0 e hR) rfl (Nat.le_of_ble_eq_true rfl) ⟨by decide, by decide⟩ ⟨Nat.le_refl _, Nat.le_refl _⟩ (fun S M4 h hR hF => ?_)
        exact c_ret0 C dX7_tick_105 rfl hR hF ⟨Nat.zero_le _, Nat.zero_le _⟩ h
    · replace h := iN c7 h
      refine vi_aload_n C dX7_tick_84 rfl rfl ?_
      refine c_cv0 (kc := 7) (a := (ad z x 7 (a0))) C [] [] dX7_tick_85 rfl ivX7_314 imX7_campaign rfl rfl (rcK hR ha0) hR hF h (fun _ e => p_X7_campaign ha0 e hR) rfl (Nat.le_of_ble_eq_true rfl) ⟨by decide, by decide⟩ ⟨Nat.le_refl _, Nat.le_refl _⟩ (fun S M6 h hR hF => ?_)
      refine vi_goto (t' := 105) C dX7_tick_88 (by decide) ?_
      exact c_ret0 C dX7_tick_105 rfl hR hF ⟨Nat.zero_le _, Nat.zero_le _⟩ h
  · replace h := iT c18 h
    refine vi_aload_n C dX7_tick_21 rfl rfl ?_
    refine c_gets (f := 707) (k := 7) (i := a0) C dX7_tick_22 rfl fX7_28 rfl (by decide) rfl hR ha0 rfl ?_
    refine c_getpL (f := 403) (k := 4) (i := a0) C dX7_tick_25 rfl fX7_103 rfl (by decide) rfl hR ha0 rfl h (fun v8 h => ?_)
    refine r_jn h (fun k => ∀ (M13 : vC) (s0_46 : (Option Nat)), k M13 s0_46 = some R → ∀ S, RC S z x N d0 M13 → cF S0 S z x N d0 → vi_W E X 2 (vi_Z E X (D0 S0 z x N d0 R) 0 0) 46 [(0, .ref (ad z x 7 (a0)))] [va_rf (s0_46)] S (cz M13) 0 0) ?_ ?_
    · intro M13 s0_46 h S hR hF
      refine vi_astore_nq (o := (s0_46)) C dX7_tick_46 rfl (by decide) ?_
      refine vi_aload_nq (o := (s0_46)) C dX7_tick_47 rfl rfl ?_
      rcases oco h with ⟨rfl, hh⟩ | ⟨o14, rfl, hh⟩
      · replace h := hh
        clear hh
        refine vi_ifnull (o := none) (t' := 59) C dX7_tick_48 rfl (by decide) (fun _ => ?_) (fun e => absurd rfl e)
        refine vi_aload_n C dX7_tick_59 rfl rfl ?_
        refine c_geti (f := 716) (k := 7) (i := a0) C dX7_tick_60 rfl fX7_111 rfl (by decide) rfl hR ha0 ?_
        refine vi_aload_n C dX7_tick_63 rfl rfl ?_
        refine c_geti (f := 702) (k := 7) (i := a0) C dX7_tick_64 rfl fX7_43 rfl (by decide) rfl hR ha0 ?_
        refine vi_icmp_lt (t' := 74) C dX7_tick_67 rfl (by decide) (fun c16 => ?_) (fun c16 => ?_)
        · replace h := iT c16 h
          refine vi_goto (t' := 105) C dX7_tick_74 (by decide) ?_
          exact c_ret0 C dX7_tick_105 rfl hR hF ⟨Nat.zero_le _, Nat.zero_le _⟩ h
        · replace h := iN c16 h
          refine vi_aload_n C dX7_tick_70 rfl rfl ?_
          refine c_cv0 (kc := 7) (a := (ad z x 7 (a0))) C [] [] dX7_tick_71 rfl ivX7_308 imX7_remind rfl rfl (rcK hR ha0) hR hF h (fun _ e => p_X7_remind ha0 e hR) rfl (Nat.le_of_ble_eq_true rfl) ⟨by decide, by decide⟩ ⟨Nat.le_refl _, Nat.le_refl _⟩ (fun S M15 h hR hF => ?_)
          refine vi_goto (t' := 105) C dX7_tick_74 (by decide) ?_
          exact c_ret0 C dX7_tick_105 rfl hR hF ⟨Nat.zero_le _, Nat.zero_le _⟩ h
      · replace h := hh
        clear hh
        refine vi_ifnull (o := (some (o14))) (t' := 59) C dX7_tick_48 rfl (by decide) (fun e => by cases e) (fun _ => ?_)
        refine vi_aload_n C dX7_tick_51 rfl rfl ?_
        refine vi_aload_n C dX7_tick_52 rfl rfl ?_
        refine c_cv0 (kc := 7) (a := (ad z x 7 (a0))) C [.ref (o14)] [] dX7_tick_53 rfl ivX7_305 imX7_propose rfl rfl (rcK hR ha0) hR hF h (fun _ e => p_X7_propose ha0 e hR) rfl (Nat.le_of_ble_eq_true rfl) ⟨by decide, by decide⟩ ⟨Nat.le_refl _, Nat.le_refl _⟩ (fun S M17 h hR hF => ?_)
        refine vi_goto (t' := 74) C dX7_tick_56 (by decide) ?_
        refine vi_goto (t' := 105) C dX7_tick_74 (by decide) ?_
        exact c_ret0 C dX7_tick_105 rfl hR hF ⟨Nat.zero_le _, Nat.zero_le _⟩ h
    · intro k46_9 h46_9 h
      rcases oco h with ⟨rfl, hh⟩ | ⟨o10, rfl, hh⟩
      · replace h := hh
        clear hh
        refine vi_ifnonnull (o := none) (t' := 45) C dX7_tick_28 rfl (by decide) (fun e => absurd rfl e) (fun _ => ?_)
        refine vi_aload_n C dX7_tick_31 rfl rfl ?_
        refine c_gets (f := 705) (k := 7) (i := a0) C dX7_tick_32 rfl fX7_12 rfl (by decide) rfl hR ha0 rfl ?_
        refine vi_aload_n C dX7_tick_35 rfl rfl ?_
        refine c_gets (f := 703) (k := 7) (i := a0) C dX7_tick_36 rfl fX7_46 rfl (by decide) rfl hR ha0 rfl ?_
        refine c_cv4 (kc := 6) (a := (ad z x 6 (a0))) C [.ref (ad z x 10 (a0))] [] dX7_tick_39 rfl ivX7_301 imX6_advance rfl rfl (rcK hR ha0) hR hF h (fun _ e => p_X6_advance ha0 ha0 e hR) rfl (Nat.le_of_ble_eq_true rfl) ⟨by decide, by decide⟩ ⟨Nat.le_refl _, Nat.le_refl _⟩ (fun S M11 v12 h hR hF => ?_)
        refine vi_goto (t' := 46) C dX7_tick_42 (by decide) ?_
        exact (vi_cut [(0, .ref (ad z x 7 (a0)))] ⟨rfl, trivial⟩ (h46_9 _ _ h _ hR hF))
      · replace h := hh
        clear hh
        refine vi_ifnonnull (o := (some (o10))) (t' := 45) C dX7_tick_28 rfl (by decide) (fun _ => ?_) (fun e => by cases e)
        refine vi_null C dX7_tick_45 rfl ?_
        exact (vi_cut [(0, .ref (ad z x 7 (a0)))] ⟨rfl, trivial⟩ (h46_9 _ _ h _ hR hF))

def F_X7_afterAccepted (N : Nat) (M : vC) (a0 : Nat) (a1 : Nat) : Option (vC × Option Nat) := b2 (F_X4_is N M (a0) ((2 : Int32)) ((cI M 103 (a1)))) fun M1 v2 => if v2 = 0 then (some (M1, none)) else (lt1 (cP M1 403 (a0)) fun v3 => oc (v3) (some (M1, none)) (fun o4 => if (cI M1 104 (a1)) = ((cI M1 1007 (a0)) + (1 : Int32)) then (b2 (F_X4_hasAnswer N M1 (a0) ((cI M1 101 (a1)))) fun M5 v6 => if v6 = 0 then (b2 (F_X4_answer N M5 (a0) ((cI M5 101 (a1))) ((cI M5 701 (a0)))) fun M7 v8 => if v8 = 0 then (some (M7, none)) else (lt1 (cP M7 403 (a0)) fun v9 => (F_X7_sendToAll N M7 (a0) ((5 : Int32)) ((0 : Int32)) ((cI M7 104 (a1))) (v9)).bind fun M10 => b2 (F_X7_learn N M10 (a0) (v9)) fun M11 v12 => if v12 = 0 then (some (M11, none)) else (b2 (F_X6_advance N M11 (a0) (a0)) fun M13 v14 => some (M13, (v14))))) else (some (M5, none))) else (some (M1, none))))

set_option maxRecDepth 100000 in
set_option maxHeartbeats 4000000 in
theorem p_X7_afterAccepted {N : Nat} {M : vC} {R : (vC × Option Nat)} {a0 : Nat} {a1 : Nat} (ha0 : a0 < N) (ha1 : a1 < 202) (h : F_X7_afterAccepted N M a0 a1 = some R) {E : vE} {S0 : vS} {z x d0 : Nat} (hR : RC S0 z x N d0 M) : vi_Met E yX7_afterAccepted cX7_afterAccepted 3 (some (.object "SnapCluster$Request")) 5 0 0 [.ref (ad z x 7 (a0)), .ref (ad z x 1 (a1))] S0 (cz M) (D4 S0 z x N d0 R) := by
  refine vi_met (by decide) (Nat.le_of_ble_eq_true rfl) ?_
  intro X C
  have hF := cF.refl S0 z x N d0
  unfold F_X7_afterAccepted at h
  refine vi_aload_n C dX7_afterAccepted_0 rfl rfl ?_
  refine c_gets (f := 707) (k := 7) (i := a0) C dX7_afterAccepted_1 rfl fX7_28 rfl (by decide) rfl hR ha0 rfl ?_
  refine vi_iconst (v := 2) C dX7_afterAccepted_4 rfl (by decide) ?_
  refine vi_aload_n C dX7_afterAccepted_5 rfl rfl ?_
  refine c_geti (f := 103) (k := 1) (i := a1) C dX7_afterAccepted_6 rfl fX7_356 rfl (by decide) rfl hR ha1 ?_
  refine c_cv1 (kc := 4) (a := (ad z x 4 (a0))) C [.int ((2 : Int32)), .int ((cI M 103 (a1)))] [] dX7_afterAccepted_9 rfl ivX7_401 imX4_is rfl rfl (rcK hR ha0) hR hF h (fun _ e => p_X4_is ha0 e hR) rfl (Nat.le_of_ble_eq_true rfl) ⟨by decide, by decide⟩ ⟨Nat.le_refl _, Nat.le_refl _⟩ (fun S M1 v2 h hR hF => ?_)
  refine vi_if_eq (t' := 55) C dX7_afterAccepted_12 rfl (by decide) (fun c19 => ?_) (fun c19 => ?_)
  · replace h := iT c19 h
    refine vi_null C dX7_afterAccepted_55 rfl ?_
    exact c_ret4 (v := none) C dX7_afterAccepted_56 rfl (Or.inl ⟨_, rfl⟩) hR hF ⟨Nat.zero_le _, Nat.zero_le _⟩ h
  · replace h := iN c19 h
    refine vi_aload_n C dX7_afterAccepted_15 rfl rfl ?_
    refine c_gets (f := 707) (k := 7) (i := a0) C dX7_afterAccepted_16 rfl fX7_28 rfl (by decide) rfl hR ha0 rfl ?_
    refine c_getpL (f := 403) (k := 4) (i := a0) C dX7_afterAccepted_19 rfl fX7_103 rfl (by decide) rfl hR ha0 rfl h (fun v3 h => ?_)
    rcases oco h with ⟨rfl, hh⟩ | ⟨o4, rfl, hh⟩
    · replace h := hh
      clear hh
      refine vi_ifnull (o := none) (t' := 55) C dX7_afterAccepted_22 rfl (by decide) (fun _ => ?_) (fun e => absurd rfl e)
      refine vi_null C dX7_afterAccepted_55 rfl ?_
      exact c_ret4 (v := none) C dX7_afterAccepted_56 rfl (Or.inl ⟨_, rfl⟩) hR hF ⟨Nat.zero_le _, Nat.zero_le _⟩ h
    · replace h := hh
      clear hh
      refine vi_ifnull (o := (some (o4))) (t' := 55) C dX7_afterAccepted_22 rfl (by decide) (fun e => by cases e) (fun _ => ?_)
      refine vi_aload_n C dX7_afterAccepted_25 rfl rfl ?_
      refine c_geti (f := 104) (k := 1) (i := a1) C dX7_afterAccepted_26 rfl fX7_377 rfl (by decide) rfl hR ha1 ?_
      refine vi_aload_n C dX7_afterAccepted_29 rfl rfl ?_
      refine c_gets (f := 703) (k := 7) (i := a0) C dX7_afterAccepted_30 rfl fX7_46 rfl (by decide) rfl hR ha0 rfl ?_
      refine c_geti (f := 1007) (k := 10) (i := a0) C dX7_afterAccepted_33 rfl fX7_66 rfl (by decide) rfl hR ha0 ?_
      refine vi_iconst (v := 1) C dX7_afterAccepted_36 rfl (by decide) ?_
      refine vi_iadd C dX7_afterAccepted_37 rfl ?_
      refine vi_icmp_ne (t' := 55) C dX7_afterAccepted_38 rfl (by decide) (fun c18 => ?_) (fun c18 => ?_)
      · replace h := iN c18 h
        refine vi_null C dX7_afterAccepted_55 rfl ?_
        exact c_ret4 (v := none) C dX7_afterAccepted_56 rfl (Or.inl ⟨_, rfl⟩) hR hF ⟨Nat.zero_le _, Nat.zero_le _⟩ h
      · replace h := iT c18 h
        refine vi_aload_n C dX7_afterAccepted_41 rfl rfl ?_
        refine c_gets (f := 707) (k := 7) (i := a0) C dX7_afterAccepted_42 rfl fX7_28 rfl (by decide) rfl hR ha0 rfl ?_
        refine vi_aload_n C dX7_afterAccepted_45 rfl rfl ?_
        refine c_geti (f := 101) (k := 1) (i := a1) C dX7_afterAccepted_46 rfl fX7_380 rfl (by decide) rfl hR ha1 ?_
        refine c_cv1 (kc := 4) (a := (ad z x 4 (a0))) C [.int ((cI M1 101 (a1)))] [] dX7_afterAccepted_49 rfl ivX7_405 imX4_hasAnswer rfl rfl (rcK hR ha0) hR hF h (fun _ e => p_X4_hasAnswer ha0 e hR) rfl (Nat.le_of_ble_eq_true rfl) ⟨by decide, by decide⟩ ⟨Nat.le_refl _, Nat.le_refl _⟩ (fun S M5 v6 h hR hF => ?_)
        refine vi_if_eq (t' := 57) C dX7_afterAccepted_52 rfl (by decide) (fun c17 => ?_) (fun c17 => ?_)
        · replace h := iT c17 h
          refine vi_aload_n C dX7_afterAccepted_57 rfl rfl ?_
          refine c_gets (f := 707) (k := 7) (i := a0) C dX7_afterAccepted_58 rfl fX7_28 rfl (by decide) rfl hR ha0 rfl ?_
          refine vi_aload_n C dX7_afterAccepted_61 rfl rfl ?_
          refine c_geti (f := 101) (k := 1) (i := a1) C dX7_afterAccepted_62 rfl fX7_380 rfl (by decide) rfl hR ha1 ?_
          refine vi_aload_n C dX7_afterAccepted_65 rfl rfl ?_
          refine c_geti (f := 701) (k := 7) (i := a0) C dX7_afterAccepted_66 rfl fX7_40 rfl (by decide) rfl hR ha0 ?_
          refine c_cv1 (kc := 4) (a := (ad z x 4 (a0))) C [.int ((cI M5 101 (a1))), .int ((cI M5 701 (a0)))] [] dX7_afterAccepted_69 rfl ivX7_414 imX4_answer rfl rfl (rcK hR ha0) hR hF h (fun _ e => p_X4_answer ha0 e hR) rfl (Nat.le_of_ble_eq_true rfl) ⟨by decide, by decide⟩ ⟨Nat.le_refl _, Nat.le_refl _⟩ (fun S M7 v8 h hR hF => ?_)
          refine vi_if_ne (t' := 77) C dX7_afterAccepted_72 rfl (by decide) (fun c16 => ?_) (fun c16 => ?_)
          · replace h := iN c16 h
            refine vi_aload_n C dX7_afterAccepted_77 rfl rfl ?_
            refine c_gets (f := 707) (k := 7) (i := a0) C dX7_afterAccepted_78 rfl fX7_28 rfl (by decide) rfl hR ha0 rfl ?_
            refine c_getpL (f := 403) (k := 4) (i := a0) C dX7_afterAccepted_81 rfl fX7_103 rfl (by decide) rfl hR ha0 rfl h (fun v9 h => ?_)
            refine vi_astore_nq (o := (v9)) C dX7_afterAccepted_84 rfl (by decide) ?_
            refine vi_aload_n C dX7_afterAccepted_85 rfl rfl ?_
            refine vi_iconst (v := 5) C dX7_afterAccepted_86 rfl (by decide) ?_
            refine vi_iconst (v := 0) C dX7_afterAccepted_87 rfl (by decide) ?_
            refine vi_aload_n C dX7_afterAccepted_88 rfl rfl ?_
            refine c_geti (f := 104) (k := 1) (i := a1) C dX7_afterAccepted_89 rfl fX7_377 rfl (by decide) rfl hR ha1 ?_
            refine vi_aload_nq (o := (v9)) C dX7_afterAccepted_92 rfl rfl ?_
            refine c_cv0 (kc := 7) (a := (ad z x 7 (a0))) C [.int ((5 : Int32)), .int ((0 : Int32)), .int ((cI M7 104 (a1))), va_rf (v9)] [] dX7_afterAccepted_93 rfl ivX7_320 imX7_sendToAll rfl rfl (rcK hR ha0) hR hF h (fun _ e => p_X7_sendToAll ha0 e hR) rfl (Nat.le_of_ble_eq_true rfl) ⟨by decide, by decide⟩ ⟨Nat.le_refl _, Nat.le_refl _⟩ (fun S M10 h hR hF => ?_)
            refine vi_aload_n C dX7_afterAccepted_96 rfl rfl ?_
            refine vi_aload_nq (o := (v9)) C dX7_afterAccepted_97 rfl rfl ?_
            refine c_cv1 (kc := 7) (a := (ad z x 7 (a0))) C [va_rf (v9)] [] dX7_afterAccepted_98 rfl ivX7_422 imX7_learn rfl rfl (rcK hR ha0) hR hF h (fun _ e => p_X7_learn ha0 e hR) rfl (Nat.le_of_ble_eq_true rfl) ⟨by decide, by decide⟩ ⟨Nat.le_refl _, Nat.le_refl _⟩ (fun S M11 v12 h hR hF => ?_)
            refine vi_if_eq (t' := 118) C dX7_afterAccepted_101 rfl (by decide) (fun c15 => ?_) (fun c15 => ?_)
            · replace h := iT c15 h
              refine vi_null C dX7_afterAccepted_118 rfl ?_
              exact c_ret4 (v := none) C dX7_afterAccepted_119 rfl (Or.inl ⟨_, rfl⟩) hR hF ⟨Nat.zero_le _, Nat.zero_le _⟩ h
            · replace h := iN c15 h
              refine vi_aload_n C dX7_afterAccepted_104 rfl rfl ?_
              refine c_gets (f := 705) (k := 7) (i := a0) C dX7_afterAccepted_105 rfl fX7_12 rfl (by decide) rfl hR ha0 rfl ?_
              refine vi_aload_n C dX7_afterAccepted_108 rfl rfl ?_
              refine c_gets (f := 703) (k := 7) (i := a0) C dX7_afterAccepted_109 rfl fX7_46 rfl (by decide) rfl hR ha0 rfl ?_
              refine c_cv4 (kc := 6) (a := (ad z x 6 (a0))) C [.ref (ad z x 10 (a0))] [] dX7_afterAccepted_112 rfl ivX7_301 imX6_advance rfl rfl (rcK hR ha0) hR hF h (fun _ e => p_X6_advance ha0 ha0 e hR) rfl (Nat.le_of_ble_eq_true rfl) ⟨by decide, by decide⟩ ⟨Nat.le_refl _, Nat.le_refl _⟩ (fun S M13 v14 h hR hF => ?_)
              refine vi_goto (t' := 119) C dX7_afterAccepted_115 (by decide) ?_
              exact c_ret4 (v := (v14)) C dX7_afterAccepted_119 rfl (Or.inl ⟨_, rfl⟩) hR hF ⟨Nat.zero_le _, Nat.zero_le _⟩ h
          · replace h := iT c16 h
            refine vi_null C dX7_afterAccepted_75 rfl ?_
            exact c_ret4 (v := none) C dX7_afterAccepted_76 rfl (Or.inl ⟨_, rfl⟩) hR hF ⟨Nat.zero_le _, Nat.zero_le _⟩ h
        · replace h := iN c17 h
          refine vi_null C dX7_afterAccepted_55 rfl ?_
          exact c_ret4 (v := none) C dX7_afterAccepted_56 rfl (Or.inl ⟨_, rfl⟩) hR hF ⟨Nat.zero_le _, Nat.zero_le _⟩ h

def F_X7_afterPromise (N : Nat) (M : vC) (a0 : Nat) (a1 : Nat) : Option (vC × Option Nat) := b2 (F_X4_is N M (a0) ((1 : Int32)) ((cI M 103 (a1)))) fun M1 v2 => if v2 = 0 then (some (M1, none)) else (if (cI M1 104 (a1)) = ((cI M1 1007 (a0)) + (1 : Int32)) then (b2 (F_X4_hasAnswer N M1 (a0) ((cI M1 101 (a1)))) fun M3 v4 => if v4 = 0 then (lt1 (cP M3 105 (a1)) fun v5 => (F_X4_hear N M3 (a0) (v5) ((cI M3 106 (a1)))).bind fun M6 => b2 (F_X4_answer N M6 (a0) ((cI M6 101 (a1))) ((cI M6 701 (a0)))) fun M7 v8 => if v8 = 0 then (some (M7, none)) else ((F_X4_lead N M7 (a0)).bind fun M9 => lt1 (uI M9 716 (a0) ((0 : Int32))) fun M10 => lt1 (cP M10 404 (a0)) fun v11 => oc (v11) (b2 (F_X6_advance N M10 (a0) (a0)) fun M13 v14 => some (M13, (v14))) (fun o12 => lt1 (cP M10 404 (a0)) fun v15 => some (M10, (v15))))) else (some (M3, none))) else (some (M1, none)))

set_option maxRecDepth 100000 in
set_option maxHeartbeats 4000000 in
theorem p_X7_afterPromise {N : Nat} {M : vC} {R : (vC × Option Nat)} {a0 : Nat} {a1 : Nat} (ha0 : a0 < N) (ha1 : a1 < 202) (h : F_X7_afterPromise N M a0 a1 = some R) {E : vE} {S0 : vS} {z x d0 : Nat} (hR : RC S0 z x N d0 M) : vi_Met E yX7_afterPromise cX7_afterPromise 2 (some (.object "SnapCluster$Request")) 2 0 0 [.ref (ad z x 7 (a0)), .ref (ad z x 1 (a1))] S0 (cz M) (D4 S0 z x N d0 R) := by
  refine vi_met (by decide) (Nat.le_of_ble_eq_true rfl) ?_
  intro X C
  have hF := cF.refl S0 z x N d0
  unfold F_X7_afterPromise at h
  refine vi_aload_n C dX7_afterPromise_0 rfl rfl ?_
  refine c_gets (f := 707) (k := 7) (i := a0) C dX7_afterPromise_1 rfl fX7_28 rfl (by decide) rfl hR ha0 rfl ?_
  refine vi_iconst (v := 1) C dX7_afterPromise_4 rfl (by decide) ?_
  refine vi_aload_n C dX7_afterPromise_5 rfl rfl ?_
  refine c_geti (f := 103) (k := 1) (i := a1) C dX7_afterPromise_6 rfl fX7_356 rfl (by decide) rfl hR ha1 ?_
  refine c_cv1 (kc := 4) (a := (ad z x 4 (a0))) C [.int ((1 : Int32)), .int ((cI M 103 (a1)))] [] dX7_afterPromise_9 rfl ivX7_401 imX4_is rfl rfl (rcK hR ha0) hR hF h (fun _ e => p_X4_is ha0 e hR) rfl (Nat.le_of_ble_eq_true rfl) ⟨by decide, by decide⟩ ⟨Nat.le_refl _, Nat.le_refl _⟩ (fun S M1 v2 h hR hF => ?_)
  refine vi_if_eq (t' := 45) C dX7_afterPromise_12 rfl (by decide) (fun c19 => ?_) (fun c19 => ?_)
  · replace h := iT c19 h
    refine vi_null C dX7_afterPromise_45 rfl ?_
    exact c_ret4 (v := none) C dX7_afterPromise_46 rfl (Or.inl ⟨_, rfl⟩) hR hF ⟨Nat.zero_le _, Nat.zero_le _⟩ h
  · replace h := iN c19 h
    refine vi_aload_n C dX7_afterPromise_15 rfl rfl ?_
    refine c_geti (f := 104) (k := 1) (i := a1) C dX7_afterPromise_16 rfl fX7_377 rfl (by decide) rfl hR ha1 ?_
    refine vi_aload_n C dX7_afterPromise_19 rfl rfl ?_
    refine c_gets (f := 703) (k := 7) (i := a0) C dX7_afterPromise_20 rfl fX7_46 rfl (by decide) rfl hR ha0 rfl ?_
    refine c_geti (f := 1007) (k := 10) (i := a0) C dX7_afterPromise_23 rfl fX7_66 rfl (by decide) rfl hR ha0 ?_
    refine vi_iconst (v := 1) C dX7_afterPromise_26 rfl (by decide) ?_
    refine vi_iadd C dX7_afterPromise_27 rfl ?_
    refine vi_icmp_ne (t' := 45) C dX7_afterPromise_28 rfl (by decide) (fun c18 => ?_) (fun c18 => ?_)
    · replace h := iN c18 h
      refine vi_null C dX7_afterPromise_45 rfl ?_
      exact c_ret4 (v := none) C dX7_afterPromise_46 rfl (Or.inl ⟨_, rfl⟩) hR hF ⟨Nat.zero_le _, Nat.zero_le _⟩ h
    · replace h := iT c18 h
      refine vi_aload_n C dX7_afterPromise_31 rfl rfl ?_
      refine c_gets (f := 707) (k := 7) (i := a0) C dX7_afterPromise_32 rfl fX7_28 rfl (by decide) rfl hR ha0 rfl ?_
      refine vi_aload_n C dX7_afterPromise_35 rfl rfl ?_
      refine c_geti (f := 101) (k := 1) (i := a1) C dX7_afterPromise_36 rfl fX7_380 rfl (by decide) rfl hR ha1 ?_
      refine c_cv1 (kc := 4) (a := (ad z x 4 (a0))) C [.int ((cI M1 101 (a1)))] [] dX7_afterPromise_39 rfl ivX7_405 imX4_hasAnswer rfl rfl (rcK hR ha0) hR hF h (fun _ e => p_X4_hasAnswer ha0 e hR) rfl (Nat.le_of_ble_eq_true rfl) ⟨by decide, by decide⟩ ⟨Nat.le_refl _, Nat.le_refl _⟩ (fun S M3 v4 h hR hF => ?_)
      refine vi_if_eq (t' := 47) C dX7_afterPromise_42 rfl (by decide) (fun c17 => ?_) (fun c17 => ?_)
      · replace h := iT c17 h
        refine vi_aload_n C dX7_afterPromise_47 rfl rfl ?_
        refine c_gets (f := 707) (k := 7) (i := a0) C dX7_afterPromise_48 rfl fX7_28 rfl (by decide) rfl hR ha0 rfl ?_
        refine vi_aload_n C dX7_afterPromise_51 rfl rfl ?_
        refine c_getpL (f := 105) (k := 1) (i := a1) C dX7_afterPromise_52 rfl fX7_408 rfl (by decide) rfl hR ha1 rfl h (fun v5 h => ?_)
        refine vi_aload_n C dX7_afterPromise_55 rfl rfl ?_
        refine c_geti (f := 106) (k := 1) (i := a1) C dX7_afterPromise_56 rfl fX7_411 rfl (by decide) rfl hR ha1 ?_
        refine c_cv0 (kc := 4) (a := (ad z x 4 (a0))) C [va_rf (v5), .int ((cI M3 106 (a1)))] [] dX7_afterPromise_59 rfl ivX7_343 imX4_hear rfl rfl (rcK hR ha0) hR hF h (fun _ e => p_X4_hear ha0 e hR) rfl (Nat.le_of_ble_eq_true rfl) ⟨by decide, by decide⟩ ⟨Nat.le_refl _, Nat.le_refl _⟩ (fun S M6 h hR hF => ?_)
        refine vi_aload_n C dX7_afterPromise_62 rfl rfl ?_
        refine c_gets (f := 707) (k := 7) (i := a0) C dX7_afterPromise_63 rfl fX7_28 rfl (by decide) rfl hR ha0 rfl ?_
        refine vi_aload_n C dX7_afterPromise_66 rfl rfl ?_
        refine c_geti (f := 101) (k := 1) (i := a1) C dX7_afterPromise_67 rfl fX7_380 rfl (by decide) rfl hR ha1 ?_
        refine vi_aload_n C dX7_afterPromise_70 rfl rfl ?_
        refine c_geti (f := 701) (k := 7) (i := a0) C dX7_afterPromise_71 rfl fX7_40 rfl (by decide) rfl hR ha0 ?_
        refine c_cv1 (kc := 4) (a := (ad z x 4 (a0))) C [.int ((cI M6 101 (a1))), .int ((cI M6 701 (a0)))] [] dX7_afterPromise_74 rfl ivX7_414 imX4_answer rfl rfl (rcK hR ha0) hR hF h (fun _ e => p_X4_answer ha0 e hR) rfl (Nat.le_of_ble_eq_true rfl) ⟨by decide, by decide⟩ ⟨Nat.le_refl _, Nat.le_refl _⟩ (fun S M7 v8 h hR hF => ?_)
        refine vi_if_ne (t' := 82) C dX7_afterPromise_77 rfl (by decide) (fun c16 => ?_) (fun c16 => ?_)
        · replace h := iN c16 h
          refine vi_aload_n C dX7_afterPromise_82 rfl rfl ?_
          refine c_gets (f := 707) (k := 7) (i := a0) C dX7_afterPromise_83 rfl fX7_28 rfl (by decide) rfl hR ha0 rfl ?_
          refine c_cv0 (kc := 4) (a := (ad z x 4 (a0))) C [] [] dX7_afterPromise_86 rfl ivX7_417 imX4_lead rfl rfl (rcK hR ha0) hR hF h (fun _ e => p_X4_lead ha0 e hR) rfl (Nat.le_of_ble_eq_true rfl) ⟨by decide, by decide⟩ ⟨Nat.le_refl _, Nat.le_refl _⟩ (fun S M9 h hR hF => ?_)
          refine vi_aload_n C dX7_afterPromise_89 rfl rfl ?_
          refine vi_iconst (v := 0) C dX7_afterPromise_90 rfl (by decide) ?_
          refine c_puti (f := 716) (k := 7) (i := a0) C dX7_afterPromise_91 rfl (fpX7_111 _) rfl (by decide) rfl hR hF ha0 h (fun S M10 h hR hF => ?_)
          refine vi_aload_n C dX7_afterPromise_94 rfl rfl ?_
          refine c_gets (f := 707) (k := 7) (i := a0) C dX7_afterPromise_95 rfl fX7_28 rfl (by decide) rfl hR ha0 rfl ?_
          refine c_getpL (f := 404) (k := 4) (i := a0) C dX7_afterPromise_98 rfl fX7_420 rfl (by decide) rfl hR ha0 rfl h (fun v11 h => ?_)
          rcases oco h with ⟨rfl, hh⟩ | ⟨o12, rfl, hh⟩
          · replace h := hh
            clear hh
            refine vi_ifnull (o := none) (t' := 114) C dX7_afterPromise_101 rfl (by decide) (fun _ => ?_) (fun e => absurd rfl e)
            refine vi_aload_n C dX7_afterPromise_114 rfl rfl ?_
            refine c_gets (f := 705) (k := 7) (i := a0) C dX7_afterPromise_115 rfl fX7_12 rfl (by decide) rfl hR ha0 rfl ?_
            refine vi_aload_n C dX7_afterPromise_118 rfl rfl ?_
            refine c_gets (f := 703) (k := 7) (i := a0) C dX7_afterPromise_119 rfl fX7_46 rfl (by decide) rfl hR ha0 rfl ?_
            refine c_cv4 (kc := 6) (a := (ad z x 6 (a0))) C [.ref (ad z x 10 (a0))] [] dX7_afterPromise_122 rfl ivX7_301 imX6_advance rfl rfl (rcK hR ha0) hR hF h (fun _ e => p_X6_advance ha0 ha0 e hR) rfl (Nat.le_of_ble_eq_true rfl) ⟨by decide, by decide⟩ ⟨Nat.le_refl _, Nat.le_refl _⟩ (fun S M13 v14 h hR hF => ?_)
            exact c_ret4 (v := (v14)) C dX7_afterPromise_125 rfl (Or.inl ⟨_, rfl⟩) hR hF ⟨Nat.zero_le _, Nat.zero_le _⟩ h
          · replace h := hh
            clear hh
            refine vi_ifnull (o := (some (o12))) (t' := 114) C dX7_afterPromise_101 rfl (by decide) (fun e => by cases e) (fun _ => ?_)
            refine vi_aload_n C dX7_afterPromise_104 rfl rfl ?_
            refine c_gets (f := 707) (k := 7) (i := a0) C dX7_afterPromise_105 rfl fX7_28 rfl (by decide) rfl hR ha0 rfl ?_
            refine c_getpL (f := 404) (k := 4) (i := a0) C dX7_afterPromise_108 rfl fX7_420 rfl (by decide) rfl hR ha0 rfl h (fun v15 h => ?_)
            refine vi_goto (t' := 125) C dX7_afterPromise_111 (by decide) ?_
            exact c_ret4 (v := (v15)) C dX7_afterPromise_125 rfl (Or.inl ⟨_, rfl⟩) hR hF ⟨Nat.zero_le _, Nat.zero_le _⟩ h
        · replace h := iT c16 h
          refine vi_null C dX7_afterPromise_80 rfl ?_
          exact c_ret4 (v := none) C dX7_afterPromise_81 rfl (Or.inl ⟨_, rfl⟩) hR hF ⟨Nat.zero_le _, Nat.zero_le _⟩ h
      · replace h := iN c17 h
        refine vi_null C dX7_afterPromise_45 rfl ?_
        exact c_ret4 (v := none) C dX7_afterPromise_46 rfl (Or.inl ⟨_, rfl⟩) hR hF ⟨Nat.zero_le _, Nat.zero_le _⟩ h

def F_X7_onAccept (N : Nat) (M : vC) (a0 : Nat) (a1 : Nat) : Option vC := if (cI M 1007 (a0)) < (cI M 104 (a1)) then (if (cI M 104 (a1)) ≤ ((cI M 1007 (a0)) + (1 : Int32)) then (if (cI M 712 (a0)) ≤ (cI M 103 (a1)) then (lt1 (cP M 105 (a1)) fun v1 => oc (v1) (some M) (fun o2 => lt1 (cP M 105 (a1)) fun v3 => b2 (F_X7_accept N M (a0) (v3) ((cI M 103 (a1)))) fun M4 v5 => if v5 = 0 then (some M4) else (b2 (F_X4_is N M4 (a0) ((2 : Int32)) ((cI M4 103 (a1)))) fun M6 v7 => jn (fun (M11 : vC) => lt1 (uI M11 716 (a0) ((0 : Int32))) fun M12 => b2 (F_X7_sendTo N M12 (a0) ((cI M12 101 (a1))) ((4 : Int32)) ((cI M12 103 (a1))) ((cI M12 104 (a1)))) fun M13 v14 => some M13) (fun k117_8 => if v7 = 0 then ((F_X4_follow N M6 (a0)).bind fun M9 => (k117_8 (M9))) else ((k117_8 (M6))))))) else ((F_X7_deny N M (a0) ((cI M 101 (a1)))).bind fun M16 => some M16)) else ((F_X7_askFor N M (a0) ((cI M 101 (a1)))).bind fun M18 => some M18)) else ((F_X7_help N M (a0) ((cI M 101 (a1))) ((cI M 104 (a1)))).bind fun M20 => some M20)

set_option maxRecDepth 100000 in
set_option maxHeartbeats 4000000 in
theorem p_X7_onAccept {N : Nat} {M : vC} {R : vC} {a0 : Nat} {a1 : Nat} (ha0 : a0 < N) (ha1 : a1 < 202) (h : F_X7_onAccept N M a0 a1 = some R) {E : vE} {S0 : vS} {z x d0 : Nat} (hR : RC S0 z x N d0 M) : vi_Met E yX7_onAccept cX7_onAccept 2 none 5 1 256 [.ref (ad z x 7 (a0)), .ref (ad z x 1 (a1))] S0 (cz M) (D0 S0 z x N d0 R) := by
  refine vi_met (by decide) (Nat.le_of_ble_eq_true rfl) ?_
  intro X C
  have hF := cF.refl S0 z x N d0
  unfold F_X7_onAccept at h
  refine vi_aload_n C dX7_onAccept_0 rfl rfl ?_
  refine c_geti (f := 104) (k := 1) (i := a1) C dX7_onAccept_1 rfl fX7_377 rfl (by decide) rfl hR ha1 ?_
  refine vi_aload_n C dX7_onAccept_4 rfl rfl ?_
  refine c_gets (f := 703) (k := 7) (i := a0) C dX7_onAccept_5 rfl fX7_46 rfl (by decide) rfl hR ha0 rfl ?_
  refine c_geti (f := 1007) (k := 10) (i := a0) C dX7_onAccept_8 rfl fX7_66 rfl (by decide) rfl hR ha0 ?_
  refine vi_icmp_gt (t' := 27) C dX7_onAccept_11 rfl (by decide) (fun c21 => ?_) (fun c21 => ?_)
  · replace h := iT c21 h
    refine vi_aload_n C dX7_onAccept_27 rfl rfl ?_
    refine c_geti (f := 104) (k := 1) (i := a1) C dX7_onAccept_28 rfl fX7_377 rfl (by decide) rfl hR ha1 ?_
    refine vi_aload_n C dX7_onAccept_31 rfl rfl ?_
    refine c_gets (f := 703) (k := 7) (i := a0) C dX7_onAccept_32 rfl fX7_46 rfl (by decide) rfl hR ha0 rfl ?_
    refine c_geti (f := 1007) (k := 10) (i := a0) C dX7_onAccept_35 rfl fX7_66 rfl (by decide) rfl hR ha0 ?_
    refine vi_iconst (v := 1) C dX7_onAccept_38 rfl (by decide) ?_
    refine vi_iadd C dX7_onAccept_39 rfl ?_
    refine vi_icmp_le (t' := 52) C dX7_onAccept_40 rfl (by decide) (fun c19 => ?_) (fun c19 => ?_)
    · replace h := iT c19 h
      refine vi_aload_n C dX7_onAccept_52 rfl rfl ?_
      refine c_geti (f := 103) (k := 1) (i := a1) C dX7_onAccept_53 rfl fX7_356 rfl (by decide) rfl hR ha1 ?_
      refine vi_aload_n C dX7_onAccept_56 rfl rfl ?_
      refine c_geti (f := 712) (k := 7) (i := a0) C dX7_onAccept_57 rfl fX7_78 rfl (by decide) rfl hR ha0 ?_
      refine vi_icmp_ge (t' := 72) C dX7_onAccept_60 rfl (by decide) (fun c17 => ?_) (fun c17 => ?_)
      · replace h := iT c17 h
        refine vi_aload_n C dX7_onAccept_72 rfl rfl ?_
        refine c_getpL (f := 105) (k := 1) (i := a1) C dX7_onAccept_73 rfl fX7_408 rfl (by decide) rfl hR ha1 rfl h (fun v1 h => ?_)
        rcases oco h with ⟨rfl, hh⟩ | ⟨o2, rfl, hh⟩
        · replace h := hh
          clear hh
          refine vi_ifnull (o := none) (t' := 94) C dX7_onAccept_76 rfl (by decide) (fun _ => ?_) (fun e => absurd rfl e)
          exact c_ret0 C dX7_onAccept_94 rfl hR hF ⟨Nat.zero_le _, Nat.zero_le _⟩ h
        · replace h := hh
          clear hh
          refine vi_ifnull (o := (some (o2))) (t' := 94) C dX7_onAccept_76 rfl (by decide) (fun e => by cases e) (fun _ => ?_)
          refine vi_aload_n C dX7_onAccept_79 rfl rfl ?_
          refine vi_aload_n C dX7_onAccept_80 rfl rfl ?_
          refine c_getpL (f := 105) (k := 1) (i := a1) C dX7_onAccept_81 rfl fX7_408 rfl (by decide) rfl hR ha1 rfl h (fun v3 h => ?_)
          refine vi_aload_n C dX7_onAccept_84 rfl rfl ?_
          refine c_geti (f := 103) (k := 1) (i := a1) C dX7_onAccept_85 rfl fX7_356 rfl (by decide) rfl hR ha1 ?_
          refine c_cv1 (kc := 7) (a := (ad z x 7 (a0))) C [va_rf (v3), .int ((cI M 103 (a1)))] [] dX7_onAccept_88 rfl ivX7_350 imX7_accept rfl rfl (rcK hR ha0) hR hF h (fun _ e => p_X7_accept ha0 e hR) rfl (Nat.le_of_ble_eq_true rfl) ⟨by decide, by decide⟩ ⟨by omega, by omega⟩ (fun S M4 v5 h hR hF => ?_)
          refine vi_if_ne (t' := 95) C dX7_onAccept_91 rfl (by decide) (fun c15 => ?_) (fun c15 => ?_)
          · replace h := iN c15 h
            refine vi_aload_n C dX7_onAccept_95 rfl rfl ?_
            refine c_gets (f := 707) (k := 7) (i := a0) C dX7_onAccept_96 rfl fX7_28 rfl (by decide) rfl hR ha0 rfl ?_
            refine vi_iconst (v := 2) C dX7_onAccept_99 rfl (by decide) ?_
            refine vi_aload_n C dX7_onAccept_100 rfl rfl ?_
            refine c_geti (f := 103) (k := 1) (i := a1) C dX7_onAccept_101 rfl fX7_356 rfl (by decide) rfl hR ha1 ?_
            refine c_cv1 (kc := 4) (a := (ad z x 4 (a0))) C [.int ((2 : Int32)), .int ((cI M4 103 (a1)))] [] dX7_onAccept_104 rfl ivX7_401 imX4_is rfl rfl (rcK hR ha0) hR hF h (fun _ e => p_X4_is ha0 e hR) rfl (Nat.le_of_ble_eq_true rfl) ⟨by decide, by decide⟩ ⟨by omega, by omega⟩ (fun S M6 v7 h hR hF => ?_)
            refine r_jn h (fun k => ∀ (M11 : vC), k M11 = some R → ∀ S, RC S z x N d0 M11 → cF S0 S z x N d0 → vi_W E X 2 (vi_Z E X (D0 S0 z x N d0 R) 1 256) 117 [(0, .ref (ad z x 7 (a0))), (1, .ref (ad z x 1 (a1)))] [] S (cz M11) 0 0) ?_ ?_
            · intro M11 h S hR hF
              refine vi_aload_n C dX7_onAccept_117 rfl rfl ?_
              refine vi_iconst (v := 0) C dX7_onAccept_118 rfl (by decide) ?_
              refine c_puti (f := 716) (k := 7) (i := a0) C dX7_onAccept_119 rfl (fpX7_111 _) rfl (by decide) rfl hR hF ha0 h (fun S M12 h hR hF => ?_)
              refine vi_aload_n C dX7_onAccept_122 rfl rfl ?_
              refine vi_aload_n C dX7_onAccept_123 rfl rfl ?_
              refine c_geti (f := 101) (k := 1) (i := a1) C dX7_onAccept_124 rfl fX7_380 rfl (by decide) rfl hR ha1 ?_
              refine vi_iconst (v := 4) C dX7_onAccept_127 rfl (by decide) ?_
              refine vi_aload_n C dX7_onAccept_128 rfl rfl ?_
              refine c_geti (f := 103) (k := 1) (i := a1) C dX7_onAccept_129 rfl fX7_356 rfl (by decide) rfl hR ha1 ?_
              refine vi_aload_n C dX7_onAccept_132 rfl rfl ?_
              refine c_geti (f := 104) (k := 1) (i := a1) C dX7_onAccept_133 rfl fX7_377 rfl (by decide) rfl hR ha1 ?_
              refine c_cv3 (kc := 7) (a := (ad z x 7 (a0))) (kt := 1) C [.int ((cI M12 101 (a1))), .int ((4 : Int32)), .int ((cI M12 103 (a1))), .int ((cI M12 104 (a1)))] [] dX7_onAccept_136 rfl ivX7_277 imX7_sendTo rfl rfl (rcK hR ha0) hR hF h (fun _ e => p_X7_sendTo ha0 e hR) rfl (Nat.le_of_ble_eq_true rfl) ⟨by decide, by decide⟩ ⟨by omega, by omega⟩ (fun S M13 v14 h hR hF => ?_)
              refine vi_pop C dX7_onAccept_139 rfl (vi_rfc _) ?_
              exact c_ret0 C dX7_onAccept_140 rfl hR hF ⟨Nat.zero_le _, Nat.zero_le _⟩ h
            · intro k117_8 h117_8 h
              refine vi_if_ne (t' := 117) C dX7_onAccept_107 rfl (by decide) (fun c10 => ?_) (fun c10 => ?_)
              · replace h := iN c10 h
                exact (vi_cut [(0, .ref (ad z x 7 (a0))), (1, .ref (ad z x 1 (a1)))] ⟨rfl, rfl, trivial⟩ (h117_8 _ h _ hR hF))
              · replace h := iT c10 h
                refine vi_aload_n C dX7_onAccept_110 rfl rfl ?_
                refine c_gets (f := 707) (k := 7) (i := a0) C dX7_onAccept_111 rfl fX7_28 rfl (by decide) rfl hR ha0 rfl ?_
                refine c_cv0 (kc := 4) (a := (ad z x 4 (a0))) C [] [] dX7_onAccept_114 rfl ivX7_159 imX4_follow rfl rfl (rcK hR ha0) hR hF h (fun _ e => p_X4_follow ha0 e hR) rfl (Nat.le_of_ble_eq_true rfl) ⟨by decide, by decide⟩ ⟨by omega, by omega⟩ (fun S M9 h hR hF => ?_)
                exact (vi_cut [(0, .ref (ad z x 7 (a0))), (1, .ref (ad z x 1 (a1)))] ⟨rfl, rfl, trivial⟩ (h117_8 _ h _ hR hF))
          · replace h := iT c15 h
            exact c_ret0 C dX7_onAccept_94 rfl hR hF ⟨Nat.zero_le _, Nat.zero_le _⟩ h
      · replace h := iN c17 h
        refine vi_aload_n C dX7_onAccept_63 rfl rfl ?_
        refine vi_aload_n C dX7_onAccept_64 rfl rfl ?_
        refine c_geti (f := 101) (k := 1) (i := a1) C dX7_onAccept_65 rfl fX7_380 rfl (by decide) rfl hR ha1 ?_
        refine c_cv0 (kc := 7) (a := (ad z x 7 (a0))) C [.int ((cI M 101 (a1)))] [] dX7_onAccept_68 rfl ivX7_398 imX7_deny rfl rfl (rcK hR ha0) hR hF h (fun _ e => p_X7_deny ha0 e hR) rfl (Nat.le_of_ble_eq_true rfl) ⟨by decide, by decide⟩ ⟨by omega, by omega⟩ (fun S M16 h hR hF => ?_)
        exact c_ret0 C dX7_onAccept_71 rfl hR hF ⟨Nat.zero_le _, Nat.zero_le _⟩ h
    · replace h := iN c19 h
      refine vi_aload_n C dX7_onAccept_43 rfl rfl ?_
      refine vi_aload_n C dX7_onAccept_44 rfl rfl ?_
      refine c_geti (f := 101) (k := 1) (i := a1) C dX7_onAccept_45 rfl fX7_380 rfl (by decide) rfl hR ha1 ?_
      refine c_cv0 (kc := 7) (a := (ad z x 7 (a0))) C [.int ((cI M 101 (a1)))] [] dX7_onAccept_48 rfl ivX7_327 imX7_askFor rfl rfl (rcK hR ha0) hR hF h (fun _ e => p_X7_askFor ha0 e hR) rfl (Nat.le_of_ble_eq_true rfl) ⟨by decide, by decide⟩ ⟨by omega, by omega⟩ (fun S M18 h hR hF => ?_)
      exact c_ret0 C dX7_onAccept_51 rfl hR hF ⟨Nat.zero_le _, Nat.zero_le _⟩ h
  · replace h := iN c21 h
    refine vi_aload_n C dX7_onAccept_14 rfl rfl ?_
    refine vi_aload_n C dX7_onAccept_15 rfl rfl ?_
    refine c_geti (f := 101) (k := 1) (i := a1) C dX7_onAccept_16 rfl fX7_380 rfl (by decide) rfl hR ha1 ?_
    refine vi_aload_n C dX7_onAccept_19 rfl rfl ?_
    refine c_geti (f := 104) (k := 1) (i := a1) C dX7_onAccept_20 rfl fX7_377 rfl (by decide) rfl hR ha1 ?_
    refine c_cv0 (kc := 7) (a := (ad z x 7 (a0))) C [.int ((cI M 101 (a1))), .int ((cI M 104 (a1)))] [] dX7_onAccept_23 rfl ivX7_383 imX7_help rfl rfl (rcK hR ha0) hR hF h (fun _ e => p_X7_help ha0 e hR) rfl (Nat.le_of_ble_eq_true rfl) ⟨by decide, by decide⟩ ⟨by omega, by omega⟩ (fun S M20 h hR hF => ?_)
    exact c_ret0 C dX7_onAccept_26 rfl hR hF ⟨by omega, by omega⟩ h

def F_X7_onBeat (N : Nat) (M : vC) (a0 : Nat) (a1 : Nat) : Option vC := if (cI M 712 (a0)) ≤ (cI M 103 (a1)) then (lt1 (uI M 716 (a0) ((0 : Int32))) fun M1 => (F_X4_followAbove N M1 (a0) ((cI M1 103 (a1)))).bind fun M2 => if (cI M2 104 (a1)) ≤ (cI M2 1007 (a0)) then (if (cI M2 1007 (a0)) ≤ (cI M2 104 (a1)) then (some M2) else ((F_X7_help N M2 (a0) ((cI M2 101 (a1))) (((cI M2 104 (a1)) + (1 : Int32)))).bind fun M3 => some M3)) else ((F_X7_askFor N M2 (a0) ((cI M2 101 (a1)))).bind fun M5 => some M5)) else ((F_X7_deny N M (a0) ((cI M 101 (a1)))).bind fun M7 => some M7)

set_option maxRecDepth 100000 in
set_option maxHeartbeats 4000000 in
theorem p_X7_onBeat {N : Nat} {M : vC} {R : vC} {a0 : Nat} {a1 : Nat} (ha0 : a0 < N) (ha1 : a1 < 202) (h : F_X7_onBeat N M a0 a1 = some R) {E : vE} {S0 : vS} {z x d0 : Nat} (hR : RC S0 z x N d0 M) : vi_Met E yX7_onBeat cX7_onBeat 2 none 4 1 256 [.ref (ad z x 7 (a0)), .ref (ad z x 1 (a1))] S0 (cz M) (D0 S0 z x N d0 R) := by
  refine vi_met (by decide) (Nat.le_of_ble_eq_true rfl) ?_
  intro X C
  have hF := cF.refl S0 z x N d0
  unfold F_X7_onBeat at h
  refine vi_aload_n C dX7_onBeat_0 rfl rfl ?_
  refine c_geti (f := 103) (k := 1) (i := a1) C dX7_onBeat_1 rfl fX7_356 rfl (by decide) rfl hR ha1 ?_
  refine vi_aload_n C dX7_onBeat_4 rfl rfl ?_
  refine c_geti (f := 712) (k := 7) (i := a0) C dX7_onBeat_5 rfl fX7_78 rfl (by decide) rfl hR ha0 ?_
  refine vi_icmp_ge (t' := 20) C dX7_onBeat_8 rfl (by decide) (fun c8 => ?_) (fun c8 => ?_)
  · replace h := iT c8 h
    refine vi_aload_n C dX7_onBeat_20 rfl rfl ?_
    refine vi_iconst (v := 0) C dX7_onBeat_21 rfl (by decide) ?_
    refine c_puti (f := 716) (k := 7) (i := a0) C dX7_onBeat_22 rfl (fpX7_111 _) rfl (by decide) rfl hR hF ha0 h (fun S M1 h hR hF => ?_)
    refine vi_aload_n C dX7_onBeat_25 rfl rfl ?_
    refine c_gets (f := 707) (k := 7) (i := a0) C dX7_onBeat_26 rfl fX7_28 rfl (by decide) rfl hR ha0 rfl ?_
    refine vi_aload_n C dX7_onBeat_29 rfl rfl ?_
    refine c_geti (f := 103) (k := 1) (i := a1) C dX7_onBeat_30 rfl fX7_356 rfl (by decide) rfl hR ha1 ?_
    refine c_cv0 (kc := 4) (a := (ad z x 4 (a0))) C [.int ((cI M1 103 (a1)))] [] dX7_onBeat_33 rfl ivX7_386 imX4_followAbove rfl rfl (rcK hR ha0) hR hF h (fun _ e => p_X4_followAbove ha0 e hR) rfl (Nat.le_of_ble_eq_true rfl) ⟨by decide, by decide⟩ ⟨by omega, by omega⟩ (fun S M2 h hR hF => ?_)
    refine vi_aload_n C dX7_onBeat_36 rfl rfl ?_
    refine c_geti (f := 104) (k := 1) (i := a1) C dX7_onBeat_37 rfl fX7_377 rfl (by decide) rfl hR ha1 ?_
    refine vi_aload_n C dX7_onBeat_40 rfl rfl ?_
    refine c_gets (f := 703) (k := 7) (i := a0) C dX7_onBeat_41 rfl fX7_46 rfl (by decide) rfl hR ha0 rfl ?_
    refine c_geti (f := 1007) (k := 10) (i := a0) C dX7_onBeat_44 rfl fX7_66 rfl (by decide) rfl hR ha0 ?_
    refine vi_icmp_le (t' := 61) C dX7_onBeat_47 rfl (by decide) (fun c6 => ?_) (fun c6 => ?_)
    · replace h := iT c6 h
      refine vi_aload_n C dX7_onBeat_61 rfl rfl ?_
      refine c_geti (f := 104) (k := 1) (i := a1) C dX7_onBeat_62 rfl fX7_377 rfl (by decide) rfl hR ha1 ?_
      refine vi_aload_n C dX7_onBeat_65 rfl rfl ?_
      refine c_gets (f := 703) (k := 7) (i := a0) C dX7_onBeat_66 rfl fX7_46 rfl (by decide) rfl hR ha0 rfl ?_
      refine c_geti (f := 1007) (k := 10) (i := a0) C dX7_onBeat_69 rfl fX7_66 rfl (by decide) rfl hR ha0 ?_
      refine vi_icmp_ge (t' := 89) C dX7_onBeat_72 rfl (by decide) (fun c4 => ?_) (fun c4 => ?_)
      · replace h := iT c4 h
        exact c_ret0 C dX7_onBeat_89 rfl hR hF ⟨Nat.zero_le _, Nat.zero_le _⟩ h
      · replace h := iN c4 h
        refine vi_aload_n C dX7_onBeat_75 rfl rfl ?_
        refine vi_aload_n C dX7_onBeat_76 rfl rfl ?_
        refine c_geti (f := 101) (k := 1) (i := a1) C dX7_onBeat_77 rfl fX7_380 rfl (by decide) rfl hR ha1 ?_
        refine vi_aload_n C dX7_onBeat_80 rfl rfl ?_
        refine c_geti (f := 104) (k := 1) (i := a1) C dX7_onBeat_81 rfl fX7_377 rfl (by decide) rfl hR ha1 ?_
        refine vi_iconst (v := 1) C dX7_onBeat_84 rfl (by decide) ?_
        refine vi_iadd C dX7_onBeat_85 rfl ?_
        refine c_cv0 (kc := 7) (a := (ad z x 7 (a0))) C [.int ((cI M2 101 (a1))), .int (((cI M2 104 (a1)) + (1 : Int32)))] [] dX7_onBeat_86 rfl ivX7_383 imX7_help rfl rfl (rcK hR ha0) hR hF h (fun _ e => p_X7_help ha0 e hR) rfl (Nat.le_of_ble_eq_true rfl) ⟨by decide, by decide⟩ ⟨by omega, by omega⟩ (fun S M3 h hR hF => ?_)
        exact c_ret0 C dX7_onBeat_89 rfl hR hF ⟨by omega, by omega⟩ h
    · replace h := iN c6 h
      refine vi_aload_n C dX7_onBeat_50 rfl rfl ?_
      refine vi_aload_n C dX7_onBeat_51 rfl rfl ?_
      refine c_geti (f := 101) (k := 1) (i := a1) C dX7_onBeat_52 rfl fX7_380 rfl (by decide) rfl hR ha1 ?_
      refine c_cv0 (kc := 7) (a := (ad z x 7 (a0))) C [.int ((cI M2 101 (a1)))] [] dX7_onBeat_55 rfl ivX7_327 imX7_askFor rfl rfl (rcK hR ha0) hR hF h (fun _ e => p_X7_askFor ha0 e hR) rfl (Nat.le_of_ble_eq_true rfl) ⟨by decide, by decide⟩ ⟨by omega, by omega⟩ (fun S M5 h hR hF => ?_)
      refine vi_goto (t' := 89) C dX7_onBeat_58 (by decide) ?_
      exact c_ret0 C dX7_onBeat_89 rfl hR hF ⟨Nat.zero_le _, Nat.zero_le _⟩ h
  · replace h := iN c8 h
    refine vi_aload_n C dX7_onBeat_11 rfl rfl ?_
    refine vi_aload_n C dX7_onBeat_12 rfl rfl ?_
    refine c_geti (f := 101) (k := 1) (i := a1) C dX7_onBeat_13 rfl fX7_380 rfl (by decide) rfl hR ha1 ?_
    refine c_cv0 (kc := 7) (a := (ad z x 7 (a0))) C [.int ((cI M 101 (a1)))] [] dX7_onBeat_16 rfl ivX7_398 imX7_deny rfl rfl (rcK hR ha0) hR hF h (fun _ e => p_X7_deny ha0 e hR) rfl (Nat.le_of_ble_eq_true rfl) ⟨by decide, by decide⟩ ⟨by omega, by omega⟩ (fun S M7 h hR hF => ?_)
    exact c_ret0 C dX7_onBeat_19 rfl hR hF ⟨Nat.zero_le _, Nat.zero_le _⟩ h

def F_X7_onChosen (N : Nat) (M : vC) (a0 : Nat) (a1 : Nat) : Option vC := if (cI M 104 (a1)) ≤ ((cI M 1007 (a0)) + (1 : Int32)) then (if (cI M 104 (a1)) = ((cI M 1007 (a0)) + (1 : Int32)) then (lt1 (cP M 105 (a1)) fun v1 => oc (v1) (some M) (fun o2 => lt1 (cP M 105 (a1)) fun v3 => b2 (F_X7_learn N M (a0) (v3)) fun M4 v5 => some M4)) else (some M)) else ((F_X7_askFor N M (a0) ((cI M 101 (a1)))).bind fun M7 => some M7)

set_option maxRecDepth 100000 in
set_option maxHeartbeats 4000000 in
theorem p_X7_onChosen {N : Nat} {M : vC} {R : vC} {a0 : Nat} {a1 : Nat} (ha0 : a0 < N) (ha1 : a1 < 202) (h : F_X7_onChosen N M a0 a1 = some R) {E : vE} {S0 : vS} {z x d0 : Nat} (hR : RC S0 z x N d0 M) : vi_Met E yX7_onChosen cX7_onChosen 2 none 5 0 0 [.ref (ad z x 7 (a0)), .ref (ad z x 1 (a1))] S0 (cz M) (D0 S0 z x N d0 R) := by
  refine vi_met (by decide) (Nat.le_of_ble_eq_true rfl) ?_
  intro X C
  have hF := cF.refl S0 z x N d0
  unfold F_X7_onChosen at h
  refine vi_aload_n C dX7_onChosen_0 rfl rfl ?_
  refine c_geti (f := 104) (k := 1) (i := a1) C dX7_onChosen_1 rfl fX7_377 rfl (by decide) rfl hR ha1 ?_
  refine vi_aload_n C dX7_onChosen_4 rfl rfl ?_
  refine c_gets (f := 703) (k := 7) (i := a0) C dX7_onChosen_5 rfl fX7_46 rfl (by decide) rfl hR ha0 rfl ?_
  refine c_geti (f := 1007) (k := 10) (i := a0) C dX7_onChosen_8 rfl fX7_66 rfl (by decide) rfl hR ha0 ?_
  refine vi_iconst (v := 1) C dX7_onChosen_11 rfl (by decide) ?_
  refine vi_iadd C dX7_onChosen_12 rfl ?_
  refine vi_icmp_le (t' := 27) C dX7_onChosen_13 rfl (by decide) (fun c8 => ?_) (fun c8 => ?_)
  · replace h := iT c8 h
    refine vi_aload_n C dX7_onChosen_27 rfl rfl ?_
    refine c_geti (f := 104) (k := 1) (i := a1) C dX7_onChosen_28 rfl fX7_377 rfl (by decide) rfl hR ha1 ?_
    refine vi_aload_n C dX7_onChosen_31 rfl rfl ?_
    refine c_gets (f := 703) (k := 7) (i := a0) C dX7_onChosen_32 rfl fX7_46 rfl (by decide) rfl hR ha0 rfl ?_
    refine c_geti (f := 1007) (k := 10) (i := a0) C dX7_onChosen_35 rfl fX7_66 rfl (by decide) rfl hR ha0 ?_
    refine vi_iconst (v := 1) C dX7_onChosen_38 rfl (by decide) ?_
    refine vi_iadd C dX7_onChosen_39 rfl ?_
    refine vi_icmp_ne (t' := 59) C dX7_onChosen_40 rfl (by decide) (fun c6 => ?_) (fun c6 => ?_)
    · replace h := iN c6 h
      exact c_ret0 C dX7_onChosen_59 rfl hR hF ⟨Nat.zero_le _, Nat.zero_le _⟩ h
    · replace h := iT c6 h
      refine vi_aload_n C dX7_onChosen_43 rfl rfl ?_
      refine c_getpL (f := 105) (k := 1) (i := a1) C dX7_onChosen_44 rfl fX7_408 rfl (by decide) rfl hR ha1 rfl h (fun v1 h => ?_)
      rcases oco h with ⟨rfl, hh⟩ | ⟨o2, rfl, hh⟩
      · replace h := hh
        clear hh
        refine vi_ifnull (o := none) (t' := 59) C dX7_onChosen_47 rfl (by decide) (fun _ => ?_) (fun e => absurd rfl e)
        exact c_ret0 C dX7_onChosen_59 rfl hR hF ⟨Nat.zero_le _, Nat.zero_le _⟩ h
      · replace h := hh
        clear hh
        refine vi_ifnull (o := (some (o2))) (t' := 59) C dX7_onChosen_47 rfl (by decide) (fun e => by cases e) (fun _ => ?_)
        refine vi_aload_n C dX7_onChosen_50 rfl rfl ?_
        refine vi_aload_n C dX7_onChosen_51 rfl rfl ?_
        refine c_getpL (f := 105) (k := 1) (i := a1) C dX7_onChosen_52 rfl fX7_408 rfl (by decide) rfl hR ha1 rfl h (fun v3 h => ?_)
        refine c_cv1 (kc := 7) (a := (ad z x 7 (a0))) C [va_rf (v3)] [] dX7_onChosen_55 rfl ivX7_422 imX7_learn rfl rfl (rcK hR ha0) hR hF h (fun _ e => p_X7_learn ha0 e hR) rfl (Nat.le_of_ble_eq_true rfl) ⟨by decide, by decide⟩ ⟨Nat.le_refl _, Nat.le_refl _⟩ (fun S M4 v5 h hR hF => ?_)
        refine vi_pop C dX7_onChosen_58 rfl rfl ?_
        exact c_ret0 C dX7_onChosen_59 rfl hR hF ⟨Nat.zero_le _, Nat.zero_le _⟩ h
  · replace h := iN c8 h
    refine vi_aload_n C dX7_onChosen_16 rfl rfl ?_
    refine vi_aload_n C dX7_onChosen_17 rfl rfl ?_
    refine c_geti (f := 101) (k := 1) (i := a1) C dX7_onChosen_18 rfl fX7_380 rfl (by decide) rfl hR ha1 ?_
    refine c_cv0 (kc := 7) (a := (ad z x 7 (a0))) C [.int ((cI M 101 (a1)))] [] dX7_onChosen_21 rfl ivX7_327 imX7_askFor rfl rfl (rcK hR ha0) hR hF h (fun _ e => p_X7_askFor ha0 e hR) rfl (Nat.le_of_ble_eq_true rfl) ⟨by decide, by decide⟩ ⟨Nat.le_refl _, Nat.le_refl _⟩ (fun S M7 h hR hF => ?_)
    refine vi_goto (t' := 59) C dX7_onChosen_24 (by decide) ?_
    exact c_ret0 C dX7_onChosen_59 rfl hR hF ⟨Nat.zero_le _, Nat.zero_le _⟩ h

def F_X7_onForward (N : Nat) (M : vC) (a0 : Nat) (a1 : Nat) : Option vC := lt1 (cP M 105 (a1)) fun v1 => oc (v1) (some M) (fun o2 => lt1 (cP M 105 (a1)) fun v3 => b2 (F_X10_isNew N M (a0) (v3)) fun M4 v5 => if v5 = 0 then (some M4) else (lt1 (cP M4 105 (a1)) fun v6 => (F_X6_add N M4 (a0) (v6)).bind fun M7 => some M7))

set_option maxRecDepth 100000 in
set_option maxHeartbeats 4000000 in
theorem p_X7_onForward {N : Nat} {M : vC} {R : vC} {a0 : Nat} {a1 : Nat} (ha0 : a0 < N) (ha1 : a1 < 202) (h : F_X7_onForward N M a0 a1 = some R) {E : vE} {S0 : vS} {z x d0 : Nat} (hR : RC S0 z x N d0 M) : vi_Met E yX7_onForward cX7_onForward 2 none 2 0 0 [.ref (ad z x 7 (a0)), .ref (ad z x 1 (a1))] S0 (cz M) (D0 S0 z x N d0 R) := by
  refine vi_met (by decide) (Nat.le_of_ble_eq_true rfl) ?_
  intro X C
  have hF := cF.refl S0 z x N d0
  unfold F_X7_onForward at h
  refine vi_aload_n C dX7_onForward_0 rfl rfl ?_
  refine c_getpL (f := 105) (k := 1) (i := a1) C dX7_onForward_1 rfl fX7_408 rfl (by decide) rfl hR ha1 rfl h (fun v1 h => ?_)
  rcases oco h with ⟨rfl, hh⟩ | ⟨o2, rfl, hh⟩
  · replace h := hh
    clear hh
    refine vi_ifnull (o := none) (t' := 32) C dX7_onForward_4 rfl (by decide) (fun _ => ?_) (fun e => absurd rfl e)
    exact c_ret0 C dX7_onForward_32 rfl hR hF ⟨Nat.zero_le _, Nat.zero_le _⟩ h
  · replace h := hh
    clear hh
    refine vi_ifnull (o := (some (o2))) (t' := 32) C dX7_onForward_4 rfl (by decide) (fun e => by cases e) (fun _ => ?_)
    refine vi_aload_n C dX7_onForward_7 rfl rfl ?_
    refine c_gets (f := 703) (k := 7) (i := a0) C dX7_onForward_8 rfl fX7_46 rfl (by decide) rfl hR ha0 rfl ?_
    refine vi_aload_n C dX7_onForward_11 rfl rfl ?_
    refine c_getpL (f := 105) (k := 1) (i := a1) C dX7_onForward_12 rfl fX7_408 rfl (by decide) rfl hR ha1 rfl h (fun v3 h => ?_)
    refine c_cv1 (kc := 10) (a := (ad z x 10 (a0))) C [va_rf (v3)] [] dX7_onForward_15 rfl ivX7_440 imX10_isNew rfl rfl (rcK hR ha0) hR hF h (fun _ e => p_X10_isNew ha0 e hR) rfl (Nat.le_of_ble_eq_true rfl) ⟨by decide, by decide⟩ ⟨Nat.le_refl _, Nat.le_refl _⟩ (fun S M4 v5 h hR hF => ?_)
    refine vi_if_eq (t' := 32) C dX7_onForward_18 rfl (by decide) (fun c8 => ?_) (fun c8 => ?_)
    · replace h := iT c8 h
      exact c_ret0 C dX7_onForward_32 rfl hR hF ⟨Nat.zero_le _, Nat.zero_le _⟩ h
    · replace h := iN c8 h
      refine vi_aload_n C dX7_onForward_21 rfl rfl ?_
      refine c_gets (f := 705) (k := 7) (i := a0) C dX7_onForward_22 rfl fX7_12 rfl (by decide) rfl hR ha0 rfl ?_
      refine vi_aload_n C dX7_onForward_25 rfl rfl ?_
      refine c_getpL (f := 105) (k := 1) (i := a1) C dX7_onForward_26 rfl fX7_408 rfl (by decide) rfl hR ha1 rfl h (fun v6 h => ?_)
      refine c_cv0 (kc := 6) (a := (ad z x 6 (a0))) C [va_rf (v6)] [] dX7_onForward_29 rfl ivX7_443 imX6_add rfl rfl (rcK hR ha0) hR hF h (fun _ e => p_X6_add ha0 e hR) rfl (Nat.le_of_ble_eq_true rfl) ⟨by decide, by decide⟩ ⟨Nat.le_refl _, Nat.le_refl _⟩ (fun S M7 h hR hF => ?_)
      exact c_ret0 C dX7_onForward_32 rfl hR hF ⟨Nat.zero_le _, Nat.zero_le _⟩ h

def F_X7_onPrepare (N : Nat) (M : vC) (a0 : Nat) (a1 : Nat) : Option vC := if (cI M 1007 (a0)) < (cI M 104 (a1)) then (if (cI M 712 (a0)) ≤ (cI M 103 (a1)) then (jn (fun (M6 : vC) => (F_X4_follow N M6 (a0)).bind fun M7 => b2 (F_X7_sendTo N M7 (a0) ((cI M7 101 (a1))) ((2 : Int32)) ((cI M7 103 (a1))) ((cI M7 104 (a1)))) fun M8 v9 => lt1 (cP M8 713 (a0)) fun v10 => oc (v10) (some M8) (fun o11 => if (cI M8 104 (a1)) = ((cI M8 1007 (a0)) + (1 : Int32)) then (lt1 (cP M8 713 (a0)) fun v12 => (v9).bind fun o13 => gd (o13 < 202) <| (F_X1_carry N M8 (o13) (v12) ((cI M8 714 (a0)))).bind fun M15 => some M15) else (some M8))) (fun k70_1 => if (cI M 103 (a1)) ≤ (cI M 712 (a0)) then ((k70_1 (M))) else (b2 (F_X7_promise N M (a0) ((cI M 103 (a1)))) fun M2 v3 => if v3 = 0 then (some M2) else ((k70_1 (M2)))))) else ((F_X7_deny N M (a0) ((cI M 101 (a1)))).bind fun M17 => some M17)) else ((F_X7_help N M (a0) ((cI M 101 (a1))) ((cI M 104 (a1)))).bind fun M19 => some M19)

set_option maxRecDepth 100000 in
set_option maxHeartbeats 4000000 in
theorem p_X7_onPrepare {N : Nat} {M : vC} {R : vC} {a0 : Nat} {a1 : Nat} (ha0 : a0 < N) (ha1 : a1 < 202) (h : F_X7_onPrepare N M a0 a1 = some R) {E : vE} {S0 : vS} {z x d0 : Nat} (hR : RC S0 z x N d0 M) : vi_Met E yX7_onPrepare cX7_onPrepare 3 none 5 1 256 [.ref (ad z x 7 (a0)), .ref (ad z x 1 (a1))] S0 (cz M) (D0 S0 z x N d0 R) := by
  refine vi_met (by decide) (Nat.le_of_ble_eq_true rfl) ?_
  intro X C
  have hF := cF.refl S0 z x N d0
  unfold F_X7_onPrepare at h
  refine vi_aload_n C dX7_onPrepare_0 rfl rfl ?_
  refine c_geti (f := 104) (k := 1) (i := a1) C dX7_onPrepare_1 rfl fX7_377 rfl (by decide) rfl hR ha1 ?_
  refine vi_aload_n C dX7_onPrepare_4 rfl rfl ?_
  refine c_gets (f := 703) (k := 7) (i := a0) C dX7_onPrepare_5 rfl fX7_46 rfl (by decide) rfl hR ha0 rfl ?_
  refine c_geti (f := 1007) (k := 10) (i := a0) C dX7_onPrepare_8 rfl fX7_66 rfl (by decide) rfl hR ha0 ?_
  refine vi_icmp_gt (t' := 27) C dX7_onPrepare_11 rfl (by decide) (fun c20 => ?_) (fun c20 => ?_)
  · replace h := iT c20 h
    refine vi_aload_n C dX7_onPrepare_27 rfl rfl ?_
    refine c_geti (f := 103) (k := 1) (i := a1) C dX7_onPrepare_28 rfl fX7_356 rfl (by decide) rfl hR ha1 ?_
    refine vi_aload_n C dX7_onPrepare_31 rfl rfl ?_
    refine c_geti (f := 712) (k := 7) (i := a0) C dX7_onPrepare_32 rfl fX7_78 rfl (by decide) rfl hR ha0 ?_
    refine vi_icmp_ge (t' := 47) C dX7_onPrepare_35 rfl (by decide) (fun c18 => ?_) (fun c18 => ?_)
    · replace h := iT c18 h
      refine vi_aload_n C dX7_onPrepare_47 rfl rfl ?_
      refine c_geti (f := 103) (k := 1) (i := a1) C dX7_onPrepare_48 rfl fX7_356 rfl (by decide) rfl hR ha1 ?_
      refine vi_aload_n C dX7_onPrepare_51 rfl rfl ?_
      refine c_geti (f := 712) (k := 7) (i := a0) C dX7_onPrepare_52 rfl fX7_78 rfl (by decide) rfl hR ha0 ?_
      refine r_jn h (fun k => ∀ (M6 : vC), k M6 = some R → ∀ S, RC S z x N d0 M6 → cF S0 S z x N d0 → vi_W E X 3 (vi_Z E X (D0 S0 z x N d0 R) 1 256) 70 [(0, .ref (ad z x 7 (a0))), (1, .ref (ad z x 1 (a1)))] [] S (cz M6) 0 0) ?_ ?_
      · intro M6 h S hR hF
        refine vi_aload_n C dX7_onPrepare_70 rfl rfl ?_
        refine c_gets (f := 707) (k := 7) (i := a0) C dX7_onPrepare_71 rfl fX7_28 rfl (by decide) rfl hR ha0 rfl ?_
        refine c_cv0 (kc := 4) (a := (ad z x 4 (a0))) C [] [] dX7_onPrepare_74 rfl ivX7_159 imX4_follow rfl rfl (rcK hR ha0) hR hF h (fun _ e => p_X4_follow ha0 e hR) rfl (Nat.le_of_ble_eq_true rfl) ⟨by decide, by decide⟩ ⟨by omega, by omega⟩ (fun S M7 h hR hF => ?_)
        refine vi_aload_n C dX7_onPrepare_77 rfl rfl ?_
        refine vi_aload_n C dX7_onPrepare_78 rfl rfl ?_
        refine c_geti (f := 101) (k := 1) (i := a1) C dX7_onPrepare_79 rfl fX7_380 rfl (by decide) rfl hR ha1 ?_
        refine vi_iconst (v := 2) C dX7_onPrepare_82 rfl (by decide) ?_
        refine vi_aload_n C dX7_onPrepare_83 rfl rfl ?_
        refine c_geti (f := 103) (k := 1) (i := a1) C dX7_onPrepare_84 rfl fX7_356 rfl (by decide) rfl hR ha1 ?_
        refine vi_aload_n C dX7_onPrepare_87 rfl rfl ?_
        refine c_geti (f := 104) (k := 1) (i := a1) C dX7_onPrepare_88 rfl fX7_377 rfl (by decide) rfl hR ha1 ?_
        refine c_cv3 (kc := 7) (a := (ad z x 7 (a0))) (kt := 1) C [.int ((cI M7 101 (a1))), .int ((2 : Int32)), .int ((cI M7 103 (a1))), .int ((cI M7 104 (a1)))] [] dX7_onPrepare_91 rfl ivX7_277 imX7_sendTo rfl rfl (rcK hR ha0) hR hF h (fun _ e => p_X7_sendTo ha0 e hR) rfl (Nat.le_of_ble_eq_true rfl) ⟨by decide, by decide⟩ ⟨by omega, by omega⟩ (fun S M8 v9 h hR hF => ?_)
        refine vi_astore_nq (o := ((v9).map (ad z x 1))) C dX7_onPrepare_94 rfl (by decide) ?_
        refine vi_aload_n C dX7_onPrepare_95 rfl rfl ?_
        refine c_getpL (f := 713) (k := 7) (i := a0) C dX7_onPrepare_96 rfl fX7_81 rfl (by decide) rfl hR ha0 rfl h (fun v10 h => ?_)
        rcases oco h with ⟨rfl, hh⟩ | ⟨o11, rfl, hh⟩
        · replace h := hh
          clear hh
          refine vi_ifnull (o := none) (t' := 130) C dX7_onPrepare_99 rfl (by decide) (fun _ => ?_) (fun e => absurd rfl e)
          exact c_ret0 C dX7_onPrepare_130 rfl hR hF ⟨Nat.zero_le _, Nat.zero_le _⟩ h
        · replace h := hh
          clear hh
          refine vi_ifnull (o := (some (o11))) (t' := 130) C dX7_onPrepare_99 rfl (by decide) (fun e => by cases e) (fun _ => ?_)
          refine vi_aload_n C dX7_onPrepare_102 rfl rfl ?_
          refine c_geti (f := 104) (k := 1) (i := a1) C dX7_onPrepare_103 rfl fX7_377 rfl (by decide) rfl hR ha1 ?_
          refine vi_aload_n C dX7_onPrepare_106 rfl rfl ?_
          refine c_gets (f := 703) (k := 7) (i := a0) C dX7_onPrepare_107 rfl fX7_46 rfl (by decide) rfl hR ha0 rfl ?_
          refine c_geti (f := 1007) (k := 10) (i := a0) C dX7_onPrepare_110 rfl fX7_66 rfl (by decide) rfl hR ha0 ?_
          refine vi_iconst (v := 1) C dX7_onPrepare_113 rfl (by decide) ?_
          refine vi_iadd C dX7_onPrepare_114 rfl ?_
          refine vi_icmp_ne (t' := 130) C dX7_onPrepare_115 rfl (by decide) (fun c16 => ?_) (fun c16 => ?_)
          · replace h := iN c16 h
            exact c_ret0 C dX7_onPrepare_130 rfl hR hF ⟨Nat.zero_le _, Nat.zero_le _⟩ h
          · replace h := iT c16 h
            refine vi_aload_nq (o := ((v9).map (ad z x 1))) C dX7_onPrepare_118 rfl rfl ?_
            refine vi_aload_n C dX7_onPrepare_119 rfl rfl ?_
            refine c_getpL (f := 713) (k := 7) (i := a0) C dX7_onPrepare_120 rfl fX7_81 rfl (by decide) rfl hR ha0 rfl h (fun v12 h => ?_)
            refine vi_aload_n C dX7_onPrepare_123 rfl rfl ?_
            refine c_geti (f := 714) (k := 7) (i := a0) C dX7_onPrepare_124 rfl fX7_85 rfl (by decide) rfl hR ha0 ?_
            obtain ⟨o13, rfl, hh⟩ := bdo h
            replace h := hh
            clear hh
            obtain ⟨c14, h⟩ := gdo h
            refine c_cv0 (kc := 1) (a := (ad z x 1 (o13))) C [va_rf (v12), .int ((cI M8 714 (a0)))] [] dX7_onPrepare_127 rfl ivX7_281 imX1_carry rfl rfl (rcK hR c14) hR hF h (fun _ e => p_X1_carry c14 e hR) rfl (Nat.le_of_ble_eq_true rfl) ⟨by decide, by decide⟩ ⟨by omega, by omega⟩ (fun S M15 h hR hF => ?_)
            exact c_ret0 C dX7_onPrepare_130 rfl hR hF ⟨Nat.zero_le _, Nat.zero_le _⟩ h
      · intro k70_1 h70_1 h
        refine vi_icmp_le (t' := 70) C dX7_onPrepare_55 rfl (by decide) (fun c5 => ?_) (fun c5 => ?_)
        · replace h := iT c5 h
          exact (vi_cut [(0, .ref (ad z x 7 (a0))), (1, .ref (ad z x 1 (a1)))] ⟨rfl, rfl, trivial⟩ (h70_1 _ h _ hR hF))
        · replace h := iN c5 h
          refine vi_aload_n C dX7_onPrepare_58 rfl rfl ?_
          refine vi_aload_n C dX7_onPrepare_59 rfl rfl ?_
          refine c_geti (f := 103) (k := 1) (i := a1) C dX7_onPrepare_60 rfl fX7_356 rfl (by decide) rfl hR ha1 ?_
          refine c_cv1 (kc := 7) (a := (ad z x 7 (a0))) C [.int ((cI M 103 (a1)))] [] dX7_onPrepare_63 rfl ivX7_336 imX7_promise rfl rfl (rcK hR ha0) hR hF h (fun _ e => p_X7_promise ha0 e hR) rfl (Nat.le_of_ble_eq_true rfl) ⟨by decide, by decide⟩ ⟨by omega, by omega⟩ (fun S M2 v3 h hR hF => ?_)
          refine vi_if_ne (t' := 70) C dX7_onPrepare_66 rfl (by decide) (fun c4 => ?_) (fun c4 => ?_)
          · replace h := iN c4 h
            exact (vi_cut [(0, .ref (ad z x 7 (a0))), (1, .ref (ad z x 1 (a1)))] ⟨rfl, rfl, trivial⟩ (h70_1 _ h _ hR hF))
          · replace h := iT c4 h
            exact c_ret0 C dX7_onPrepare_69 rfl hR hF ⟨Nat.zero_le _, Nat.zero_le _⟩ h
    · replace h := iN c18 h
      refine vi_aload_n C dX7_onPrepare_38 rfl rfl ?_
      refine vi_aload_n C dX7_onPrepare_39 rfl rfl ?_
      refine c_geti (f := 101) (k := 1) (i := a1) C dX7_onPrepare_40 rfl fX7_380 rfl (by decide) rfl hR ha1 ?_
      refine c_cv0 (kc := 7) (a := (ad z x 7 (a0))) C [.int ((cI M 101 (a1)))] [] dX7_onPrepare_43 rfl ivX7_398 imX7_deny rfl rfl (rcK hR ha0) hR hF h (fun _ e => p_X7_deny ha0 e hR) rfl (Nat.le_of_ble_eq_true rfl) ⟨by decide, by decide⟩ ⟨by omega, by omega⟩ (fun S M17 h hR hF => ?_)
      exact c_ret0 C dX7_onPrepare_46 rfl hR hF ⟨Nat.zero_le _, Nat.zero_le _⟩ h
  · replace h := iN c20 h
    refine vi_aload_n C dX7_onPrepare_14 rfl rfl ?_
    refine vi_aload_n C dX7_onPrepare_15 rfl rfl ?_
    refine c_geti (f := 101) (k := 1) (i := a1) C dX7_onPrepare_16 rfl fX7_380 rfl (by decide) rfl hR ha1 ?_
    refine vi_aload_n C dX7_onPrepare_19 rfl rfl ?_
    refine c_geti (f := 104) (k := 1) (i := a1) C dX7_onPrepare_20 rfl fX7_377 rfl (by decide) rfl hR ha1 ?_
    refine c_cv0 (kc := 7) (a := (ad z x 7 (a0))) C [.int ((cI M 101 (a1))), .int ((cI M 104 (a1)))] [] dX7_onPrepare_23 rfl ivX7_383 imX7_help rfl rfl (rcK hR ha0) hR hF h (fun _ e => p_X7_help ha0 e hR) rfl (Nat.le_of_ble_eq_true rfl) ⟨by decide, by decide⟩ ⟨by omega, by omega⟩ (fun S M19 h hR hF => ?_)
    exact c_ret0 C dX7_onPrepare_26 rfl hR hF ⟨by omega, by omega⟩ h

def F_X7_onState (N : Nat) (M : vC) (a0 : Nat) (a1 : Nat) : Option vC := if (cI M 104 (a1)) ≤ (cI M 1007 (a0)) then (some M) else (if (cI M 104 (a1)) < (cI M 501 (a0)) then (some M) else (b2 (F_X5_gather N M (a0) (a1)) fun M1 v2 => if v2 = 0 then (some M1) else ((F_X7_startPayload N M1 (a0) ((4 : Int32))).bind fun M3 => (F_X0_putAll N M3 (1) 500 (a0) ((0 : Int32)) ((cI M3 503 (a0)))).bind fun M4 => b2 (F_X7_note N M4 (a0)) fun M5 v6 => if v6 = 0 then (some M5) else (b2 (F_X0_take N M5 (1)) fun M7 v8 => (F_X10_takeFrom N M7 (a0) (1)).bind fun M9 => lt1 (uP M9 713 (a0) none) fun M10 => b2 (F_X7_checkpointIfDue N M10 (a0)) fun M11 v12 => if v12 = 0 then (some M11) else ((F_X4_follow N M11 (a0)).bind fun M13 => (F_X7_tellAll N M13 (a0)).bind fun M14 => some M14)))))

set_option maxRecDepth 100000 in
set_option maxHeartbeats 4000000 in
theorem p_X7_onState {N : Nat} {M : vC} {R : vC} {a0 : Nat} {a1 : Nat} (ha0 : a0 < N) (ha1 : a1 < 202) (h : F_X7_onState N M a0 a1 = some R) {E : vE} {S0 : vS} {z x d0 : Nat} (hR : RC S0 z x N d0 M) : vi_Met E yX7_onState cX7_onState 2 none 5 0 0 [.ref (ad z x 7 (a0)), .ref (ad z x 1 (a1))] S0 (cz M) (D0 S0 z x N d0 R) := by
  refine vi_met (by decide) (Nat.le_of_ble_eq_true rfl) ?_
  intro X C
  have hF := cF.refl S0 z x N d0
  unfold F_X7_onState at h
  refine vi_aload_n C dX7_onState_0 rfl rfl ?_
  refine c_geti (f := 104) (k := 1) (i := a1) C dX7_onState_1 rfl fX7_377 rfl (by decide) rfl hR ha1 ?_
  refine vi_aload_n C dX7_onState_4 rfl rfl ?_
  refine c_gets (f := 703) (k := 7) (i := a0) C dX7_onState_5 rfl fX7_46 rfl (by decide) rfl hR ha0 rfl ?_
  refine c_geti (f := 1007) (k := 10) (i := a0) C dX7_onState_8 rfl fX7_66 rfl (by decide) rfl hR ha0 ?_
  refine vi_icmp_le (t' := 39) C dX7_onState_11 rfl (by decide) (fun c19 => ?_) (fun c19 => ?_)
  · replace h := iT c19 h
    exact c_ret0 C dX7_onState_39 rfl hR hF ⟨Nat.zero_le _, Nat.zero_le _⟩ h
  · replace h := iN c19 h
    refine vi_aload_n C dX7_onState_14 rfl rfl ?_
    refine c_geti (f := 104) (k := 1) (i := a1) C dX7_onState_15 rfl fX7_377 rfl (by decide) rfl hR ha1 ?_
    refine vi_aload_n C dX7_onState_18 rfl rfl ?_
    refine c_gets (f := 706) (k := 7) (i := a0) C dX7_onState_19 rfl fX7_21 rfl (by decide) rfl hR ha0 rfl ?_
    refine c_geti (f := 501) (k := 5) (i := a0) C dX7_onState_22 rfl fX7_114 rfl (by decide) rfl hR ha0 ?_
    refine vi_icmp_lt (t' := 39) C dX7_onState_25 rfl (by decide) (fun c18 => ?_) (fun c18 => ?_)
    · replace h := iT c18 h
      exact c_ret0 C dX7_onState_39 rfl hR hF ⟨Nat.zero_le _, Nat.zero_le _⟩ h
    · replace h := iN c18 h
      refine vi_aload_n C dX7_onState_28 rfl rfl ?_
      refine c_gets (f := 706) (k := 7) (i := a0) C dX7_onState_29 rfl fX7_21 rfl (by decide) rfl hR ha0 rfl ?_
      refine vi_aload_n C dX7_onState_32 rfl rfl ?_
      refine c_cv1 (kc := 5) (a := (ad z x 5 (a0))) C [.ref (ad z x 1 (a1))] [] dX7_onState_33 rfl ivX7_425 imX5_gather rfl rfl (rcK hR ha0) hR hF h (fun _ e => p_X5_gather ha0 ha1 e hR) rfl (Nat.le_of_ble_eq_true rfl) ⟨by decide, by decide⟩ ⟨Nat.le_refl _, Nat.le_refl _⟩ (fun S M1 v2 h hR hF => ?_)
      refine vi_if_ne (t' := 40) C dX7_onState_36 rfl (by decide) (fun c17 => ?_) (fun c17 => ?_)
      · replace h := iN c17 h
        refine vi_aload_n C dX7_onState_40 rfl rfl ?_
        refine vi_iconst (v := 4) C dX7_onState_41 rfl (by decide) ?_
        refine c_cv0 (kc := 7) (a := (ad z x 7 (a0))) C [.int ((4 : Int32))] [] dX7_onState_42 rfl ivX7_202 imX7_startPayload rfl rfl (rcK hR ha0) hR hF h (fun _ e => p_X7_startPayload ha0 e hR) rfl (Nat.le_of_ble_eq_true rfl) ⟨by decide, by decide⟩ ⟨Nat.le_refl _, Nat.le_refl _⟩ (fun S M3 h hR hF => ?_)
        refine vi_aload_n C dX7_onState_45 rfl rfl ?_
        refine c_gets (f := 710) (k := 7) (i := a0) C dX7_onState_46 rfl fX7_62 rfl (by decide) rfl hR ha0 rfl ?_
        refine vi_aload_n C dX7_onState_49 rfl rfl ?_
        refine c_gets (f := 706) (k := 7) (i := a0) C dX7_onState_50 rfl fX7_21 rfl (by decide) rfl hR ha0 rfl ?_
        refine c_gets (f := 500) (k := 5) (i := a0) C dX7_onState_53 rfl fX7_429 rfl (by decide) rfl hR ha0 rfl ?_
        refine vi_iconst (v := 0) C dX7_onState_56 rfl (by decide) ?_
        refine vi_aload_n C dX7_onState_57 rfl rfl ?_
        refine c_gets (f := 706) (k := 7) (i := a0) C dX7_onState_58 rfl fX7_21 rfl (by decide) rfl hR ha0 rfl ?_
        refine c_geti (f := 503) (k := 5) (i := a0) C dX7_onState_61 rfl fX7_433 rfl (by decide) rfl hR ha0 ?_
        refine c_cv0 (kc := 0) (a := (ad z x 0 (1))) C [.ref (hA z x 500 (a0)), .int ((0 : Int32)), .int ((cI M3 503 (a0)))] [] dX7_onState_64 rfl ivX7_436 imX0_putAll rfl rfl (rcK hR (show 1 < 3 from by decide)) hR hF h (fun _ e => p_X0_putAll (show 1 < 3 from by decide) (show 500 ≠ 1 → okS N (500 / 100) (a0) from fun _ => ha0) e hR) rfl (Nat.le_of_ble_eq_true rfl) ⟨by decide, by decide⟩ ⟨Nat.le_refl _, Nat.le_refl _⟩ (fun S M4 h hR hF => ?_)
        refine vi_aload_n C dX7_onState_67 rfl rfl ?_
        refine c_cv1 (kc := 7) (a := (ad z x 7 (a0))) C [] [] dX7_onState_68 rfl ivX7_236 imX7_note rfl rfl (rcK hR ha0) hR hF h (fun _ e => p_X7_note ha0 e hR) rfl (Nat.le_of_ble_eq_true rfl) ⟨by decide, by decide⟩ ⟨Nat.le_refl _, Nat.le_refl _⟩ (fun S M5 v6 h hR hF => ?_)
        refine vi_if_ne (t' := 75) C dX7_onState_71 rfl (by decide) (fun c16 => ?_) (fun c16 => ?_)
        · replace h := iN c16 h
          refine vi_aload_n C dX7_onState_75 rfl rfl ?_
          refine c_gets (f := 710) (k := 7) (i := a0) C dX7_onState_76 rfl fX7_62 rfl (by decide) rfl hR ha0 rfl ?_
          refine c_cv1 (kc := 0) (a := (ad z x 0 (1))) C [] [] dX7_onState_79 rfl ivX7_162 imX0_take rfl rfl (rcK hR (show 1 < 3 from by decide)) hR hF h (fun _ e => p_X0_take (show 1 < 3 from by decide) e hR) rfl (Nat.le_of_ble_eq_true rfl) ⟨by decide, by decide⟩ ⟨Nat.le_refl _, Nat.le_refl _⟩ (fun S M7 v8 h hR hF => ?_)
          refine vi_pop C dX7_onState_82 rfl rfl ?_
          refine vi_aload_n C dX7_onState_83 rfl rfl ?_
          refine c_gets (f := 703) (k := 7) (i := a0) C dX7_onState_84 rfl fX7_46 rfl (by decide) rfl hR ha0 rfl ?_
          refine vi_aload_n C dX7_onState_87 rfl rfl ?_
          refine c_gets (f := 710) (k := 7) (i := a0) C dX7_onState_88 rfl fX7_62 rfl (by decide) rfl hR ha0 rfl ?_
          refine c_cv0 (kc := 10) (a := (ad z x 10 (a0))) C [.ref (ad z x 0 (1))] [] dX7_onState_91 rfl ivX7_181 imX10_takeFrom rfl rfl (rcK hR ha0) hR hF h (fun _ e => p_X10_takeFrom ha0 (show 1 < 3 from by decide) e hR) rfl (Nat.le_of_ble_eq_true rfl) ⟨by decide, by decide⟩ ⟨Nat.le_refl _, Nat.le_refl _⟩ (fun S M9 h hR hF => ?_)
          refine vi_aload_n C dX7_onState_94 rfl rfl ?_
          refine vi_null C dX7_onState_95 rfl ?_
          refine c_putp (f := 713) (k := 7) (i := a0) (v := none) C dX7_onState_96 rfl (fpX7_81 _) rfl (by decide) rfl hR hF ha0 rfl h (fun S M10 h hR hF => ?_)
          refine vi_aload_n C dX7_onState_99 rfl rfl ?_
          refine c_cv1 (kc := 7) (a := (ad z x 7 (a0))) C [] [] dX7_onState_100 rfl ivX7_148 imX7_checkpointIfDue rfl rfl (rcK hR ha0) hR hF h (fun _ e => p_X7_checkpointIfDue ha0 e hR) rfl (Nat.le_of_ble_eq_true rfl) ⟨by decide, by decide⟩ ⟨Nat.le_refl _, Nat.le_refl _⟩ (fun S M11 v12 h hR hF => ?_)
          refine vi_if_ne (t' := 107) C dX7_onState_103 rfl (by decide) (fun c15 => ?_) (fun c15 => ?_)
          · replace h := iN c15 h
            refine vi_aload_n C dX7_onState_107 rfl rfl ?_
            refine c_gets (f := 707) (k := 7) (i := a0) C dX7_onState_108 rfl fX7_28 rfl (by decide) rfl hR ha0 rfl ?_
            refine c_cv0 (kc := 4) (a := (ad z x 4 (a0))) C [] [] dX7_onState_111 rfl ivX7_159 imX4_follow rfl rfl (rcK hR ha0) hR hF h (fun _ e => p_X4_follow ha0 e hR) rfl (Nat.le_of_ble_eq_true rfl) ⟨by decide, by decide⟩ ⟨Nat.le_refl _, Nat.le_refl _⟩ (fun S M13 h hR hF => ?_)
            refine vi_aload_n C dX7_onState_114 rfl rfl ?_
            refine c_cv0 (kc := 7) (a := (ad z x 7 (a0))) C [] [] dX7_onState_115 rfl ivX7_242 imX7_tellAll rfl rfl (rcK hR ha0) hR hF h (fun _ e => p_X7_tellAll ha0 e hR) rfl (Nat.le_of_ble_eq_true rfl) ⟨by decide, by decide⟩ ⟨Nat.le_refl _, Nat.le_refl _⟩ (fun S M14 h hR hF => ?_)
            exact c_ret0 C dX7_onState_118 rfl hR hF ⟨Nat.zero_le _, Nat.zero_le _⟩ h
          · replace h := iT c15 h
            exact c_ret0 C dX7_onState_106 rfl hR hF ⟨Nat.zero_le _, Nat.zero_le _⟩ h
        · replace h := iT c16 h
          exact c_ret0 C dX7_onState_74 rfl hR hF ⟨Nat.zero_le _, Nat.zero_le _⟩ h
      · replace h := iT c17 h
        exact c_ret0 C dX7_onState_39 rfl hR hF ⟨Nat.zero_le _, Nat.zero_le _⟩ h

def F_X7_receive (N : Nat) (M : vC) (a0 : Nat) (a1 : Nat) : Option vC := lt1 (uI M 715 (a0) ((mxI ((cI M 715 (a0))) ((cI M 103 (a1)))))) fun M1 => if (cI M1 100 (a1)) = 1 then ((F_X7_onPrepare N M1 (a0) (a1)).bind fun M3 => some M3) else if (cI M1 100 (a1)) = 2 then (b2 (F_X7_afterPromise N M1 (a0) (a1)) fun M5 v6 => (F_X7_propose N M5 (a0) (v6)).bind fun M7 => some M7) else if (cI M1 100 (a1)) = 3 then ((F_X7_onAccept N M1 (a0) (a1)).bind fun M9 => some M9) else if (cI M1 100 (a1)) = 4 then (b2 (F_X7_afterAccepted N M1 (a0) (a1)) fun M11 v12 => (F_X7_propose N M11 (a0) (v12)).bind fun M13 => some M13) else if (cI M1 100 (a1)) = 5 then ((F_X7_onChosen N M1 (a0) (a1)).bind fun M15 => some M15) else if (cI M1 100 (a1)) = 6 then (if (cI M1 1007 (a0)) < (cI M1 104 (a1)) then (some M1) else ((F_X7_help N M1 (a0) ((cI M1 101 (a1))) ((cI M1 104 (a1)))).bind fun M17 => some M17)) else if (cI M1 100 (a1)) = 7 then ((F_X4_followAbove N M1 (a0) ((cI M1 103 (a1)))).bind fun M20 => some M20) else if (cI M1 100 (a1)) = 8 then ((F_X7_onState N M1 (a0) (a1)).bind fun M22 => some M22) else if (cI M1 100 (a1)) = 9 then ((F_X7_onForward N M1 (a0) (a1)).bind fun M24 => some M24) else if (cI M1 100 (a1)) = 10 then ((F_X7_onBeat N M1 (a0) (a1)).bind fun M26 => some M26) else (some M1)

set_option maxRecDepth 100000 in
set_option maxHeartbeats 4000000 in
theorem p_X7_receive {N : Nat} {M : vC} {R : vC} {a0 : Nat} {a1 : Nat} (ha0 : a0 < N) (ha1 : a1 < 202) (h : F_X7_receive N M a0 a1 = some R) {E : vE} {S0 : vS} {z x d0 : Nat} (hR : RC S0 z x N d0 M) : vi_Met E yX7_receive cX7_receive 2 none 6 1 256 [.ref (ad z x 7 (a0)), .ref (ad z x 1 (a1))] S0 (cz M) (D0 S0 z x N d0 R) := by
  refine vi_met (by decide) (Nat.le_of_ble_eq_true rfl) ?_
  intro X C
  have hF := cF.refl S0 z x N d0
  unfold F_X7_receive at h
  refine vi_aload_n C dX7_receive_0 rfl rfl ?_
  refine vi_aload_n C dX7_receive_1 rfl rfl ?_
  refine c_geti (f := 715) (k := 7) (i := a0) C dX7_receive_2 rfl fX7_97 rfl (by decide) rfl hR ha0 ?_
  refine vi_aload_n C dX7_receive_5 rfl rfl ?_
  refine c_geti (f := 103) (k := 1) (i := a1) C dX7_receive_6 rfl fX7_356 rfl (by decide) rfl hR ha1 ?_
  refine vi_mmax C dX7_receive_9 rfl ivX7_330 mlX7_330 (by decide) (Nat.le_of_ble_eq_true rfl) (Nat.zero_le _) (Nat.zero_le _) ?_
  refine c_puti (f := 715) (k := 7) (i := a0) C dX7_receive_12 rfl (fpX7_97 _) rfl (by decide) rfl hR hF ha0 h (fun S M1 h hR hF => ?_)
  refine vi_aload_n C dX7_receive_15 rfl rfl ?_
  refine c_geti (f := 100) (k := 1) (i := a1) C dX7_receive_16 rfl fX7_357 rfl (by decide) rfl hR ha1 ?_
  by_cases c4 : (cI M1 100 (a1)) = 1
  · replace h := iT c4 h
    refine vi_tswI (v := 1) (t' := 72) C c4 dX7_receive_19 (by decide) (by decide) rfl (by decide) ?_
    refine vi_aload_n C dX7_receive_72 rfl rfl ?_
    refine vi_aload_n C dX7_receive_73 rfl rfl ?_
    refine c_cv0 (kc := 7) (a := (ad z x 7 (a0))) C [.ref (ad z x 1 (a1))] [] dX7_receive_74 rfl ivX7_360 imX7_onPrepare rfl rfl (rcK hR ha0) hR hF h (fun _ e => p_X7_onPrepare ha0 ha1 e hR) rfl (Nat.le_of_ble_eq_true rfl) ⟨by decide, by decide⟩ ⟨by omega, by omega⟩ (fun S M3 h hR hF => ?_)
    refine vi_goto (t' := 187) C dX7_receive_77 (by decide) ?_
    exact c_ret0 C dX7_receive_187 rfl hR hF ⟨by omega, by omega⟩ h
  replace h := iN c4 h
  by_cases c8 : (cI M1 100 (a1)) = 2
  · replace h := iT c8 h
    refine vi_tswI (v := 2) (t' := 80) C c8 dX7_receive_19 (by decide) (by decide) rfl (by decide) ?_
    refine vi_aload_n C dX7_receive_80 rfl rfl ?_
    refine vi_aload_n C dX7_receive_81 rfl rfl ?_
    refine vi_aload_n C dX7_receive_82 rfl rfl ?_
    refine c_cv4 (kc := 7) (a := (ad z x 7 (a0))) C [.ref (ad z x 1 (a1))] [.ref (ad z x 7 (a0))] dX7_receive_83 rfl ivX7_364 imX7_afterPromise rfl rfl (rcK hR ha0) hR hF h (fun _ e => p_X7_afterPromise ha0 ha1 e hR) rfl (Nat.le_of_ble_eq_true rfl) ⟨by decide, by decide⟩ ⟨by omega, by omega⟩ (fun S M5 v6 h hR hF => ?_)
    refine c_cv0 (kc := 7) (a := (ad z x 7 (a0))) C [va_rf (v6)] [] dX7_receive_86 rfl ivX7_305 imX7_propose rfl rfl (rcK hR ha0) hR hF h (fun _ e => p_X7_propose ha0 e hR) rfl (Nat.le_of_ble_eq_true rfl) ⟨by decide, by decide⟩ ⟨by omega, by omega⟩ (fun S M7 h hR hF => ?_)
    refine vi_goto (t' := 187) C dX7_receive_89 (by decide) ?_
    exact c_ret0 C dX7_receive_187 rfl hR hF ⟨Nat.zero_le _, Nat.zero_le _⟩ h
  replace h := iN c8 h
  by_cases c10 : (cI M1 100 (a1)) = 3
  · replace h := iT c10 h
    refine vi_tswI (v := 3) (t' := 92) C c10 dX7_receive_19 (by decide) (by decide) rfl (by decide) ?_
    refine vi_aload_n C dX7_receive_92 rfl rfl ?_
    refine vi_aload_n C dX7_receive_93 rfl rfl ?_
    refine c_cv0 (kc := 7) (a := (ad z x 7 (a0))) C [.ref (ad z x 1 (a1))] [] dX7_receive_94 rfl ivX7_368 imX7_onAccept rfl rfl (rcK hR ha0) hR hF h (fun _ e => p_X7_onAccept ha0 ha1 e hR) rfl (Nat.le_of_ble_eq_true rfl) ⟨by decide, by decide⟩ ⟨by omega, by omega⟩ (fun S M9 h hR hF => ?_)
    refine vi_goto (t' := 187) C dX7_receive_97 (by decide) ?_
    exact c_ret0 C dX7_receive_187 rfl hR hF ⟨by omega, by omega⟩ h
  replace h := iN c10 h
  by_cases c14 : (cI M1 100 (a1)) = 4
  · replace h := iT c14 h
    refine vi_tswI (v := 4) (t' := 100) C c14 dX7_receive_19 (by decide) (by decide) rfl (by decide) ?_
    refine vi_aload_n C dX7_receive_100 rfl rfl ?_
    refine vi_aload_n C dX7_receive_101 rfl rfl ?_
    refine vi_aload_n C dX7_receive_102 rfl rfl ?_
    refine c_cv4 (kc := 7) (a := (ad z x 7 (a0))) C [.ref (ad z x 1 (a1))] [.ref (ad z x 7 (a0))] dX7_receive_103 rfl ivX7_371 imX7_afterAccepted rfl rfl (rcK hR ha0) hR hF h (fun _ e => p_X7_afterAccepted ha0 ha1 e hR) rfl (Nat.le_of_ble_eq_true rfl) ⟨by decide, by decide⟩ ⟨by omega, by omega⟩ (fun S M11 v12 h hR hF => ?_)
    refine c_cv0 (kc := 7) (a := (ad z x 7 (a0))) C [va_rf (v12)] [] dX7_receive_106 rfl ivX7_305 imX7_propose rfl rfl (rcK hR ha0) hR hF h (fun _ e => p_X7_propose ha0 e hR) rfl (Nat.le_of_ble_eq_true rfl) ⟨by decide, by decide⟩ ⟨by omega, by omega⟩ (fun S M13 h hR hF => ?_)
    refine vi_goto (t' := 187) C dX7_receive_109 (by decide) ?_
    exact c_ret0 C dX7_receive_187 rfl hR hF ⟨Nat.zero_le _, Nat.zero_le _⟩ h
  replace h := iN c14 h
  by_cases c16 : (cI M1 100 (a1)) = 5
  · replace h := iT c16 h
    refine vi_tswI (v := 5) (t' := 112) C c16 dX7_receive_19 (by decide) (by decide) rfl (by decide) ?_
    refine vi_aload_n C dX7_receive_112 rfl rfl ?_
    refine vi_aload_n C dX7_receive_113 rfl rfl ?_
    refine c_cv0 (kc := 7) (a := (ad z x 7 (a0))) C [.ref (ad z x 1 (a1))] [] dX7_receive_114 rfl ivX7_374 imX7_onChosen rfl rfl (rcK hR ha0) hR hF h (fun _ e => p_X7_onChosen ha0 ha1 e hR) rfl (Nat.le_of_ble_eq_true rfl) ⟨by decide, by decide⟩ ⟨by omega, by omega⟩ (fun S M15 h hR hF => ?_)
    refine vi_goto (t' := 187) C dX7_receive_117 (by decide) ?_
    exact c_ret0 C dX7_receive_187 rfl hR hF ⟨Nat.zero_le _, Nat.zero_le _⟩ h
  replace h := iN c16 h
  by_cases c19 : (cI M1 100 (a1)) = 6
  · replace h := iT c19 h
    refine vi_tswI (v := 6) (t' := 120) C c19 dX7_receive_19 (by decide) (by decide) rfl (by decide) ?_
    refine vi_aload_n C dX7_receive_120 rfl rfl ?_
    refine c_geti (f := 104) (k := 1) (i := a1) C dX7_receive_121 rfl fX7_377 rfl (by decide) rfl hR ha1 ?_
    refine vi_aload_n C dX7_receive_124 rfl rfl ?_
    refine c_gets (f := 703) (k := 7) (i := a0) C dX7_receive_125 rfl fX7_46 rfl (by decide) rfl hR ha0 rfl ?_
    refine c_geti (f := 1007) (k := 10) (i := a0) C dX7_receive_128 rfl fX7_66 rfl (by decide) rfl hR ha0 ?_
    refine vi_icmp_gt (t' := 187) C dX7_receive_131 rfl (by decide) (fun c18 => ?_) (fun c18 => ?_)
    · replace h := iT c18 h
      exact c_ret0 C dX7_receive_187 rfl hR hF ⟨Nat.zero_le _, Nat.zero_le _⟩ h
    · replace h := iN c18 h
      refine vi_aload_n C dX7_receive_134 rfl rfl ?_
      refine vi_aload_n C dX7_receive_135 rfl rfl ?_
      refine c_geti (f := 101) (k := 1) (i := a1) C dX7_receive_136 rfl fX7_380 rfl (by decide) rfl hR ha1 ?_
      refine vi_aload_n C dX7_receive_139 rfl rfl ?_
      refine c_geti (f := 104) (k := 1) (i := a1) C dX7_receive_140 rfl fX7_377 rfl (by decide) rfl hR ha1 ?_
      refine c_cv0 (kc := 7) (a := (ad z x 7 (a0))) C [.int ((cI M1 101 (a1))), .int ((cI M1 104 (a1)))] [] dX7_receive_143 rfl ivX7_383 imX7_help rfl rfl (rcK hR ha0) hR hF h (fun _ e => p_X7_help ha0 e hR) rfl (Nat.le_of_ble_eq_true rfl) ⟨by decide, by decide⟩ ⟨by omega, by omega⟩ (fun S M17 h hR hF => ?_)
      refine vi_goto (t' := 187) C dX7_receive_146 (by decide) ?_
      exact c_ret0 C dX7_receive_187 rfl hR hF ⟨by omega, by omega⟩ h
  replace h := iN c19 h
  by_cases c21 : (cI M1 100 (a1)) = 7
  · replace h := iT c21 h
    refine vi_tswI (v := 7) (t' := 149) C c21 dX7_receive_19 (by decide) (by decide) rfl (by decide) ?_
    refine vi_aload_n C dX7_receive_149 rfl rfl ?_
    refine c_gets (f := 707) (k := 7) (i := a0) C dX7_receive_150 rfl fX7_28 rfl (by decide) rfl hR ha0 rfl ?_
    refine vi_aload_n C dX7_receive_153 rfl rfl ?_
    refine c_geti (f := 103) (k := 1) (i := a1) C dX7_receive_154 rfl fX7_356 rfl (by decide) rfl hR ha1 ?_
    refine c_cv0 (kc := 4) (a := (ad z x 4 (a0))) C [.int ((cI M1 103 (a1)))] [] dX7_receive_157 rfl ivX7_386 imX4_followAbove rfl rfl (rcK hR ha0) hR hF h (fun _ e => p_X4_followAbove ha0 e hR) rfl (Nat.le_of_ble_eq_true rfl) ⟨by decide, by decide⟩ ⟨by omega, by omega⟩ (fun S M20 h hR hF => ?_)
    refine vi_goto (t' := 187) C dX7_receive_160 (by decide) ?_
    exact c_ret0 C dX7_receive_187 rfl hR hF ⟨Nat.zero_le _, Nat.zero_le _⟩ h
  replace h := iN c21 h
  by_cases c23 : (cI M1 100 (a1)) = 8
  · replace h := iT c23 h
    refine vi_tswI (v := 8) (t' := 163) C c23 dX7_receive_19 (by decide) (by decide) rfl (by decide) ?_
    refine vi_aload_n C dX7_receive_163 rfl rfl ?_
    refine vi_aload_n C dX7_receive_164 rfl rfl ?_
    refine c_cv0 (kc := 7) (a := (ad z x 7 (a0))) C [.ref (ad z x 1 (a1))] [] dX7_receive_165 rfl ivX7_389 imX7_onState rfl rfl (rcK hR ha0) hR hF h (fun _ e => p_X7_onState ha0 ha1 e hR) rfl (Nat.le_of_ble_eq_true rfl) ⟨by decide, by decide⟩ ⟨by omega, by omega⟩ (fun S M22 h hR hF => ?_)
    refine vi_goto (t' := 187) C dX7_receive_168 (by decide) ?_
    exact c_ret0 C dX7_receive_187 rfl hR hF ⟨Nat.zero_le _, Nat.zero_le _⟩ h
  replace h := iN c23 h
  by_cases c25 : (cI M1 100 (a1)) = 9
  · replace h := iT c25 h
    refine vi_tswI (v := 9) (t' := 171) C c25 dX7_receive_19 (by decide) (by decide) rfl (by decide) ?_
    refine vi_aload_n C dX7_receive_171 rfl rfl ?_
    refine vi_aload_n C dX7_receive_172 rfl rfl ?_
    refine c_cv0 (kc := 7) (a := (ad z x 7 (a0))) C [.ref (ad z x 1 (a1))] [] dX7_receive_173 rfl ivX7_392 imX7_onForward rfl rfl (rcK hR ha0) hR hF h (fun _ e => p_X7_onForward ha0 ha1 e hR) rfl (Nat.le_of_ble_eq_true rfl) ⟨by decide, by decide⟩ ⟨by omega, by omega⟩ (fun S M24 h hR hF => ?_)
    refine vi_goto (t' := 187) C dX7_receive_176 (by decide) ?_
    exact c_ret0 C dX7_receive_187 rfl hR hF ⟨Nat.zero_le _, Nat.zero_le _⟩ h
  replace h := iN c25 h
  by_cases c27 : (cI M1 100 (a1)) = 10
  · replace h := iT c27 h
    refine vi_tswI (v := 10) (t' := 179) C c27 dX7_receive_19 (by decide) (by decide) rfl (by decide) ?_
    refine vi_aload_n C dX7_receive_179 rfl rfl ?_
    refine vi_aload_n C dX7_receive_180 rfl rfl ?_
    refine c_cv0 (kc := 7) (a := (ad z x 7 (a0))) C [.ref (ad z x 1 (a1))] [] dX7_receive_181 rfl ivX7_395 imX7_onBeat rfl rfl (rcK hR ha0) hR hF h (fun _ e => p_X7_onBeat ha0 ha1 e hR) rfl (Nat.le_of_ble_eq_true rfl) ⟨by decide, by decide⟩ ⟨by omega, by omega⟩ (fun S M26 h hR hF => ?_)
    refine vi_goto (t' := 187) C dX7_receive_184 (by decide) ?_
    exact c_ret0 C dX7_receive_187 rfl hR hF ⟨by omega, by omega⟩ h
  replace h := iN c27 h
  have tc4 := tne (w := 1) c4 (by decide)
  have tc8 := tne (w := 2) c8 (by decide)
  have tc10 := tne (w := 3) c10 (by decide)
  have tc14 := tne (w := 4) c14 (by decide)
  have tc16 := tne (w := 5) c16 (by decide)
  have tc19 := tne (w := 6) c19 (by decide)
  have tc21 := tne (w := 7) c21 (by decide)
  have tc23 := tne (w := 8) c23 (by decide)
  have tc25 := tne (w := 9) c25 (by decide)
  have tc27 := tne (w := 10) c27 (by decide)
  refine vi_tswO (t' := 187) C dX7_receive_19 (by omega) (by decide) ?_
  exact c_ret0 C dX7_receive_187 rfl hR hF ⟨Nat.zero_le _, Nat.zero_le _⟩ h

def F_X8_tell (N : Nat) (M : vC) (a0 : Nat) (a1 : Int32) : Option (vC × Int32) := if a1 = 0 then (gd (cK M (a0) = 9) <| some (M, (cI M 800 (a0)))) else if a1 = 1 then (gd (cK M (a0) = 9) <| some (M, (cI M 801 (a0)))) else if a1 = 2 then (gd (cK M (a0) = 9) <| some (M, (cI M 802 (a0)))) else if a1 = 3 then (gd (cK M (a0) = 9) <| some (M, (cI M 803 (a0)))) else if a1 = 4 then (gd (cK M (a0) = 9) <| some (M, (cI M 804 (a0)))) else (some (M, (-1 : Int32)))

set_option maxRecDepth 100000 in
set_option maxHeartbeats 4000000 in
theorem p_X8_tell {N : Nat} {M : vC} {R : (vC × Int32)} {a0 : Nat} {a1 : Int32}  (h : F_X8_tell N M a0 a1 = some R) {E : vE} {S0 : vS} {z x d0 : Nat} (hR : RC S0 z x N d0 M) : vi_Met E yX8_tell cX8_tell 2 (some .int) 0 0 0 [.ref (a0), .int (a1)] S0 (cz M) (D1 S0 z x N d0 R) := by
  refine vi_met (by decide) (Nat.le_of_ble_eq_true rfl) ?_
  intro X C
  have hF := cF.refl S0 z x N d0
  unfold F_X8_tell at h
  refine vi_iload_n C dX8_tell_0 rfl rfl ?_
  by_cases c3 : a1 = 0
  · replace h := iT c3 h
    refine vi_tswI (v := 0) (t' := 36) C c3 dX8_tell_1 (by decide) (by decide) rfl (by decide) ?_
    refine vi_aload_n C dX8_tell_36 rfl rfl ?_
    obtain ⟨c2, h⟩ := gdo h
    refine c_getiD (f := 800) C dX8_tell_37 rfl fX8_9 rfl (by decide) rfl hR c2 ?_
    exact c_ret1 C dX8_tell_40 rfl hR hF ⟨Nat.zero_le _, Nat.zero_le _⟩ h
  replace h := iN c3 h
  by_cases c5 : a1 = 1
  · replace h := iT c5 h
    refine vi_tswI (v := 1) (t' := 41) C c5 dX8_tell_1 (by decide) (by decide) rfl (by decide) ?_
    refine vi_aload_n C dX8_tell_41 rfl rfl ?_
    obtain ⟨c4, h⟩ := gdo h
    refine c_getiD (f := 801) C dX8_tell_42 rfl fX8_15 rfl (by decide) rfl hR c4 ?_
    exact c_ret1 C dX8_tell_45 rfl hR hF ⟨Nat.zero_le _, Nat.zero_le _⟩ h
  replace h := iN c5 h
  by_cases c7 : a1 = 2
  · replace h := iT c7 h
    refine vi_tswI (v := 2) (t' := 46) C c7 dX8_tell_1 (by decide) (by decide) rfl (by decide) ?_
    refine vi_aload_n C dX8_tell_46 rfl rfl ?_
    obtain ⟨c6, h⟩ := gdo h
    refine c_getiD (f := 802) C dX8_tell_47 rfl fX8_18 rfl (by decide) rfl hR c6 ?_
    exact c_ret1 C dX8_tell_50 rfl hR hF ⟨Nat.zero_le _, Nat.zero_le _⟩ h
  replace h := iN c7 h
  by_cases c9 : a1 = 3
  · replace h := iT c9 h
    refine vi_tswI (v := 3) (t' := 51) C c9 dX8_tell_1 (by decide) (by decide) rfl (by decide) ?_
    refine vi_aload_n C dX8_tell_51 rfl rfl ?_
    obtain ⟨c8, h⟩ := gdo h
    refine c_getiD (f := 803) C dX8_tell_52 rfl fX8_21 rfl (by decide) rfl hR c8 ?_
    exact c_ret1 C dX8_tell_55 rfl hR hF ⟨Nat.zero_le _, Nat.zero_le _⟩ h
  replace h := iN c9 h
  by_cases c11 : a1 = 4
  · replace h := iT c11 h
    refine vi_tswI (v := 4) (t' := 56) C c11 dX8_tell_1 (by decide) (by decide) rfl (by decide) ?_
    refine vi_aload_n C dX8_tell_56 rfl rfl ?_
    obtain ⟨c10, h⟩ := gdo h
    refine c_getiD (f := 804) C dX8_tell_57 rfl fX8_24 rfl (by decide) rfl hR c10 ?_
    exact c_ret1 C dX8_tell_60 rfl hR hF ⟨Nat.zero_le _, Nat.zero_le _⟩ h
  replace h := iN c11 h
  have tc3 := tne (w := 0) c3 (by decide)
  have tc5 := tne (w := 1) c5 (by decide)
  have tc7 := tne (w := 2) c7 (by decide)
  have tc9 := tne (w := 3) c9 (by decide)
  have tc11 := tne (w := 4) c11 (by decide)
  refine vi_tswO (t' := 61) C dX8_tell_1 (by omega) (by decide) ?_
  refine vi_iconst (v := -1) C dX8_tell_61 rfl (by decide) ?_
  exact c_ret1 C dX8_tell_62 rfl hR hF ⟨Nat.zero_le _, Nat.zero_le _⟩ h

def F_X9_begin (N : Nat) (M : vC) (a0 : Nat) (a1 : Int32) (a2 : Int32) (a3 : Int32) : Option vC := lt1 (uI M 901 (a0) ((1 : Int32))) fun M1 => lt1 (uI M1 903 (a0) (a1)) fun M2 => lt1 (uI M2 904 (a0) (a2)) fun M3 => zb (a3) <| lt1 (uI M3 907 (a0) (a3)) fun M4 => lt1 (uI M4 905 (a0) ((0 : Int32))) fun M5 => lt1 (uI M5 906 (a0) ((0 : Int32))) fun M6 => some M6

set_option maxRecDepth 100000 in
set_option maxHeartbeats 4000000 in
theorem p_X9_begin {N : Nat} {M : vC} {R : vC} {a0 : Nat} {a1 : Int32} {a2 : Int32} {a3 : Int32} (ha0 : a0 < 16) (h : F_X9_begin N M a0 a1 a2 a3 = some R) {E : vE} {S0 : vS} {z x d0 : Nat} (hR : RC S0 z x N d0 M) : vi_Met E yX9_begin cX9_begin 4 none 0 0 0 [.ref (ad z x 9 (a0)), .int (a1), .int (a2), .int (a3)] S0 (cz M) (D0 S0 z x N d0 R) := by
  refine vi_met (by decide) (Nat.le_of_ble_eq_true rfl) ?_
  intro X C
  have hF := cF.refl S0 z x N d0
  unfold F_X9_begin at h
  refine vi_aload_n C dX9_begin_0 rfl rfl ?_
  refine vi_iconst (v := 1) C dX9_begin_1 rfl (by decide) ?_
  refine c_puti (f := 901) (k := 9) (i := a0) C dX9_begin_2 rfl (fpX9_15 _) rfl (by decide) rfl hR hF ha0 h (fun S M1 h hR hF => ?_)
  refine vi_aload_n C dX9_begin_5 rfl rfl ?_
  refine vi_iload_n C dX9_begin_6 rfl rfl ?_
  refine c_puti (f := 903) (k := 9) (i := a0) C dX9_begin_7 rfl (fpX9_19 _) rfl (by decide) rfl hR hF ha0 h (fun S M2 h hR hF => ?_)
  refine vi_aload_n C dX9_begin_10 rfl rfl ?_
  refine vi_iload_n C dX9_begin_11 rfl rfl ?_
  refine c_puti (f := 904) (k := 9) (i := a0) C dX9_begin_12 rfl (fpX9_22 _) rfl (by decide) rfl hR hF ha0 h (fun S M3 h hR hF => ?_)
  refine vi_aload_n C dX9_begin_15 rfl rfl ?_
  refine vi_iload_n C dX9_begin_16 rfl rfl ?_
  refine c_putz (f := 907) (k := 9) (i := a0) C dX9_begin_17 rfl (fpX9_25 _) rfl (by decide) rfl hR hF ha0 h (fun S M4 h hR hF => ?_)
  refine vi_aload_n C dX9_begin_20 rfl rfl ?_
  refine vi_iconst (v := 0) C dX9_begin_21 rfl (by decide) ?_
  refine c_puti (f := 905) (k := 9) (i := a0) C dX9_begin_22 rfl (fpX9_29 _) rfl (by decide) rfl hR hF ha0 h (fun S M5 h hR hF => ?_)
  refine vi_aload_n C dX9_begin_25 rfl rfl ?_
  refine vi_iconst (v := 0) C dX9_begin_26 rfl (by decide) ?_
  refine c_puti (f := 906) (k := 9) (i := a0) C dX9_begin_27 rfl (fpX9_32 _) rfl (by decide) rfl hR hF ha0 h (fun S M6 h hR hF => ?_)
  exact c_ret0 C dX9_begin_30 rfl hR hF ⟨Nat.zero_le _, Nat.zero_le _⟩ h

def F_X10_valueOf (N : Nat) (M : vC) (a0 : Nat) (a1 : Int32) (a2 : Int32) : Option (vC × Int32) := b2 (F_X10_rowOf N M (a2)) fun M1 v2 => (cG M1 1005 (a0) ((v2 + a1))).bind fun v3 => some (M1, v3)

set_option maxRecDepth 100000 in
set_option maxHeartbeats 4000000 in
theorem p_X10_valueOf {N : Nat} {M : vC} {R : (vC × Int32)} {a0 : Nat} {a1 : Int32} {a2 : Int32} (ha0 : a0 < N) (h : F_X10_valueOf N M a0 a1 a2 = some R) {E : vE} {S0 : vS} {z x d0 : Nat} (hR : RC S0 z x N d0 M) : vi_Met E yX10_valueOf cX10_valueOf 3 (some .int) 2 0 0 [.ref (ad z x 10 (a0)), .int (a1), .int (a2)] S0 (cz M) (D1 S0 z x N d0 R) := by
  refine vi_met (by decide) (Nat.le_of_ble_eq_true rfl) ?_
  intro X C
  have hF := cF.refl S0 z x N d0
  unfold F_X10_valueOf at h
  refine vi_aload_n C dX10_valueOf_0 rfl rfl ?_
  refine c_gets (f := 1005) (k := 10) (i := a0) C dX10_valueOf_1 rfl fX10_21 rfl (by decide) rfl hR ha0 rfl ?_
  refine vi_iload_n C dX10_valueOf_4 rfl rfl ?_
  refine c_cs1 C [.int (a2)] [.ref (aa z x 1005 (a0))] dX10_valueOf_5 rfl ivX10_52 isX10_rowOf hR hF h (fun _ e => p_X10_rowOf  e hR) rfl (Nat.le_of_ble_eq_true rfl) ⟨by decide, by decide⟩ ⟨Nat.le_refl _, Nat.le_refl _⟩ (fun S M1 v2 h hR hF => ?_)
  refine vi_iload_n C dX10_valueOf_8 rfl rfl ?_
  refine vi_iadd C dX10_valueOf_9 rfl ?_
  refine c_iaload C dX10_valueOf_10 rfl rfl hR ⟨ha0, by decide⟩ h (fun v3 h => ?_)
  exact c_ret1 C dX10_valueOf_11 rfl hR hF ⟨Nat.zero_le _, Nat.zero_le _⟩ h
