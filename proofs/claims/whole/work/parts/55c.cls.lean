def L_X10_isBelated_20 {ρ : Type} (N : Nat) (l0 : Nat) (l1 : Nat) (kx55 : vC → Option ρ) (kx63 : vC → Option ρ) : Nat → vC → Int32 → Option ρ
  | 0, _, _ => none
  | f + 1, M, l2 => if (cI M 1000 (l0)) ≤ l2 then (kx63 M ) else (gd (cK M (l1) = 9) <| if ((cI M 1007 (l0)) - l2) ≤ (cI M 802 (l1)) then (L_X10_isBelated_20 N l0 l1 kx55 kx63 f M ((l2 + (1)))) else ((cG M 1004 (l0) (l2)).bind fun v4 => gd (cK M (l1) = 9) <| if (v4 &&& (cI M 803 (l1))) = 0 then (L_X10_isBelated_20 N l0 l1 kx55 kx63 f M ((l2 + (1)))) else (kx55 M )))

def F_X10_isBelated (N : Nat) (M : vC) (a0 : Nat) (a1 : Option Nat) : Option (vC × Int32) := (a1).bind fun o1 => gd (cK M (o1) = 9) <| if ((cI M 1007 (a0)) - (cI M 1000 (a0))) ≤ (cI M 802 (o1)) then (L_X10_isBelated_20 N (a0) (o1) (fun (M9 : vC)  => zb ((1 : Int32)) (some (M9, (1 : Int32)))) (fun (M10 : vC)  => zb ((0 : Int32)) (some (M10, (0 : Int32)))) fu M ((0 : Int32))) else (zb ((1 : Int32)) (some (M, (1 : Int32))))

set_option maxRecDepth 100000 in
set_option maxHeartbeats 4000000 in
theorem w_X10_isBelated_20 {E : vE} {X : vX} {S0 : vS} {z x N d0 : Nat} {ρ : Type} {R : ρ} {Z : State → Prop} {l0 : Nat} {l1 : Nat} {kx55 : vC → Option ρ} {kx63 : vC → Option ρ} (hl0 : l0 < N) (C : vi_C E X yX10_isBelated cX10_isBelated 3 (some .boolean) 0 0 0 (45 * 0)) (hx55 : ∀ (M : vC) , kx55 M  = some R → ∀ S, RC S z x N d0 M → cF S0 S z x N d0 → vi_W E X 3 Z 55 [] [] S (cz M) 0 0) (hx63 : ∀ (M : vC) , kx63 M  = some R → ∀ S, RC S z x N d0 M → cF S0 S z x N d0 → vi_W E X 3 Z 63 [] [] S (cz M) 0 0) : ∀ (f : Nat) (M : vC) (l2 : Int32), L_X10_isBelated_20 N l0 l1 kx55 kx63 f M l2 = some R → ∀ S, RC S z x N d0 M → cF S0 S z x N d0 → vi_W E X 3 Z 20 [(0, .ref (ad z x 10 (l0))), (1, .ref (l1)), (2, .int (l2))] [] S (cz M) 0 0 := by
  intro f
  induction f with
  | zero => intro M l2 h; cases h
  | succ f ih =>
    intro M l2 h S hR hF
    rw [L_X10_isBelated_20] at h
    refine vi_iload_n C dX10_isBelated_20 rfl rfl ?_
    refine vi_aload_n C dX10_isBelated_21 rfl rfl ?_
    refine c_geti (k := 10) (i := l0) C dX10_isBelated_22 rfl fX10_30 rfl (by decide) rfl hR hl0 ?_
    refine vi_icmp_ge (t' := 63) C dX10_isBelated_25 rfl (by decide) (fun c8 => ?_) (fun c8 => ?_)
    · replace h := iT c8 h
      exact (vi_cut [] trivial (hx63 _  h _ hR hF))
    · replace h := iN c8 h
      refine vi_aload_n C dX10_isBelated_28 rfl rfl ?_
      refine c_geti (k := 10) (i := l0) C dX10_isBelated_29 rfl fX10_37 rfl (by decide) rfl hR hl0 ?_
      refine vi_iload_n C dX10_isBelated_32 rfl rfl ?_
      refine vi_isub C dX10_isBelated_33 rfl ?_
      refine vi_aload_n C dX10_isBelated_34 rfl rfl ?_
      obtain ⟨c3, h⟩ := gdo h
      refine c_getiD C dX10_isBelated_35 rfl fX10_92 rfl (by decide) rfl hR c3 ?_
      refine vi_icmp_le (t' := 57) C dX10_isBelated_38 rfl (by decide) (fun c7 => ?_) (fun c7 => ?_)
      · replace h := iT c7 h
        refine vi_iincv (v := 1) C dX10_isBelated_57 rfl rfl (by decide) (by decide) ?_
        refine vi_goto (t' := 20) C dX10_isBelated_60 (by decide) ?_
        exact vi_cut [(0, .ref (ad z x 10 (l0))), (1, .ref (l1)), (2, .int ((l2 + (1))))] ⟨rfl, rfl, rfl, trivial⟩ (ih _ _ h _ hR hF)
      · replace h := iN c7 h
        refine vi_aload_n C dX10_isBelated_41 rfl rfl ?_
        refine c_gets (k := 10) (i := l0) C dX10_isBelated_42 rfl fX10_18 rfl (by decide) rfl hR hl0 rfl ?_
        refine vi_iload_n C dX10_isBelated_45 rfl rfl ?_
        refine c_iaload C dX10_isBelated_46 rfl rfl hR ⟨hl0, by decide⟩ h (fun v4 h => ?_)
        refine vi_aload_n C dX10_isBelated_47 rfl rfl ?_
        obtain ⟨c5, h⟩ := gdo h
        refine c_getiD C dX10_isBelated_48 rfl fX10_95 rfl (by decide) rfl hR c5 ?_
        refine vi_iand C dX10_isBelated_51 rfl ?_
        refine vi_if_eq (t' := 57) C dX10_isBelated_52 rfl (by decide) (fun c6 => ?_) (fun c6 => ?_)
        · replace h := iT c6 h
          refine vi_iincv (v := 1) C dX10_isBelated_57 rfl rfl (by decide) (by decide) ?_
          refine vi_goto (t' := 20) C dX10_isBelated_60 (by decide) ?_
          exact vi_cut [(0, .ref (ad z x 10 (l0))), (1, .ref (l1)), (2, .int ((l2 + (1))))] ⟨rfl, rfl, rfl, trivial⟩ (ih _ _ h _ hR hF)
        · replace h := iN c6 h
          exact (vi_cut [] trivial (hx55 _  h _ hR hF))

set_option maxRecDepth 100000 in
set_option maxHeartbeats 4000000 in
theorem p_X10_isBelated {N : Nat} {M : vC} {R : (vC × Int32)} {a0 : Nat} {a1 : Option Nat} (ha0 : a0 < N) (h : F_X10_isBelated N M a0 a1 = some R) {E : vE} {S0 : vS} {z x d0 : Nat} (hR : RC S0 z x N d0 M) : vi_Met E yX10_isBelated cX10_isBelated 3 (some .boolean) 0 0 0 [.ref (ad z x 10 (a0)), va_rf (a1)] S0 (cz M) (D1 S0 z x N d0 R) := by
  refine vi_met (by decide) (by cases a1 <;> exact Nat.le_of_ble_eq_true rfl) ?_
  intro X C
  rw [show lv_args 0 [.ref (ad z x 10 (a0)), va_rf (a1)] = [(0, .ref (ad z x 10 (a0))), (1, va_rf (a1))] from by cases a1 <;> rfl]
  have hF := cF.refl S0 z x N d0
  unfold F_X10_isBelated at h
  refine vi_aload_nq (o := (a1)) C dX10_isBelated_0 rfl rfl ?_
  obtain ⟨o1, rfl, hh⟩ := bdo h
  replace h := hh
  clear hh
  obtain ⟨c2, h⟩ := gdo h
  refine c_getiD C dX10_isBelated_1 rfl fX10_92 rfl (by decide) rfl hR c2 ?_
  refine vi_aload_n C dX10_isBelated_4 rfl rfl ?_
  refine c_geti (k := 10) (i := a0) C dX10_isBelated_5 rfl fX10_37 rfl (by decide) rfl hR ha0 ?_
  refine vi_aload_n C dX10_isBelated_8 rfl rfl ?_
  refine c_geti (k := 10) (i := a0) C dX10_isBelated_9 rfl fX10_30 rfl (by decide) rfl hR ha0 ?_
  refine vi_isub C dX10_isBelated_12 rfl ?_
  refine vi_icmp_ge (t' := 18) C dX10_isBelated_13 rfl (by decide) (fun c11 => ?_) (fun c11 => ?_)
  · replace h := iT c11 h
    refine vi_iconst (v := 0) C dX10_isBelated_18 rfl (by decide) ?_
    refine vi_istore_n C dX10_isBelated_19 rfl (by decide) ?_
    refine vi_cut [(0, .ref (ad z x 10 (a0))), (1, .ref (o1)), (2, .int ((0 : Int32)))] ⟨rfl, rfl, rfl, trivial⟩ (w_X10_isBelated_20 ha0 C ?_ ?_ _ _ _ h _ hR hF)
    · intro M9 h S hR hF
      refine vi_iconst (v := 1) C dX10_isBelated_55 rfl (by decide) ?_
      exact c_retz C dX10_isBelated_56 rfl hR hF ⟨Nat.zero_le _, Nat.zero_le _⟩ h
    · intro M10 h S hR hF
      refine vi_iconst (v := 0) C dX10_isBelated_63 rfl (by decide) ?_
      exact c_retz C dX10_isBelated_64 rfl hR hF ⟨Nat.zero_le _, Nat.zero_le _⟩ h
  · replace h := iN c11 h
    refine vi_iconst (v := 1) C dX10_isBelated_16 rfl (by decide) ?_
    exact c_retz C dX10_isBelated_17 rfl hR hF ⟨Nat.zero_le _, Nat.zero_le _⟩ h

def F_X8_init (N : Nat) (M : vC) (a0 : Nat) (a1 : Int32) (a2 : Int32) (a3 : Int32) (a4 : Int32) (a5 : Int32) (a6 : Option Nat) : Option vC := gd (cK M (a0) = 9) <| lt1 (uI M 800 (a0) (a1)) fun M1 => gd (cK M1 (a0) = 9) <| lt1 (uI M1 801 (a0) (a2)) fun M3 => gd (cK M3 (a0) = 9) <| lt1 (uI M3 802 (a0) (a3)) fun M5 => gd (cK M5 (a0) = 9) <| lt1 (uI M5 803 (a0) (a4)) fun M7 => gd (cK M7 (a0) = 9) <| lt1 (uI M7 804 (a0) (a5)) fun M9 => gd (cK M9 (a0) = 9) <| lt1 (uP M9 805 (a0) (a6)) fun M11 => some M11

set_option maxRecDepth 100000 in
set_option maxHeartbeats 4000000 in
theorem p_X8_init {N : Nat} {M : vC} {R : vC} {a0 : Nat} {a1 : Int32} {a2 : Int32} {a3 : Int32} {a4 : Int32} {a5 : Int32} {a6 : Option Nat}  (h : F_X8_init N M a0 a1 a2 a3 a4 a5 a6 = some R) {E : vE} {S0 : vS} {z x d0 : Nat} (hR : RC S0 z x N d0 M) : vi_Met E yX8_init cX8_init 7 none 1 0 0 [.ref (a0), .int (a1), .int (a2), .int (a3), .int (a4), .int (a5), va_rf (a6)] S0 (cz M) (D0 S0 z x N d0 R) := by
  refine vi_met (by decide) (by cases a6 <;> exact Nat.le_of_ble_eq_true rfl) ?_
  intro X C
  rw [show lv_args 0 [.ref (a0), .int (a1), .int (a2), .int (a3), .int (a4), .int (a5), va_rf (a6)] = [(0, .ref (a0)), (1, .int (a1)), (2, .int (a2)), (3, .int (a3)), (4, .int (a4)), (5, .int (a5)), (6, va_rf (a6))] from by cases a6 <;> rfl]
  have hF := cF.refl S0 z x N d0
  unfold F_X8_init at h
  refine vi_aload_n C dX8_init_0 rfl rfl ?_
  refine vi_objInit C dX8_init_1 rfl oiX8_3 oi_i oi_c (by decide) (Nat.le_of_ble_eq_true rfl) ?_
  refine vi_aload_n C dX8_init_4 rfl rfl ?_
  refine vi_iload_n C dX8_init_5 rfl rfl ?_
  obtain ⟨c2, h⟩ := gdo h
  refine c_putiD C dX8_init_6 rfl fpX8_9 rfl (by decide) rfl hR hF c2 h (fun S M1 h hR hF => ?_)
  refine vi_aload_n C dX8_init_9 rfl rfl ?_
  refine vi_iload_n C dX8_init_10 rfl rfl ?_
  obtain ⟨c4, h⟩ := gdo h
  refine c_putiD C dX8_init_11 rfl fpX8_15 rfl (by decide) rfl hR hF c4 h (fun S M3 h hR hF => ?_)
  refine vi_aload_n C dX8_init_14 rfl rfl ?_
  refine vi_iload_n C dX8_init_15 rfl rfl ?_
  obtain ⟨c6, h⟩ := gdo h
  refine c_putiD C dX8_init_16 rfl fpX8_18 rfl (by decide) rfl hR hF c6 h (fun S M5 h hR hF => ?_)
  refine vi_aload_n C dX8_init_19 rfl rfl ?_
  refine vi_iload C dX8_init_20 rfl rfl ?_
  obtain ⟨c8, h⟩ := gdo h
  refine c_putiD C dX8_init_22 rfl fpX8_21 rfl (by decide) rfl hR hF c8 h (fun S M7 h hR hF => ?_)
  refine vi_aload_n C dX8_init_25 rfl rfl ?_
  refine vi_iload C dX8_init_26 rfl rfl ?_
  obtain ⟨c10, h⟩ := gdo h
  refine c_putiD C dX8_init_28 rfl fpX8_24 rfl (by decide) rfl hR hF c10 h (fun S M9 h hR hF => ?_)
  refine vi_aload_n C dX8_init_31 rfl rfl ?_
  refine vi_aloadq (o := (a6)) C dX8_init_32 rfl rfl ?_
  obtain ⟨c12, h⟩ := gdo h
  refine c_putpD (v := (a6)) C dX8_init_34 rfl fpX8_27 hR hF c12 h (fun S M11 h hR hF => ?_)
  exact c_ret0 C dX8_init_37 rfl hR hF ⟨Nat.zero_le _, Nat.zero_le _⟩ h

def L_X8_takeFrom_39 {ρ : Type} (N : Nat) (l0 : Nat) (l1 : Int32) (l2 : Int32) (l3 : Int32) (l4 : Int32) (l5 : Int32) (l6 : Nat) (kx71 : vC → Option ρ) : Nat → vC → Int32 → Option ρ
  | 0, _, _ => none
  | f + 1, M, l7 => if (16 : Int32) ≤ l7 then (kx71 M ) else (b2 (F_X11_isIn N M (l7) (l5)) fun M13 v14 => if v14 = 0 then (L_X8_takeFrom_39 N l0 l1 l2 l3 l4 l5 l6 kx71 f M13 ((l7 + (1)))) else (b2 (F_X0_takeFour N M13 (l0)) fun M15 v16 => (dS M15 (l6) (l7) (v16)).bind fun M17 => L_X8_takeFrom_39 N l0 l1 l2 l3 l4 l5 l6 kx71 f M17 ((l7 + (1)))))

def F_X8_takeFrom (N : Nat) (M : vC) (a0 : Nat) : Option (vC × Option Nat) := b2 (F_X0_take N M (a0)) fun M1 v2 => b2 (F_X0_takeU N M1 (a0)) fun M3 v4 => b2 (F_X0_takeU N M3 (a0)) fun M5 v6 => b2 (F_X0_takeTwo N M5 (a0)) fun M7 v8 => b2 (F_X0_takeTwo N M7 (a0)) fun M9 v10 => lt1 (nD M9 21 16) fun M11 => L_X8_takeFrom_39 N (a0) ((v2 &&& (15 : Int32))) (v4) (v6) (v8) (v10) (cz M9) (fun (M20 : vC)  => lt1 (nQ M20) fun M21 => gd (cK M21 (cz M20) = 9) <| (F_X8_init N M21 (cz M20) ((v2 &&& (15 : Int32))) (v4) (v6) (v8) (v10) (some (cz M9))).bind fun M24 => some (M24, (some (cz M20)))) fu M11 ((0 : Int32))

set_option maxRecDepth 100000 in
set_option maxHeartbeats 4000000 in
theorem w_X8_takeFrom_39 {E : vE} {X : vX} {S0 : vS} {z x N d0 : Nat} {ρ : Type} {R : ρ} {Z : State → Prop} {l0 : Nat} {l1 : Int32} {l2 : Int32} {l3 : Int32} {l4 : Int32} {l5 : Int32} {l6 : Nat} {kx71 : vC → Option ρ} (hl0 : l0 < 3) {q n : Nat} (hqn : q ≤ 2 ∧ n ≤ 22) (C : vi_C E X yX8_takeFrom cX8_takeFrom 8 (some (.object "SnapCluster$Request")) 3 2 22 (45 * 3)) (hx71 : ∀ (M : vC) , kx71 M  = some R → ∀ S, RC S z x N d0 M → cF S0 S z x N d0 → vi_W E X 8 Z 71 [(1, .int (l1)), (2, .int (l2)), (3, .int (l3)), (4, .int (l4)), (5, .int (l5)), (6, .ref (l6))] [] S (cz M) q n) : ∀ (f : Nat) (M : vC) (l7 : Int32), L_X8_takeFrom_39 N l0 l1 l2 l3 l4 l5 l6 kx71 f M l7 = some R → ∀ S, RC S z x N d0 M → cF S0 S z x N d0 → vi_W E X 8 Z 39 [(0, .ref (ad z x 0 (l0))), (1, .int (l1)), (2, .int (l2)), (3, .int (l3)), (4, .int (l4)), (5, .int (l5)), (6, .ref (l6)), (7, .int (l7))] [] S (cz M) q n := by
  intro f
  induction f with
  | zero => intro M l7 h; cases h
  | succ f ih =>
    intro M l7 h S hR hF
    rw [L_X8_takeFrom_39] at h
    refine vi_iload C dX8_takeFrom_39 rfl rfl ?_
    refine vi_bipush (v := 16) C dX8_takeFrom_41 rfl (by decide) ?_
    refine vi_icmp_ge (t' := 71) C dX8_takeFrom_43 rfl (by decide) (fun c19 => ?_) (fun c19 => ?_)
    · replace h := iT c19 h
      exact (vi_cut [(1, .int (l1)), (2, .int (l2)), (3, .int (l3)), (4, .int (l4)), (5, .int (l5)), (6, .ref (l6))] ⟨rfl, rfl, rfl, rfl, rfl, rfl, trivial⟩ (hx71 _  h _ hR hF))
    · replace h := iN c19 h
      refine vi_iload C dX8_takeFrom_46 rfl rfl ?_
      refine vi_iload C dX8_takeFrom_48 rfl rfl ?_
      refine c_cs1 C [.int (l7), .int (l5)] [] dX8_takeFrom_50 rfl ivX8_43 isX11_isIn hR hF h (fun _ e => p_X11_isIn  e hR) rfl (Nat.le_of_ble_eq_true rfl) ⟨by decide, by decide⟩ ⟨by omega, by omega⟩ (fun S M13 v14 h hR hF => ?_)
      refine vi_if_eq (t' := 65) C dX8_takeFrom_53 rfl (by decide) (fun c18 => ?_) (fun c18 => ?_)
      · replace h := iT c18 h
        refine vi_iincv (v := 1) C dX8_takeFrom_65 rfl rfl (by decide) (by decide) ?_
        refine vi_goto (t' := 39) C dX8_takeFrom_68 (by decide) ?_
        exact vi_cut [(0, .ref (ad z x 0 (l0))), (1, .int (l1)), (2, .int (l2)), (3, .int (l3)), (4, .int (l4)), (5, .int (l5)), (6, .ref (l6)), (7, .int ((l7 + (1))))] ⟨rfl, rfl, rfl, rfl, rfl, rfl, rfl, rfl, trivial⟩ (ih _ _ h _ hR hF)
      · replace h := iN c18 h
        refine vi_aload C dX8_takeFrom_56 rfl rfl ?_
        refine vi_iload C dX8_takeFrom_58 rfl rfl ?_
        refine vi_aload_n C dX8_takeFrom_60 rfl rfl ?_
        refine c_cv1 (kc := 0) (a := (ad z x 0 (l0))) C [] [.int (l7), .ref (l6)] dX8_takeFrom_61 rfl ivX8_47 imX0_takeFour rfl rfl (rcK hR hl0) hR hF h (fun _ e => p_X0_takeFour hl0 e hR) rfl (Nat.le_of_ble_eq_true rfl) ⟨by decide, by decide⟩ ⟨by omega, by omega⟩ (fun S M15 v16 h hR hF => ?_)
        refine c_iastoreD C dX8_takeFrom_64 rfl hR hF h (fun S M17 h hR hF => ?_)
        refine vi_iincv (v := 1) C dX8_takeFrom_65 rfl rfl (by decide) (by decide) ?_
        refine vi_goto (t' := 39) C dX8_takeFrom_68 (by decide) ?_
        exact vi_cut [(0, .ref (ad z x 0 (l0))), (1, .int (l1)), (2, .int (l2)), (3, .int (l3)), (4, .int (l4)), (5, .int (l5)), (6, .ref (l6)), (7, .int ((l7 + (1))))] ⟨rfl, rfl, rfl, rfl, rfl, rfl, rfl, rfl, trivial⟩ (ih _ _ h _ hR hF)

set_option maxRecDepth 100000 in
set_option maxHeartbeats 4000000 in
theorem p_X8_takeFrom {N : Nat} {M : vC} {R : (vC × Option Nat)} {a0 : Nat} (ha0 : a0 < 3) (h : F_X8_takeFrom N M a0 = some R) {E : vE} {S0 : vS} {z x d0 : Nat} (hR : RC S0 z x N d0 M) : vi_Met E yX8_takeFrom cX8_takeFrom 8 (some (.object "SnapCluster$Request")) 3 2 22 [.ref (ad z x 0 (a0))] S0 (cz M) (D4 S0 z x N d0 R) := by
  refine vi_met (by decide) (Nat.le_of_ble_eq_true rfl) ?_
  intro X C
  have hF := cF.refl S0 z x N d0
  unfold F_X8_takeFrom at h
  refine vi_aload_n C dX8_takeFrom_0 rfl rfl ?_
  refine c_cv1 (kc := 0) (a := (ad z x 0 (a0))) C [] [] dX8_takeFrom_1 rfl ivX8_31 imX0_take rfl rfl (rcK hR ha0) hR hF h (fun _ e => p_X0_take ha0 e hR) rfl (Nat.le_of_ble_eq_true rfl) ⟨by decide, by decide⟩ ⟨by omega, by omega⟩ (fun S M1 v2 h hR hF => ?_)
  refine vi_bipush (v := 15) C dX8_takeFrom_4 rfl (by decide) ?_
  refine vi_iand C dX8_takeFrom_6 rfl ?_
  refine vi_istore_n C dX8_takeFrom_7 rfl (by decide) ?_
  refine vi_aload_n C dX8_takeFrom_8 rfl rfl ?_
  refine c_cv1 (kc := 0) (a := (ad z x 0 (a0))) C [] [] dX8_takeFrom_9 rfl ivX8_37 imX0_takeU rfl rfl (rcK hR ha0) hR hF h (fun _ e => p_X0_takeU ha0 e hR) rfl (Nat.le_of_ble_eq_true rfl) ⟨by decide, by decide⟩ ⟨by omega, by omega⟩ (fun S M3 v4 h hR hF => ?_)
  refine vi_istore_n C dX8_takeFrom_12 rfl (by decide) ?_
  refine vi_aload_n C dX8_takeFrom_13 rfl rfl ?_
  refine c_cv1 (kc := 0) (a := (ad z x 0 (a0))) C [] [] dX8_takeFrom_14 rfl ivX8_37 imX0_takeU rfl rfl (rcK hR ha0) hR hF h (fun _ e => p_X0_takeU ha0 e hR) rfl (Nat.le_of_ble_eq_true rfl) ⟨by decide, by decide⟩ ⟨by omega, by omega⟩ (fun S M5 v6 h hR hF => ?_)
  refine vi_istore_n C dX8_takeFrom_17 rfl (by decide) ?_
  refine vi_aload_n C dX8_takeFrom_18 rfl rfl ?_
  refine c_cv1 (kc := 0) (a := (ad z x 0 (a0))) C [] [] dX8_takeFrom_19 rfl ivX8_40 imX0_takeTwo rfl rfl (rcK hR ha0) hR hF h (fun _ e => p_X0_takeTwo ha0 e hR) rfl (Nat.le_of_ble_eq_true rfl) ⟨by decide, by decide⟩ ⟨by omega, by omega⟩ (fun S M7 v8 h hR hF => ?_)
  refine vi_istore C dX8_takeFrom_22 rfl (by decide) ?_
  refine vi_aload_n C dX8_takeFrom_24 rfl rfl ?_
  refine c_cv1 (kc := 0) (a := (ad z x 0 (a0))) C [] [] dX8_takeFrom_25 rfl ivX8_40 imX0_takeTwo rfl rfl (rcK hR ha0) hR hF h (fun _ e => p_X0_takeTwo ha0 e hR) rfl (Nat.le_of_ble_eq_true rfl) ⟨by decide, by decide⟩ ⟨by omega, by omega⟩ (fun S M9 v10 h hR hF => ?_)
  refine vi_istore C dX8_takeFrom_28 rfl (by decide) ?_
  refine vi_bipush (v := 16) C dX8_takeFrom_30 rfl (by decide) ?_
  refine c_newI (M := 16) C dX8_takeFrom_32 rfl (by decide) (by decide) (by decide) (by omega) (by omega) hR hF h (fun S M11 e12 h hR hF => ?_)
  refine vi_astore C dX8_takeFrom_34 rfl (by decide) ?_
  refine vi_iconst (v := 0) C dX8_takeFrom_36 rfl (by decide) ?_
  refine vi_istore C dX8_takeFrom_37 rfl (by decide) ?_
  refine vi_cut [(0, .ref (ad z x 0 (a0))), (1, .int ((v2 &&& (15 : Int32)))), (2, .int (v4)), (3, .int (v6)), (4, .int (v8)), (5, .int (v10)), (6, .ref (cz M9)), (7, .int ((0 : Int32)))] ⟨rfl, rfl, rfl, rfl, rfl, rfl, rfl, rfl, trivial⟩ (w_X8_takeFrom_39 (q := 1) (n := 16) ha0 ⟨by omega, by omega⟩ C ?_ _ _ _ h _ hR hF)
  · intro M20 h S hR hF
    refine c_new C dX8_takeFrom_71 rfl nlX8_10 (by omega) (by omega) hR hF h (fun S M21 e22 h hR hF => ?_)
    refine vi_dup C dX8_takeFrom_74 rfl rfl ?_
    refine vi_iload_n C dX8_takeFrom_75 rfl rfl ?_
    refine vi_iload_n C dX8_takeFrom_76 rfl rfl ?_
    refine vi_iload_n C dX8_takeFrom_77 rfl rfl ?_
    refine vi_iload C dX8_takeFrom_78 rfl rfl ?_
    refine vi_iload C dX8_takeFrom_80 rfl rfl ?_
    refine vi_aload C dX8_takeFrom_82 rfl rfl ?_
    obtain ⟨c23, h⟩ := gdo h
    refine c_ci (ret' := none) (a := (cz M20)) C [.int ((v2 &&& (15 : Int32))), .int (v4), .int (v6), .int (v8), .int (v10), .ref (cz M9)] [.ref (cz M20)] dX8_takeFrom_84 rfl ivX8_50 iiX8_init hR hF h (fun _ e => p_X8_init  e hR) rfl (Nat.le_of_ble_eq_true rfl) ⟨by decide, by decide⟩ ⟨by omega, by omega⟩ (fun S M24 h hR hF => ?_)
    exact c_ret4 (v := (some (cz M20))) C dX8_takeFrom_87 rfl (Or.inl ⟨_, rfl⟩) hR hF ⟨by omega, by omega⟩ h

def F_X7_replayAccepted (N : Nat) (M : vC) (a0 : Nat) : Option vC := b2 (F_X0_takeU N M (1)) fun M1 v2 => lt1 (uI M1 712 (a0) (v2)) fun M3 => b2 (F_X0_takeU N M3 (1)) fun M4 v5 => if v5 = ((cI M4 1007 (a0)) + (1 : Int32)) then (b2 (F_X8_takeFrom N M4 (1)) fun M6 v7 => lt1 (uP M6 713 (a0) (v7)) fun M8 => lt1 (uI M8 714 (a0) ((cI M8 712 (a0)))) fun M9 => some M9) else (some M4)

set_option maxRecDepth 100000 in
set_option maxHeartbeats 4000000 in
theorem p_X7_replayAccepted {N : Nat} {M : vC} {R : vC} {a0 : Nat} (ha0 : a0 < N) (h : F_X7_replayAccepted N M a0 = some R) {E : vE} {S0 : vS} {z x d0 : Nat} (hR : RC S0 z x N d0 M) : vi_Met E yX7_replayAccepted cX7_replayAccepted 2 none 4 2 22 [.ref (ad z x 7 (a0))] S0 (cz M) (D0 S0 z x N d0 R) := by
  refine vi_met (by decide) (Nat.le_of_ble_eq_true rfl) ?_
  intro X C
  have hF := cF.refl S0 z x N d0
  unfold F_X7_replayAccepted at h
  refine vi_aload_n C dX7_replayAccepted_0 rfl rfl ?_
  refine vi_aload_n C dX7_replayAccepted_1 rfl rfl ?_
  refine c_gets (k := 7) (i := a0) C dX7_replayAccepted_2 rfl fX7_62 rfl (by decide) rfl hR ha0 rfl ?_
  refine c_cv1 (kc := 0) (a := (ad z x 0 (1))) C [] [.ref (ad z x 7 (a0))] dX7_replayAccepted_5 rfl ivX7_167 imX0_takeU rfl rfl (rcK hR (show 1 < 3 from by decide)) hR hF h (fun _ e => p_X0_takeU (show 1 < 3 from by decide) e hR) rfl (Nat.le_of_ble_eq_true rfl) ⟨by decide, by decide⟩ ⟨by omega, by omega⟩ (fun S M1 v2 h hR hF => ?_)
  refine c_puti (k := 7) (i := a0) C dX7_replayAccepted_8 rfl (fpX7_78 _) rfl (by decide) rfl hR hF ha0 h (fun S M3 h hR hF => ?_)
  refine vi_aload_n C dX7_replayAccepted_11 rfl rfl ?_
  refine c_gets (k := 7) (i := a0) C dX7_replayAccepted_12 rfl fX7_62 rfl (by decide) rfl hR ha0 rfl ?_
  refine c_cv1 (kc := 0) (a := (ad z x 0 (1))) C [] [] dX7_replayAccepted_15 rfl ivX7_167 imX0_takeU rfl rfl (rcK hR (show 1 < 3 from by decide)) hR hF h (fun _ e => p_X0_takeU (show 1 < 3 from by decide) e hR) rfl (Nat.le_of_ble_eq_true rfl) ⟨by decide, by decide⟩ ⟨by omega, by omega⟩ (fun S M4 v5 h hR hF => ?_)
  refine vi_istore_n C dX7_replayAccepted_18 rfl (by decide) ?_
  refine vi_iload_n C dX7_replayAccepted_19 rfl rfl ?_
  refine vi_aload_n C dX7_replayAccepted_20 rfl rfl ?_
  refine c_gets (k := 7) (i := a0) C dX7_replayAccepted_21 rfl fX7_46 rfl (by decide) rfl hR ha0 rfl ?_
  refine c_geti (k := 10) (i := a0) C dX7_replayAccepted_24 rfl fX7_66 rfl (by decide) rfl hR ha0 ?_
  refine vi_iconst (v := 1) C dX7_replayAccepted_27 rfl (by decide) ?_
  refine vi_iadd C dX7_replayAccepted_28 rfl ?_
  refine vi_icmp_ne (t' := 51) C dX7_replayAccepted_29 rfl (by decide) (fun c10 => ?_) (fun c10 => ?_)
  · replace h := iN c10 h
    exact c_ret0 C dX7_replayAccepted_51 rfl hR hF ⟨Nat.zero_le _, Nat.zero_le _⟩ h
  · replace h := iT c10 h
    refine vi_aload_n C dX7_replayAccepted_32 rfl rfl ?_
    refine vi_aload_n C dX7_replayAccepted_33 rfl rfl ?_
    refine c_gets (k := 7) (i := a0) C dX7_replayAccepted_34 rfl fX7_62 rfl (by decide) rfl hR ha0 rfl ?_
    refine c_cs4 C [.ref (ad z x 0 (1))] [.ref (ad z x 7 (a0))] dX7_replayAccepted_37 rfl ivX7_173 isX8_takeFrom hR hF h (fun _ e => p_X8_takeFrom (show 1 < 3 from by decide) e hR) rfl (Nat.le_of_ble_eq_true rfl) ⟨by decide, by decide⟩ ⟨by omega, by omega⟩ (fun S M6 v7 h hR hF => ?_)
    refine c_putp (k := 7) (i := a0) (v := (v7)) C dX7_replayAccepted_40 rfl (fpX7_81 _) rfl (by decide) rfl hR hF ha0 rfl h (fun S M8 h hR hF => ?_)
    refine vi_aload_n C dX7_replayAccepted_43 rfl rfl ?_
    refine vi_aload_n C dX7_replayAccepted_44 rfl rfl ?_
    refine c_geti (k := 7) (i := a0) C dX7_replayAccepted_45 rfl fX7_78 rfl (by decide) rfl hR ha0 ?_
    refine c_puti (k := 7) (i := a0) C dX7_replayAccepted_48 rfl (fpX7_85 _) rfl (by decide) rfl hR hF ha0 h (fun S M9 h hR hF => ?_)
    exact c_ret0 C dX7_replayAccepted_51 rfl hR hF ⟨by omega, by omega⟩ h

def F_X7_note (N : Nat) (M : vC) (a0 : Nat) : Option (vC × Int32) := (F_X2_startImage N M (a0)).bind fun M1 => (F_X2_addRecord N M1 (a0) (1)).bind fun M2 => b2 (F_X2_writeNote N M2 (a0)) fun M3 v4 => if v4 = 0 then ((F_X7_goDown N M3 (a0)).bind fun M5 => zb ((0 : Int32)) (some (M5, (0 : Int32)))) else (zb ((1 : Int32)) (some (M3, (1 : Int32))))

set_option maxRecDepth 100000 in
set_option maxHeartbeats 4000000 in
theorem p_X7_note {N : Nat} {M : vC} {R : (vC × Int32)} {a0 : Nat} (ha0 : a0 < N) (h : F_X7_note N M a0 = some R) {E : vE} {S0 : vS} {z x d0 : Nat} (hR : RC S0 z x N d0 M) : vi_Met E yX7_note cX7_note 1 (some .boolean) 3 0 0 [.ref (ad z x 7 (a0))] S0 (cz M) (D1 S0 z x N d0 R) := by
  refine vi_met (by decide) (Nat.le_of_ble_eq_true rfl) ?_
  intro X C
  have hF := cF.refl S0 z x N d0
  unfold F_X7_note at h
  refine vi_aload_n C dX7_note_0 rfl rfl ?_
  refine c_gets (k := 7) (i := a0) C dX7_note_1 rfl fX7_50 rfl (by decide) rfl hR ha0 rfl ?_
  refine c_cv0 (kc := 2) (a := (ad z x 2 (a0))) C [] [] dX7_note_4 rfl ivX7_187 imX2_startImage rfl rfl (rcK hR ha0) hR hF h (fun _ e => p_X2_startImage ha0 e hR) rfl (Nat.le_of_ble_eq_true rfl) ⟨by decide, by decide⟩ ⟨Nat.le_refl _, Nat.le_refl _⟩ (fun S M1 h hR hF => ?_)
  refine vi_aload_n C dX7_note_7 rfl rfl ?_
  refine c_gets (k := 7) (i := a0) C dX7_note_8 rfl fX7_50 rfl (by decide) rfl hR ha0 rfl ?_
  refine vi_aload_n C dX7_note_11 rfl rfl ?_
  refine c_gets (k := 7) (i := a0) C dX7_note_12 rfl fX7_62 rfl (by decide) rfl hR ha0 rfl ?_
  refine c_cv0 (kc := 2) (a := (ad z x 2 (a0))) C [.ref (ad z x 0 (1))] [] dX7_note_15 rfl ivX7_190 imX2_addRecord rfl rfl (rcK hR ha0) hR hF h (fun _ e => p_X2_addRecord ha0 (show 1 < 3 from by decide) e hR) rfl (Nat.le_of_ble_eq_true rfl) ⟨by decide, by decide⟩ ⟨Nat.le_refl _, Nat.le_refl _⟩ (fun S M2 h hR hF => ?_)
  refine vi_aload_n C dX7_note_18 rfl rfl ?_
  refine c_gets (k := 7) (i := a0) C dX7_note_19 rfl fX7_50 rfl (by decide) rfl hR ha0 rfl ?_
  refine c_cv1 (kc := 2) (a := (ad z x 2 (a0))) C [] [] dX7_note_22 rfl ivX7_193 imX2_writeNote rfl rfl (rcK hR ha0) hR hF h (fun _ e => p_X2_writeNote ha0 e hR) rfl (Nat.le_of_ble_eq_true rfl) ⟨by decide, by decide⟩ ⟨Nat.le_refl _, Nat.le_refl _⟩ (fun S M3 v4 h hR hF => ?_)
  refine vi_if_eq (t' := 30) C dX7_note_25 rfl (by decide) (fun c6 => ?_) (fun c6 => ?_)
  · replace h := iT c6 h
    refine vi_aload_n C dX7_note_30 rfl rfl ?_
    refine c_cv0 (kc := 7) (a := (ad z x 7 (a0))) C [] [] dX7_note_31 rfl ivX7_196 imX7_goDown rfl rfl (rcK hR ha0) hR hF h (fun _ e => p_X7_goDown ha0 e hR) rfl (Nat.le_of_ble_eq_true rfl) ⟨by decide, by decide⟩ ⟨Nat.le_refl _, Nat.le_refl _⟩ (fun S M5 h hR hF => ?_)
    refine vi_iconst (v := 0) C dX7_note_34 rfl (by decide) ?_
    exact c_retz C dX7_note_35 rfl hR hF ⟨Nat.zero_le _, Nat.zero_le _⟩ h
  · replace h := iN c6 h
    refine vi_iconst (v := 1) C dX7_note_28 rfl (by decide) ?_
    exact c_retz C dX7_note_29 rfl hR hF ⟨Nat.zero_le _, Nat.zero_le _⟩ h

def F_X9_endBy (N : Nat) (M : vC) (a0 : Nat) (a1 : Int32) : Option vC := if a1 = (1 : Int32) then ((F_X9_end N M (a0) ((3 : Int32))).bind fun M2 => some M2) else ((F_X9_end N M (a0) ((4 : Int32))).bind fun M1 => some M1)

set_option maxRecDepth 100000 in
set_option maxHeartbeats 4000000 in
theorem p_X9_endBy {N : Nat} {M : vC} {R : vC} {a0 : Nat} {a1 : Int32} (ha0 : a0 < 16) (h : F_X9_endBy N M a0 a1 = some R) {E : vE} {S0 : vS} {z x d0 : Nat} (hR : RC S0 z x N d0 M) : vi_Met E yX9_endBy cX9_endBy 2 none 1 0 0 [.ref (ad z x 9 (a0)), .int (a1)] S0 (cz M) (D0 S0 z x N d0 R) := by
  refine vi_met (by decide) (Nat.le_of_ble_eq_true rfl) ?_
  intro X C
  have hF := cF.refl S0 z x N d0
  unfold F_X9_endBy at h
  refine vi_aload_n C dX9_endBy_0 rfl rfl ?_
  refine vi_iload_n C dX9_endBy_1 rfl rfl ?_
  refine vi_iconst (v := 1) C dX9_endBy_2 rfl (by decide) ?_
  refine vi_icmp_ne (t' := 10) C dX9_endBy_3 rfl (by decide) (fun c3 => ?_) (fun c3 => ?_)
  · replace h := iN c3 h
    refine vi_iconst (v := 4) C dX9_endBy_10 rfl (by decide) ?_
    refine c_cv0 (kc := 9) (a := (ad z x 9 (a0))) C [.int ((4 : Int32))] [] dX9_endBy_11 rfl ivX9_62 imX9_end rfl rfl (rcK hR ha0) hR hF h (fun _ e => p_X9_end ha0 e hR) rfl (Nat.le_of_ble_eq_true rfl) ⟨by decide, by decide⟩ ⟨Nat.le_refl _, Nat.le_refl _⟩ (fun S M1 h hR hF => ?_)
    exact c_ret0 C dX9_endBy_14 rfl hR hF ⟨Nat.zero_le _, Nat.zero_le _⟩ h
  · replace h := iT c3 h
    refine vi_iconst (v := 3) C dX9_endBy_6 rfl (by decide) ?_
    refine vi_goto (t' := 11) C dX9_endBy_7 (by decide) ?_
    refine c_cv0 (kc := 9) (a := (ad z x 9 (a0))) C [.int ((3 : Int32))] [] dX9_endBy_11 rfl ivX9_62 imX9_end rfl rfl (rcK hR ha0) hR hF h (fun _ e => p_X9_end ha0 e hR) rfl (Nat.le_of_ble_eq_true rfl) ⟨by decide, by decide⟩ ⟨Nat.le_refl _, Nat.le_refl _⟩ (fun S M2 h hR hF => ?_)
    exact c_ret0 C dX9_endBy_14 rfl hR hF ⟨Nat.zero_le _, Nat.zero_le _⟩ h

def L_X7_tellAll_31 {ρ : Type} (N : Nat) (l0 : Nat) (kx98 : vC → Option ρ) : Nat → vC → Int32 → Option ρ
  | 0, _, _ => none
  | f + 1, M, l1 => if (16 : Int32) ≤ l1 then (kx98 M ) else ((ix 16 (l1)).bind fun v6 => if (cI M 901 (v6)) = (2 : Int32) then (if (cI M 903 (v6)) = (cI M 700 (l0)) then ((cG M 1002 (l0) (l1)).bind fun v8 => if (cI M 902 (v6)) = v8 then ((cG M 1003 (l0) (l1)).bind fun v9 => (F_X9_endBy N M (v6) (v9)).bind fun M10 => L_X7_tellAll_31 N l0 kx98 f M10 ((l1 + (1)))) else (L_X7_tellAll_31 N l0 kx98 f M ((l1 + (1))))) else (L_X7_tellAll_31 N l0 kx98 f M ((l1 + (1))))) else (L_X7_tellAll_31 N l0 kx98 f M ((l1 + (1)))))

def F_X7_tellAll (N : Nat) (M : vC) (a0 : Nat) : Option vC := lt1 (uI M 716 (a0) ((0 : Int32))) fun M1 => jn (fun (M5 : vC) => L_X7_tellAll_31 N (a0) (fun (M15 : vC)  => (F_X6_dropDecided N M15 (a0) (a0)).bind fun M16 => some M16) fu M5 ((0 : Int32))) (fun k29_2 => if (cI M1 1007 (a0)) < (cI M1 501 (a0)) then ((k29_2 (M1))) else ((F_X5_drop N M1 (a0)).bind fun M3 => (k29_2 (M3))))

set_option maxRecDepth 100000 in
set_option maxHeartbeats 4000000 in
theorem w_X7_tellAll_31 {E : vE} {X : vX} {S0 : vS} {z x N d0 : Nat} {ρ : Type} {R : ρ} {Z : State → Prop} {l0 : Nat} {kx98 : vC → Option ρ} (hl0 : l0 < N) (C : vi_C E X yX7_tellAll cX7_tellAll 3 none 2 0 0 (45 * 2)) (hx98 : ∀ (M : vC) , kx98 M  = some R → ∀ S, RC S z x N d0 M → cF S0 S z x N d0 → vi_W E X 3 Z 98 [(0, .ref (ad z x 7 (l0)))] [] S (cz M) 0 0) : ∀ (f : Nat) (M : vC) (l1 : Int32), L_X7_tellAll_31 N l0 kx98 f M l1 = some R → ∀ S, RC S z x N d0 M → cF S0 S z x N d0 → vi_W E X 3 Z 31 [(0, .ref (ad z x 7 (l0))), (1, .int (l1))] [] S (cz M) 0 0 := by
  intro f
  induction f with
  | zero => intro M l1 h; cases h
  | succ f ih =>
    intro M l1 h S hR hF
    rw [L_X7_tellAll_31] at h
    refine vi_iload_n C dX7_tellAll_31 rfl rfl ?_
    refine vi_bipush (v := 16) C dX7_tellAll_32 rfl (by decide) ?_
    refine vi_icmp_ge (t' := 98) C dX7_tellAll_34 rfl (by decide) (fun c14 => ?_) (fun c14 => ?_)
    · replace h := iT c14 h
      exact (vi_cut [(0, .ref (ad z x 7 (l0)))] ⟨rfl, trivial⟩ (hx98 _  h _ hR hF))
    · replace h := iN c14 h
      refine vi_aload_n C dX7_tellAll_37 rfl rfl ?_
      refine c_gets (k := 7) (i := l0) C dX7_tellAll_38 rfl fX7_58 rfl (by decide) rfl hR hl0 rfl ?_
      refine vi_iload_n C dX7_tellAll_41 rfl rfl ?_
      refine c_aaloadS C dX7_tellAll_42 rfl hR h (fun v6 c7 h => ?_)
      refine vi_astore_n C dX7_tellAll_43 rfl (by decide) ?_
      refine vi_aload_n C dX7_tellAll_44 rfl rfl ?_
      refine c_geti (k := 9) (i := v6) C dX7_tellAll_45 rfl fX7_118 rfl (by decide) rfl hR c7 ?_
      refine vi_iconst (v := 2) C dX7_tellAll_48 rfl (by decide) ?_
      refine vi_icmp_ne (t' := 92) C dX7_tellAll_49 rfl (by decide) (fun c13 => ?_) (fun c13 => ?_)
      · replace h := iN c13 h
        refine vi_iincv (v := 1) C dX7_tellAll_92 rfl rfl (by decide) (by decide) ?_
        refine vi_goto (t' := 31) C dX7_tellAll_95 (by decide) ?_
        exact vi_cut [(0, .ref (ad z x 7 (l0))), (1, .int ((l1 + (1))))] ⟨rfl, rfl, trivial⟩ (ih _ _ h _ hR hF)
      · replace h := iT c13 h
        refine vi_aload_n C dX7_tellAll_52 rfl rfl ?_
        refine c_geti (k := 9) (i := v6) C dX7_tellAll_53 rfl fX7_123 rfl (by decide) rfl hR c7 ?_
        refine vi_aload_n C dX7_tellAll_56 rfl rfl ?_
        refine c_geti (k := 7) (i := l0) C dX7_tellAll_57 rfl fX7_36 rfl (by decide) rfl hR hl0 ?_
        refine vi_icmp_ne (t' := 92) C dX7_tellAll_60 rfl (by decide) (fun c12 => ?_) (fun c12 => ?_)
        · replace h := iN c12 h
          refine vi_iincv (v := 1) C dX7_tellAll_92 rfl rfl (by decide) (by decide) ?_
          refine vi_goto (t' := 31) C dX7_tellAll_95 (by decide) ?_
          exact vi_cut [(0, .ref (ad z x 7 (l0))), (1, .int ((l1 + (1))))] ⟨rfl, rfl, trivial⟩ (ih _ _ h _ hR hF)
        · replace h := iT c12 h
          refine vi_aload_n C dX7_tellAll_63 rfl rfl ?_
          refine c_geti (k := 9) (i := v6) C dX7_tellAll_64 rfl fX7_245 rfl (by decide) rfl hR c7 ?_
          refine vi_aload_n C dX7_tellAll_67 rfl rfl ?_
          refine c_gets (k := 7) (i := l0) C dX7_tellAll_68 rfl fX7_46 rfl (by decide) rfl hR hl0 rfl ?_
          refine c_gets (k := 10) (i := l0) C dX7_tellAll_71 rfl fX7_248 rfl (by decide) rfl hR hl0 rfl ?_
          refine vi_iload_n C dX7_tellAll_74 rfl rfl ?_
          refine c_iaload C dX7_tellAll_75 rfl rfl hR ⟨hl0, by decide⟩ h (fun v8 h => ?_)
          refine vi_icmp_ne (t' := 92) C dX7_tellAll_76 rfl (by decide) (fun c11 => ?_) (fun c11 => ?_)
          · replace h := iN c11 h
            refine vi_iincv (v := 1) C dX7_tellAll_92 rfl rfl (by decide) (by decide) ?_
            refine vi_goto (t' := 31) C dX7_tellAll_95 (by decide) ?_
            exact vi_cut [(0, .ref (ad z x 7 (l0))), (1, .int ((l1 + (1))))] ⟨rfl, rfl, trivial⟩ (ih _ _ h _ hR hF)
          · replace h := iT c11 h
            refine vi_aload_n C dX7_tellAll_79 rfl rfl ?_
            refine vi_aload_n C dX7_tellAll_80 rfl rfl ?_
            refine c_gets (k := 7) (i := l0) C dX7_tellAll_81 rfl fX7_46 rfl (by decide) rfl hR hl0 rfl ?_
            refine c_gets (k := 10) (i := l0) C dX7_tellAll_84 rfl fX7_252 rfl (by decide) rfl hR hl0 rfl ?_
            refine vi_iload_n C dX7_tellAll_87 rfl rfl ?_
            refine c_iaload C dX7_tellAll_88 rfl rfl hR ⟨hl0, by decide⟩ h (fun v9 h => ?_)
            refine c_cv0 (kc := 9) (a := (ad z x 9 (v6))) C [.int (v9)] [] dX7_tellAll_89 rfl ivX7_255 imX9_endBy rfl rfl (rcK hR c7) hR hF h (fun _ e => p_X9_endBy c7 e hR) rfl (Nat.le_of_ble_eq_true rfl) ⟨by decide, by decide⟩ ⟨Nat.le_refl _, Nat.le_refl _⟩ (fun S M10 h hR hF => ?_)
            refine vi_iincv (v := 1) C dX7_tellAll_92 rfl rfl (by decide) (by decide) ?_
            refine vi_goto (t' := 31) C dX7_tellAll_95 (by decide) ?_
            exact vi_cut [(0, .ref (ad z x 7 (l0))), (1, .int ((l1 + (1))))] ⟨rfl, rfl, trivial⟩ (ih _ _ h _ hR hF)

set_option maxRecDepth 100000 in
set_option maxHeartbeats 4000000 in
theorem p_X7_tellAll {N : Nat} {M : vC} {R : vC} {a0 : Nat} (ha0 : a0 < N) (h : F_X7_tellAll N M a0 = some R) {E : vE} {S0 : vS} {z x d0 : Nat} (hR : RC S0 z x N d0 M) : vi_Met E yX7_tellAll cX7_tellAll 3 none 2 0 0 [.ref (ad z x 7 (a0))] S0 (cz M) (D0 S0 z x N d0 R) := by
  refine vi_met (by decide) (Nat.le_of_ble_eq_true rfl) ?_
  intro X C
  have hF := cF.refl S0 z x N d0
  unfold F_X7_tellAll at h
  refine vi_aload_n C dX7_tellAll_0 rfl rfl ?_
  refine vi_iconst (v := 0) C dX7_tellAll_1 rfl (by decide) ?_
  refine c_puti (k := 7) (i := a0) C dX7_tellAll_2 rfl (fpX7_111 _) rfl (by decide) rfl hR hF ha0 h (fun S M1 h hR hF => ?_)
  refine vi_aload_n C dX7_tellAll_5 rfl rfl ?_
  refine c_gets (k := 7) (i := a0) C dX7_tellAll_6 rfl fX7_21 rfl (by decide) rfl hR ha0 rfl ?_
  refine c_geti (k := 5) (i := a0) C dX7_tellAll_9 rfl fX7_114 rfl (by decide) rfl hR ha0 ?_
  refine vi_aload_n C dX7_tellAll_12 rfl rfl ?_
  refine c_gets (k := 7) (i := a0) C dX7_tellAll_13 rfl fX7_46 rfl (by decide) rfl hR ha0 rfl ?_
  refine c_geti (k := 10) (i := a0) C dX7_tellAll_16 rfl fX7_66 rfl (by decide) rfl hR ha0 ?_
  refine r_jn h (fun k => ∀ (M5 : vC), k M5 = some R → ∀ S, RC S z x N d0 M5 → cF S0 S z x N d0 → vi_W E X 3 (vi_Z E X (D0 S0 z x N d0 R) 0 0) 29 [(0, .ref (ad z x 7 (a0)))] [] S (cz M5) 0 0) ?_ ?_
  · intro M5 h S hR hF
    refine vi_iconst (v := 0) C dX7_tellAll_29 rfl (by decide) ?_
    refine vi_istore_n C dX7_tellAll_30 rfl (by decide) ?_
    refine vi_cut [(0, .ref (ad z x 7 (a0))), (1, .int ((0 : Int32)))] ⟨rfl, rfl, trivial⟩ (w_X7_tellAll_31 ha0 C ?_ _ _ _ h _ hR hF)
    · intro M15 h S hR hF
      refine vi_aload_n C dX7_tellAll_98 rfl rfl ?_
      refine c_gets (k := 7) (i := a0) C dX7_tellAll_99 rfl fX7_12 rfl (by decide) rfl hR ha0 rfl ?_
      refine vi_aload_n C dX7_tellAll_102 rfl rfl ?_
      refine c_gets (k := 7) (i := a0) C dX7_tellAll_103 rfl fX7_46 rfl (by decide) rfl hR ha0 rfl ?_
      refine c_cv0 (kc := 6) (a := (ad z x 6 (a0))) C [.ref (ad z x 10 (a0))] [] dX7_tellAll_106 rfl ivX7_258 imX6_dropDecided rfl rfl (rcK hR ha0) hR hF h (fun _ e => p_X6_dropDecided ha0 ha0 e hR) rfl (Nat.le_of_ble_eq_true rfl) ⟨by decide, by decide⟩ ⟨Nat.le_refl _, Nat.le_refl _⟩ (fun S M16 h hR hF => ?_)
      exact c_ret0 C dX7_tellAll_109 rfl hR hF ⟨Nat.zero_le _, Nat.zero_le _⟩ h
  · intro k29_2 h29_2 h
    refine vi_icmp_gt (t' := 29) C dX7_tellAll_19 rfl (by decide) (fun c4 => ?_) (fun c4 => ?_)
    · replace h := iT c4 h
      exact (vi_cut [(0, .ref (ad z x 7 (a0)))] ⟨rfl, trivial⟩ (h29_2 _ h _ hR hF))
    · replace h := iN c4 h
      refine vi_aload_n C dX7_tellAll_22 rfl rfl ?_
      refine c_gets (k := 7) (i := a0) C dX7_tellAll_23 rfl fX7_21 rfl (by decide) rfl hR ha0 rfl ?_
      refine c_cv0 (kc := 5) (a := (ad z x 5 (a0))) C [] [] dX7_tellAll_26 rfl ivX7_156 imX5_drop rfl rfl (rcK hR ha0) hR hF h (fun _ e => p_X5_drop ha0 e hR) rfl (Nat.le_of_ble_eq_true rfl) ⟨by decide, by decide⟩ ⟨Nat.le_refl _, Nat.le_refl _⟩ (fun S M3 h hR hF => ?_)
      exact (vi_cut [(0, .ref (ad z x 7 (a0)))] ⟨rfl, trivial⟩ (h29_2 _ h _ hR hF))

def F_X7_sendTo (N : Nat) (M : vC) (a0 : Nat) (a1 : Int32) (a2 : Int32) (a3 : Int32) (a4 : Int32) : Option (vC × Option Nat) := b2 (F_X3_send N M ) fun M1 v2 => (v2).bind fun o3 => gd (o3 < 202) <| (F_X1_address N M1 (o3) (a2) ((cI M1 700 (a0))) (a1)).bind fun M5 => (F_X1_say N M5 (o3) (a3) (a4)).bind fun M6 => some (M6, (some (o3)))

set_option maxRecDepth 100000 in
set_option maxHeartbeats 4000000 in
theorem p_X7_sendTo {N : Nat} {M : vC} {R : (vC × Option Nat)} {a0 : Nat} {a1 : Int32} {a2 : Int32} {a3 : Int32} {a4 : Int32} (ha0 : a0 < N) (h : F_X7_sendTo N M a0 a1 a2 a3 a4 = some R) {E : vE} {S0 : vS} {z x d0 : Nat} (hR : RC S0 z x N d0 M) : vi_Met E yX7_sendTo cX7_sendTo 6 (some (.object "SnapCluster$Frame")) 1 0 0 [.ref (ad z x 7 (a0)), .int (a1), .int (a2), .int (a3), .int (a4)] S0 (cz M) (D3 1 S0 z x N d0 R) := by
  refine vi_met (by decide) (Nat.le_of_ble_eq_true rfl) ?_
  intro X C
  have hF := cF.refl S0 z x N d0
  unfold F_X7_sendTo at h
  refine vi_aload_n C dX7_sendTo_0 rfl rfl ?_
  refine c_gets (k := 7) (i := a0) C dX7_sendTo_1 rfl fX7_54 rfl (by decide) rfl hR ha0 rfl ?_
  refine c_cv3 (kc := 3) (a := (ad z x 3 (0))) (kt := 1) C [] [] dX7_sendTo_4 rfl ivX7_262 imX3_send rfl rfl (rcK hR (rfl : 0 = 0)) hR hF h (fun _ e => p_X3_send  e hR) rfl (Nat.le_of_ble_eq_true rfl) ⟨by decide, by decide⟩ ⟨Nat.le_refl _, Nat.le_refl _⟩ (fun S M1 v2 h hR hF => ?_)
  refine vi_astoreq (o := ((v2).map (ad z x 1))) C dX7_sendTo_7 rfl (by decide) ?_
  refine vi_aloadq (o := ((v2).map (ad z x 1))) C dX7_sendTo_9 rfl rfl ?_
  refine vi_iload_n C dX7_sendTo_11 rfl rfl ?_
  refine vi_aload_n C dX7_sendTo_12 rfl rfl ?_
  refine c_geti (k := 7) (i := a0) C dX7_sendTo_13 rfl fX7_36 rfl (by decide) rfl hR ha0 ?_
  refine vi_iload_n C dX7_sendTo_16 rfl rfl ?_
  obtain ⟨o3, rfl, hh⟩ := bdo h
  replace h := hh
  clear hh
  obtain ⟨c4, h⟩ := gdo h
  refine c_cv0 (kc := 1) (a := (ad z x 1 (o3))) C [.int (a2), .int ((cI M1 700 (a0))), .int (a1)] [] dX7_sendTo_17 rfl ivX7_268 imX1_address rfl rfl (rcK hR c4) hR hF h (fun _ e => p_X1_address c4 e hR) rfl (Nat.le_of_ble_eq_true rfl) ⟨by decide, by decide⟩ ⟨Nat.le_refl _, Nat.le_refl _⟩ (fun S M5 h hR hF => ?_)
  refine vi_aload C dX7_sendTo_20 rfl rfl ?_
  refine vi_iload_n C dX7_sendTo_22 rfl rfl ?_
  refine vi_iload C dX7_sendTo_23 rfl rfl ?_
  refine c_cv0 (kc := 1) (a := (ad z x 1 (o3))) C [.int (a3), .int (a4)] [] dX7_sendTo_25 rfl ivX7_274 imX1_say rfl rfl (rcK hR c4) hR hF h (fun _ e => p_X1_say c4 e hR) rfl (Nat.le_of_ble_eq_true rfl) ⟨by decide, by decide⟩ ⟨Nat.le_refl _, Nat.le_refl _⟩ (fun S M6 h hR hF => ?_)
  refine vi_aload C dX7_sendTo_28 rfl rfl ?_
  exact c_ret3 (k := 1) (v := (some (o3))) C dX7_sendTo_30 rfl (Or.inl ⟨_, rfl⟩) hR hF ⟨Nat.zero_le _, Nat.zero_le _⟩ h

def L_X7_sendToAll_3 {ρ : Type} (N : Nat) (l0 : Nat) (l1 : Int32) (l2 : Int32) (l3 : Int32) (l4 : (Option Nat)) (kx42 : vC → Option ρ) : Nat → vC → Int32 → Option ρ
  | 0, _, _ => none
  | f + 1, M, l5 => if (cI M 701 (l0)) ≤ l5 then (kx42 M ) else (if l5 = (cI M 700 (l0)) then (L_X7_sendToAll_3 N l0 l1 l2 l3 l4 kx42 f M ((l5 + (1)))) else (b2 (F_X7_sendTo N M (l0) (l5) (l1) (l2) (l3)) fun M1 v2 => (v2).bind fun o3 => gd (o3 < 202) <| (F_X1_carry N M1 (o3) (l4) ((0 : Int32))).bind fun M5 => L_X7_sendToAll_3 N l0 l1 l2 l3 l4 kx42 f M5 ((l5 + (1)))))

def F_X7_sendToAll (N : Nat) (M : vC) (a0 : Nat) (a1 : Int32) (a2 : Int32) (a3 : Int32) (a4 : Option Nat) : Option vC := L_X7_sendToAll_3 N (a0) (a1) (a2) (a3) ((a4)) (fun (M8 : vC)  => some M8) fu M ((0 : Int32))

set_option maxRecDepth 100000 in
set_option maxHeartbeats 4000000 in
theorem w_X7_sendToAll_3 {E : vE} {X : vX} {S0 : vS} {z x N d0 : Nat} {ρ : Type} {R : ρ} {Z : State → Prop} {l0 : Nat} {l1 : Int32} {l2 : Int32} {l3 : Int32} {l4 : (Option Nat)} {kx42 : vC → Option ρ} (hl0 : l0 < N) (C : vi_C E X yX7_sendToAll cX7_sendToAll 6 none 2 0 0 (45 * 2)) (hx42 : ∀ (M : vC) , kx42 M  = some R → ∀ S, RC S z x N d0 M → cF S0 S z x N d0 → vi_W E X 6 Z 42 [] [] S (cz M) 0 0) : ∀ (f : Nat) (M : vC) (l5 : Int32), L_X7_sendToAll_3 N l0 l1 l2 l3 l4 kx42 f M l5 = some R → ∀ S, RC S z x N d0 M → cF S0 S z x N d0 → vi_W E X 6 Z 3 [(0, .ref (ad z x 7 (l0))), (1, .int (l1)), (2, .int (l2)), (3, .int (l3)), (4, va_rf (l4)), (5, .int (l5))] [] S (cz M) 0 0 := by
  intro f
  induction f with
  | zero => intro M l5 h; cases h
  | succ f ih =>
    intro M l5 h S hR hF
    rw [L_X7_sendToAll_3] at h
    refine vi_iload C dX7_sendToAll_3 rfl rfl ?_
    refine vi_aload_n C dX7_sendToAll_5 rfl rfl ?_
    refine c_geti (k := 7) (i := l0) C dX7_sendToAll_6 rfl fX7_40 rfl (by decide) rfl hR hl0 ?_
    refine vi_icmp_ge (t' := 42) C dX7_sendToAll_9 rfl (by decide) (fun c7 => ?_) (fun c7 => ?_)
    · replace h := iT c7 h
      exact (vi_cut [] trivial (hx42 _  h _ hR hF))
    · replace h := iN c7 h
      refine vi_iload C dX7_sendToAll_12 rfl rfl ?_
      refine vi_aload_n C dX7_sendToAll_14 rfl rfl ?_
      refine c_geti (k := 7) (i := l0) C dX7_sendToAll_15 rfl fX7_36 rfl (by decide) rfl hR hl0 ?_
      refine vi_icmp_eq (t' := 36) C dX7_sendToAll_18 rfl (by decide) (fun c6 => ?_) (fun c6 => ?_)
      · replace h := iT c6 h
        refine vi_iincv (v := 1) C dX7_sendToAll_36 rfl rfl (by decide) (by decide) ?_
        refine vi_cut [(0, .ref (ad z x 7 (l0))), (1, .int (l1)), (2, .int (l2)), (3, .int (l3)), (4, va_rf (l4)), (5, .int ((l5 + (1))))] (by cases l4 <;> exact ⟨rfl, rfl, rfl, rfl, rfl, rfl, trivial⟩) ?_
        refine vi_goto (t' := 3) C dX7_sendToAll_39 (by decide) ?_
        exact vi_cut [(0, .ref (ad z x 7 (l0))), (1, .int (l1)), (2, .int (l2)), (3, .int (l3)), (4, va_rf (l4)), (5, .int ((l5 + (1))))] ⟨rfl, rfl, rfl, rfl, rfl, rfl, trivial⟩ (ih _ _ h _ hR hF)
      · replace h := iN c6 h
        refine vi_aload_n C dX7_sendToAll_21 rfl rfl ?_
        refine vi_iload C dX7_sendToAll_22 rfl rfl ?_
        refine vi_iload_n C dX7_sendToAll_24 rfl rfl ?_
        refine vi_iload_n C dX7_sendToAll_25 rfl rfl ?_
        refine vi_iload_n C dX7_sendToAll_26 rfl rfl ?_
        refine c_cv3 (kc := 7) (a := (ad z x 7 (l0))) (kt := 1) C [.int (l5), .int (l1), .int (l2), .int (l3)] [] dX7_sendToAll_27 rfl ivX7_277 imX7_sendTo rfl rfl (rcK hR hl0) hR hF h (fun _ e => p_X7_sendTo hl0 e hR) rfl (Nat.le_of_ble_eq_true rfl) ⟨by decide, by decide⟩ ⟨Nat.le_refl _, Nat.le_refl _⟩ (fun S M1 v2 h hR hF => ?_)
        refine vi_aloadq (o := (l4)) C dX7_sendToAll_30 rfl rfl ?_
        refine vi_iconst (v := 0) C dX7_sendToAll_32 rfl (by decide) ?_
        obtain ⟨o3, rfl, hh⟩ := bdo h
        replace h := hh
        clear hh
        obtain ⟨c4, h⟩ := gdo h
        refine c_cv0 (kc := 1) (a := (ad z x 1 (o3))) C [va_rf (l4), .int ((0 : Int32))] [] dX7_sendToAll_33 rfl ivX7_281 imX1_carry rfl rfl (rcK hR c4) hR hF h (fun _ e => p_X1_carry c4 e hR) rfl (Nat.le_of_ble_eq_true rfl) ⟨by decide, by decide⟩ ⟨Nat.le_refl _, Nat.le_refl _⟩ (fun S M5 h hR hF => ?_)
        refine vi_iincv (v := 1) C dX7_sendToAll_36 rfl rfl (by decide) (by decide) ?_
        refine vi_cut [(0, .ref (ad z x 7 (l0))), (1, .int (l1)), (2, .int (l2)), (3, .int (l3)), (4, va_rf (l4)), (5, .int ((l5 + (1))))] (by cases l4 <;> exact ⟨rfl, rfl, rfl, rfl, rfl, rfl, trivial⟩) ?_
        refine vi_goto (t' := 3) C dX7_sendToAll_39 (by decide) ?_
        exact vi_cut [(0, .ref (ad z x 7 (l0))), (1, .int (l1)), (2, .int (l2)), (3, .int (l3)), (4, va_rf (l4)), (5, .int ((l5 + (1))))] ⟨rfl, rfl, rfl, rfl, rfl, rfl, trivial⟩ (ih _ _ h _ hR hF)

set_option maxRecDepth 100000 in
set_option maxHeartbeats 4000000 in
theorem p_X7_sendToAll {N : Nat} {M : vC} {R : vC} {a0 : Nat} {a1 : Int32} {a2 : Int32} {a3 : Int32} {a4 : Option Nat} (ha0 : a0 < N) (h : F_X7_sendToAll N M a0 a1 a2 a3 a4 = some R) {E : vE} {S0 : vS} {z x d0 : Nat} (hR : RC S0 z x N d0 M) : vi_Met E yX7_sendToAll cX7_sendToAll 6 none 2 0 0 [.ref (ad z x 7 (a0)), .int (a1), .int (a2), .int (a3), va_rf (a4)] S0 (cz M) (D0 S0 z x N d0 R) := by
  refine vi_met (by decide) (by cases a4 <;> exact Nat.le_of_ble_eq_true rfl) ?_
  intro X C
  rw [show lv_args 0 [.ref (ad z x 7 (a0)), .int (a1), .int (a2), .int (a3), va_rf (a4)] = [(0, .ref (ad z x 7 (a0))), (1, .int (a1)), (2, .int (a2)), (3, .int (a3)), (4, va_rf (a4))] from by cases a4 <;> rfl]
  have hF := cF.refl S0 z x N d0
  unfold F_X7_sendToAll at h
  refine vi_iconst (v := 0) C dX7_sendToAll_0 rfl (by decide) ?_
  refine vi_istore C dX7_sendToAll_1 rfl (by decide) ?_
  refine vi_cut [(0, .ref (ad z x 7 (a0))), (1, .int (a1)), (2, .int (a2)), (3, .int (a3)), (4, va_rf (a4)), (5, .int ((0 : Int32)))] (by cases a4 <;> exact ⟨rfl, rfl, rfl, rfl, rfl, rfl, trivial⟩) ?_
  refine vi_cut [(0, .ref (ad z x 7 (a0))), (1, .int (a1)), (2, .int (a2)), (3, .int (a3)), (4, va_rf (a4)), (5, .int ((0 : Int32)))] ⟨rfl, rfl, rfl, rfl, rfl, rfl, trivial⟩ (w_X7_sendToAll_3 ha0 C ?_ _ _ _ h _ hR hF)
  · intro M8 h S hR hF
    exact c_ret0 C dX7_sendToAll_42 rfl hR hF ⟨Nat.zero_le _, Nat.zero_le _⟩ h

def F_X7_askFor (N : Nat) (M : vC) (a0 : Nat) (a1 : Int32) : Option vC := b2 (F_X7_sendTo N M (a0) (a1) ((6 : Int32)) ((0 : Int32)) (((cI M 1007 (a0)) + (1 : Int32)))) fun M1 v2 => some M1

set_option maxRecDepth 100000 in
set_option maxHeartbeats 4000000 in
theorem p_X7_askFor {N : Nat} {M : vC} {R : vC} {a0 : Nat} {a1 : Int32} (ha0 : a0 < N) (h : F_X7_askFor N M a0 a1 = some R) {E : vE} {S0 : vS} {z x d0 : Nat} (hR : RC S0 z x N d0 M) : vi_Met E yX7_askFor cX7_askFor 2 none 2 0 0 [.ref (ad z x 7 (a0)), .int (a1)] S0 (cz M) (D0 S0 z x N d0 R) := by
  refine vi_met (by decide) (Nat.le_of_ble_eq_true rfl) ?_
  intro X C
  have hF := cF.refl S0 z x N d0
  unfold F_X7_askFor at h
  refine vi_aload_n C dX7_askFor_0 rfl rfl ?_
  refine vi_iload_n C dX7_askFor_1 rfl rfl ?_
  refine vi_bipush (v := 6) C dX7_askFor_2 rfl (by decide) ?_
  refine vi_iconst (v := 0) C dX7_askFor_4 rfl (by decide) ?_
  refine vi_aload_n C dX7_askFor_5 rfl rfl ?_
  refine c_gets (k := 7) (i := a0) C dX7_askFor_6 rfl fX7_46 rfl (by decide) rfl hR ha0 rfl ?_
  refine c_geti (k := 10) (i := a0) C dX7_askFor_9 rfl fX7_66 rfl (by decide) rfl hR ha0 ?_
  refine vi_iconst (v := 1) C dX7_askFor_12 rfl (by decide) ?_
  refine vi_iadd C dX7_askFor_13 rfl ?_
  refine c_cv3 (kc := 7) (a := (ad z x 7 (a0))) (kt := 1) C [.int (a1), .int ((6 : Int32)), .int ((0 : Int32)), .int (((cI M 1007 (a0)) + (1 : Int32)))] [] dX7_askFor_14 rfl ivX7_277 imX7_sendTo rfl rfl (rcK hR ha0) hR hF h (fun _ e => p_X7_sendTo ha0 e hR) rfl (Nat.le_of_ble_eq_true rfl) ⟨by decide, by decide⟩ ⟨Nat.le_refl _, Nat.le_refl _⟩ (fun S M1 v2 h hR hF => ?_)
  refine vi_pop C dX7_askFor_17 rfl (vi_rfc _) ?_
  exact c_ret0 C dX7_askFor_18 rfl hR hF ⟨Nat.zero_le _, Nat.zero_le _⟩ h

def F_X7_deny (N : Nat) (M : vC) (a0 : Nat) (a1 : Int32) : Option vC := b2 (F_X7_sendTo N M (a0) (a1) ((7 : Int32)) ((cI M 712 (a0))) ((0 : Int32))) fun M1 v2 => some M1

set_option maxRecDepth 100000 in
set_option maxHeartbeats 4000000 in
theorem p_X7_deny {N : Nat} {M : vC} {R : vC} {a0 : Nat} {a1 : Int32} (ha0 : a0 < N) (h : F_X7_deny N M a0 a1 = some R) {E : vE} {S0 : vS} {z x d0 : Nat} (hR : RC S0 z x N d0 M) : vi_Met E yX7_deny cX7_deny 2 none 2 0 0 [.ref (ad z x 7 (a0)), .int (a1)] S0 (cz M) (D0 S0 z x N d0 R) := by
  refine vi_met (by decide) (Nat.le_of_ble_eq_true rfl) ?_
  intro X C
  have hF := cF.refl S0 z x N d0
  unfold F_X7_deny at h
  refine vi_aload_n C dX7_deny_0 rfl rfl ?_
  refine vi_iload_n C dX7_deny_1 rfl rfl ?_
  refine vi_bipush (v := 7) C dX7_deny_2 rfl (by decide) ?_
  refine vi_aload_n C dX7_deny_4 rfl rfl ?_
  refine c_geti (k := 7) (i := a0) C dX7_deny_5 rfl fX7_78 rfl (by decide) rfl hR ha0 ?_
  refine vi_iconst (v := 0) C dX7_deny_8 rfl (by decide) ?_
  refine c_cv3 (kc := 7) (a := (ad z x 7 (a0))) (kt := 1) C [.int (a1), .int ((7 : Int32)), .int ((cI M 712 (a0))), .int ((0 : Int32))] [] dX7_deny_9 rfl ivX7_277 imX7_sendTo rfl rfl (rcK hR ha0) hR hF h (fun _ e => p_X7_sendTo ha0 e hR) rfl (Nat.le_of_ble_eq_true rfl) ⟨by decide, by decide⟩ ⟨Nat.le_refl _, Nat.le_refl _⟩ (fun S M1 v2 h hR hF => ?_)
  refine vi_pop C dX7_deny_12 rfl (vi_rfc _) ?_
  exact c_ret0 C dX7_deny_13 rfl hR hF ⟨Nat.zero_le _, Nat.zero_le _⟩ h

def F_X7_campaignIsDue (N : Nat) (M : vC) (a0 : Nat) : Option (vC × Int32) := if (cI M 400 (a0)) = (1 : Int32) then (if (cI M 716 (a0)) < (cI M 702 (a0)) then (zb ((0 : Int32)) (some (M, (0 : Int32)))) else (zb ((1 : Int32)) (some (M, (1 : Int32))))) else (if (cI M 601 (a0)) ≤ 0 then (zb ((0 : Int32)) (some (M, (0 : Int32)))) else (if (cI M 716 (a0)) < ((cI M 702 (a0)) + (cI M 700 (a0))) then (zb ((0 : Int32)) (some (M, (0 : Int32)))) else (zb ((1 : Int32)) (some (M, (1 : Int32))))))

set_option maxRecDepth 100000 in
set_option maxHeartbeats 4000000 in
theorem p_X7_campaignIsDue {N : Nat} {M : vC} {R : (vC × Int32)} {a0 : Nat} (ha0 : a0 < N) (h : F_X7_campaignIsDue N M a0 = some R) {E : vE} {S0 : vS} {z x d0 : Nat} (hR : RC S0 z x N d0 M) : vi_Met E yX7_campaignIsDue cX7_campaignIsDue 1 (some .boolean) 0 0 0 [.ref (ad z x 7 (a0))] S0 (cz M) (D1 S0 z x N d0 R) := by
  refine vi_met (by decide) (Nat.le_of_ble_eq_true rfl) ?_
  intro X C
  have hF := cF.refl S0 z x N d0
  unfold F_X7_campaignIsDue at h
  refine vi_aload_n C dX7_campaignIsDue_0 rfl rfl ?_
  refine c_gets (k := 7) (i := a0) C dX7_campaignIsDue_1 rfl fX7_28 rfl (by decide) rfl hR ha0 rfl ?_
  refine c_geti (k := 4) (i := a0) C dX7_campaignIsDue_4 rfl fX7_88 rfl (by decide) rfl hR ha0 ?_
  refine vi_iconst (v := 1) C dX7_campaignIsDue_7 rfl (by decide) ?_
  refine vi_icmp_ne (t' := 28) C dX7_campaignIsDue_8 rfl (by decide) (fun c4 => ?_) (fun c4 => ?_)
  · replace h := iN c4 h
    refine vi_aload_n C dX7_campaignIsDue_28 rfl rfl ?_
    refine c_gets (k := 7) (i := a0) C dX7_campaignIsDue_29 rfl fX7_12 rfl (by decide) rfl hR ha0 rfl ?_
    refine c_geti (k := 6) (i := a0) C dX7_campaignIsDue_32 rfl fX7_100 rfl (by decide) rfl hR ha0 ?_
    refine vi_if_le (t' := 58) C dX7_campaignIsDue_35 rfl (by decide) (fun c2 => ?_) (fun c2 => ?_)
    · replace h := iT c2 h
      refine vi_iconst (v := 0) C dX7_campaignIsDue_58 rfl (by decide) ?_
      exact c_retz C dX7_campaignIsDue_59 rfl hR hF ⟨Nat.zero_le _, Nat.zero_le _⟩ h
    · replace h := iN c2 h
      refine vi_aload_n C dX7_campaignIsDue_38 rfl rfl ?_
      refine c_geti (k := 7) (i := a0) C dX7_campaignIsDue_39 rfl fX7_111 rfl (by decide) rfl hR ha0 ?_
      refine vi_aload_n C dX7_campaignIsDue_42 rfl rfl ?_
      refine c_geti (k := 7) (i := a0) C dX7_campaignIsDue_43 rfl fX7_43 rfl (by decide) rfl hR ha0 ?_
      refine vi_aload_n C dX7_campaignIsDue_46 rfl rfl ?_
      refine c_geti (k := 7) (i := a0) C dX7_campaignIsDue_47 rfl fX7_36 rfl (by decide) rfl hR ha0 ?_
      refine vi_iadd C dX7_campaignIsDue_50 rfl ?_
      refine vi_icmp_lt (t' := 58) C dX7_campaignIsDue_51 rfl (by decide) (fun c1 => ?_) (fun c1 => ?_)
      · replace h := iT c1 h
        refine vi_iconst (v := 0) C dX7_campaignIsDue_58 rfl (by decide) ?_
        exact c_retz C dX7_campaignIsDue_59 rfl hR hF ⟨Nat.zero_le _, Nat.zero_le _⟩ h
      · replace h := iN c1 h
        refine vi_iconst (v := 1) C dX7_campaignIsDue_54 rfl (by decide) ?_
        refine vi_goto (t' := 59) C dX7_campaignIsDue_55 (by decide) ?_
        exact c_retz C dX7_campaignIsDue_59 rfl hR hF ⟨Nat.zero_le _, Nat.zero_le _⟩ h
  · replace h := iT c4 h
    refine vi_aload_n C dX7_campaignIsDue_11 rfl rfl ?_
    refine c_geti (k := 7) (i := a0) C dX7_campaignIsDue_12 rfl fX7_111 rfl (by decide) rfl hR ha0 ?_
    refine vi_aload_n C dX7_campaignIsDue_15 rfl rfl ?_
    refine c_geti (k := 7) (i := a0) C dX7_campaignIsDue_16 rfl fX7_43 rfl (by decide) rfl hR ha0 ?_
    refine vi_icmp_lt (t' := 26) C dX7_campaignIsDue_19 rfl (by decide) (fun c3 => ?_) (fun c3 => ?_)
    · replace h := iT c3 h
      refine vi_iconst (v := 0) C dX7_campaignIsDue_26 rfl (by decide) ?_
      exact c_retz C dX7_campaignIsDue_27 rfl hR hF ⟨Nat.zero_le _, Nat.zero_le _⟩ h
    · replace h := iN c3 h
      refine vi_iconst (v := 1) C dX7_campaignIsDue_22 rfl (by decide) ?_
      refine vi_goto (t' := 27) C dX7_campaignIsDue_23 (by decide) ?_
      exact c_retz C dX7_campaignIsDue_27 rfl hR hF ⟨Nat.zero_le _, Nat.zero_le _⟩ h

def F_X7_remind (N : Nat) (M : vC) (a0 : Nat) : Option vC := lt1 (uI M 716 (a0) ((0 : Int32))) fun M1 => lt1 (cP M1 403 (a0)) fun v2 => oc (v2) ((F_X7_sendToAll N M1 (a0) ((10 : Int32)) ((cI M1 401 (a0))) ((cI M1 1007 (a0))) none).bind fun M4 => some M4) (fun o3 => lt1 (cP M1 403 (a0)) fun v5 => (F_X7_sendToAll N M1 (a0) ((3 : Int32)) ((cI M1 401 (a0))) (((cI M1 1007 (a0)) + (1 : Int32))) (v5)).bind fun M6 => some M6)

set_option maxRecDepth 100000 in
set_option maxHeartbeats 4000000 in
theorem p_X7_remind {N : Nat} {M : vC} {R : vC} {a0 : Nat} (ha0 : a0 < N) (h : F_X7_remind N M a0 = some R) {E : vE} {S0 : vS} {z x d0 : Nat} (hR : RC S0 z x N d0 M) : vi_Met E yX7_remind cX7_remind 1 none 3 0 0 [.ref (ad z x 7 (a0))] S0 (cz M) (D0 S0 z x N d0 R) := by
  refine vi_met (by decide) (Nat.le_of_ble_eq_true rfl) ?_
  intro X C
  have hF := cF.refl S0 z x N d0
  unfold F_X7_remind at h
  refine vi_aload_n C dX7_remind_0 rfl rfl ?_
  refine vi_iconst (v := 0) C dX7_remind_1 rfl (by decide) ?_
  refine c_puti (k := 7) (i := a0) C dX7_remind_2 rfl (fpX7_111 _) rfl (by decide) rfl hR hF ha0 h (fun S M1 h hR hF => ?_)
  refine vi_aload_n C dX7_remind_5 rfl rfl ?_
  refine c_gets (k := 7) (i := a0) C dX7_remind_6 rfl fX7_28 rfl (by decide) rfl hR ha0 rfl ?_
  refine c_getpL (k := 4) (i := a0) C dX7_remind_9 rfl fX7_103 rfl (by decide) rfl hR ha0 rfl h (fun v2 h => ?_)
  rcases oco h with ⟨rfl, hh⟩ | ⟨o3, rfl, hh⟩
  · replace h := hh
    clear hh
    refine vi_ifnonnull (o := none) (t' := 39) C dX7_remind_12 rfl (by decide) (fun e => absurd rfl e) (fun _ => ?_)
    refine vi_aload_n C dX7_remind_15 rfl rfl ?_
    refine vi_bipush (v := 10) C dX7_remind_16 rfl (by decide) ?_
    refine vi_aload_n C dX7_remind_18 rfl rfl ?_
    refine c_gets (k := 7) (i := a0) C dX7_remind_19 rfl fX7_28 rfl (by decide) rfl hR ha0 rfl ?_
    refine c_geti (k := 4) (i := a0) C dX7_remind_22 rfl fX7_91 rfl (by decide) rfl hR ha0 ?_
    refine vi_aload_n C dX7_remind_25 rfl rfl ?_
    refine c_gets (k := 7) (i := a0) C dX7_remind_26 rfl fX7_46 rfl (by decide) rfl hR ha0 rfl ?_
    refine c_geti (k := 10) (i := a0) C dX7_remind_29 rfl fX7_66 rfl (by decide) rfl hR ha0 ?_
    refine vi_null C dX7_remind_32 rfl ?_
    refine c_cv0 (kc := 7) (a := (ad z x 7 (a0))) C [.int ((10 : Int32)), .int ((cI M1 401 (a0))), .int ((cI M1 1007 (a0))), .null] [] dX7_remind_33 rfl ivX7_320 imX7_sendToAll rfl rfl (rcK hR ha0) hR hF h (fun _ e => p_X7_sendToAll ha0 e hR) rfl (Nat.le_of_ble_eq_true rfl) ⟨by decide, by decide⟩ ⟨Nat.le_refl _, Nat.le_refl _⟩ (fun S M4 h hR hF => ?_)
    refine vi_goto (t' := 67) C dX7_remind_36 (by decide) ?_
    exact c_ret0 C dX7_remind_67 rfl hR hF ⟨Nat.zero_le _, Nat.zero_le _⟩ h
  · replace h := hh
    clear hh
    refine vi_ifnonnull (o := (some (o3))) (t' := 39) C dX7_remind_12 rfl (by decide) (fun _ => ?_) (fun e => by cases e)
    refine vi_aload_n C dX7_remind_39 rfl rfl ?_
    refine vi_iconst (v := 3) C dX7_remind_40 rfl (by decide) ?_
    refine vi_aload_n C dX7_remind_41 rfl rfl ?_
    refine c_gets (k := 7) (i := a0) C dX7_remind_42 rfl fX7_28 rfl (by decide) rfl hR ha0 rfl ?_
    refine c_geti (k := 4) (i := a0) C dX7_remind_45 rfl fX7_91 rfl (by decide) rfl hR ha0 ?_
    refine vi_aload_n C dX7_remind_48 rfl rfl ?_
    refine c_gets (k := 7) (i := a0) C dX7_remind_49 rfl fX7_46 rfl (by decide) rfl hR ha0 rfl ?_
    refine c_geti (k := 10) (i := a0) C dX7_remind_52 rfl fX7_66 rfl (by decide) rfl hR ha0 ?_
    refine vi_iconst (v := 1) C dX7_remind_55 rfl (by decide) ?_
    refine vi_iadd C dX7_remind_56 rfl ?_
    refine vi_aload_n C dX7_remind_57 rfl rfl ?_
    refine c_gets (k := 7) (i := a0) C dX7_remind_58 rfl fX7_28 rfl (by decide) rfl hR ha0 rfl ?_
    refine c_getpL (k := 4) (i := a0) C dX7_remind_61 rfl fX7_103 rfl (by decide) rfl hR ha0 rfl h (fun v5 h => ?_)
    refine c_cv0 (kc := 7) (a := (ad z x 7 (a0))) C [.int ((3 : Int32)), .int ((cI M1 401 (a0))), .int (((cI M1 1007 (a0)) + (1 : Int32))), va_rf (v5)] [] dX7_remind_64 rfl ivX7_320 imX7_sendToAll rfl rfl (rcK hR ha0) hR hF h (fun _ e => p_X7_sendToAll ha0 e hR) rfl (Nat.le_of_ble_eq_true rfl) ⟨by decide, by decide⟩ ⟨Nat.le_refl _, Nat.le_refl _⟩ (fun S M6 h hR hF => ?_)
    exact c_ret0 C dX7_remind_67 rfl hR hF ⟨Nat.zero_le _, Nat.zero_le _⟩ h

def F_X7_forward (N : Nat) (M : vC) (a0 : Nat) : Option vC := gd (¬ (cI M 701 (a0)) = 0) <| if (cI M 715 (a0)) ≤ 0 then (some M) else (if ((cI M 715 (a0)) - (cI M 715 (a0)) / (cI M 701 (a0)) * (cI M 701 (a0))) = (cI M 700 (a0)) then (some M) else (b2 (F_X7_sendTo N M (a0) (((cI M 715 (a0)) - (cI M 715 (a0)) / (cI M 701 (a0)) * (cI M 701 (a0)))) ((9 : Int32)) ((0 : Int32)) ((0 : Int32))) fun M2 v3 => b2 (F_X6_first N M2 (a0)) fun M4 v5 => (v3).bind fun o6 => gd (o6 < 202) <| (F_X1_carry N M4 (o6) (v5) ((0 : Int32))).bind fun M8 => some M8))

set_option maxRecDepth 100000 in
set_option maxHeartbeats 4000000 in
theorem p_X7_forward {N : Nat} {M : vC} {R : vC} {a0 : Nat} (ha0 : a0 < N) (h : F_X7_forward N M a0 = some R) {E : vE} {S0 : vS} {z x d0 : Nat} (hR : RC S0 z x N d0 M) : vi_Met E yX7_forward cX7_forward 2 none 2 0 0 [.ref (ad z x 7 (a0))] S0 (cz M) (D0 S0 z x N d0 R) := by
  refine vi_met (by decide) (Nat.le_of_ble_eq_true rfl) ?_
  intro X C
  have hF := cF.refl S0 z x N d0
  unfold F_X7_forward at h
  refine vi_aload_n C dX7_forward_0 rfl rfl ?_
  refine c_geti (k := 7) (i := a0) C dX7_forward_1 rfl fX7_97 rfl (by decide) rfl hR ha0 ?_
  refine vi_aload_n C dX7_forward_4 rfl rfl ?_
  refine c_geti (k := 7) (i := a0) C dX7_forward_5 rfl fX7_40 rfl (by decide) rfl hR ha0 ?_
  obtain ⟨c1, h⟩ := gdo h
  refine vi_irem C dX7_forward_8 rfl c1 ?_
  refine vi_istore_n C dX7_forward_9 rfl (by decide) ?_
  refine vi_aload_n C dX7_forward_10 rfl rfl ?_
  refine c_geti (k := 7) (i := a0) C dX7_forward_11 rfl fX7_97 rfl (by decide) rfl hR ha0 ?_
  refine vi_if_le (t' := 45) C dX7_forward_14 rfl (by decide) (fun c10 => ?_) (fun c10 => ?_)
  · replace h := iT c10 h
    exact c_ret0 C dX7_forward_45 rfl hR hF ⟨Nat.zero_le _, Nat.zero_le _⟩ h
  · replace h := iN c10 h
    refine vi_iload_n C dX7_forward_17 rfl rfl ?_
    refine vi_aload_n C dX7_forward_18 rfl rfl ?_
    refine c_geti (k := 7) (i := a0) C dX7_forward_19 rfl fX7_36 rfl (by decide) rfl hR ha0 ?_
    refine vi_icmp_eq (t' := 45) C dX7_forward_22 rfl (by decide) (fun c9 => ?_) (fun c9 => ?_)
    · replace h := iT c9 h
      exact c_ret0 C dX7_forward_45 rfl hR hF ⟨Nat.zero_le _, Nat.zero_le _⟩ h
    · replace h := iN c9 h
      refine vi_aload_n C dX7_forward_25 rfl rfl ?_
      refine vi_iload_n C dX7_forward_26 rfl rfl ?_
      refine vi_bipush (v := 9) C dX7_forward_27 rfl (by decide) ?_
      refine vi_iconst (v := 0) C dX7_forward_29 rfl (by decide) ?_
      refine vi_iconst (v := 0) C dX7_forward_30 rfl (by decide) ?_
      refine c_cv3 (kc := 7) (a := (ad z x 7 (a0))) (kt := 1) C [.int (((cI M 715 (a0)) - (cI M 715 (a0)) / (cI M 701 (a0)) * (cI M 701 (a0)))), .int ((9 : Int32)), .int ((0 : Int32)), .int ((0 : Int32))] [] dX7_forward_31 rfl ivX7_277 imX7_sendTo rfl rfl (rcK hR ha0) hR hF h (fun _ e => p_X7_sendTo ha0 e hR) rfl (Nat.le_of_ble_eq_true rfl) ⟨by decide, by decide⟩ ⟨Nat.le_refl _, Nat.le_refl _⟩ (fun S M2 v3 h hR hF => ?_)
      refine vi_aload_n C dX7_forward_34 rfl rfl ?_
      refine c_gets (k := 7) (i := a0) C dX7_forward_35 rfl fX7_12 rfl (by decide) rfl hR ha0 rfl ?_
      refine c_cv4 (kc := 6) (a := (ad z x 6 (a0))) C [] [va_rf ((v3).map (ad z x 1))] dX7_forward_38 rfl ivX7_346 imX6_first rfl rfl (rcK hR ha0) hR hF h (fun _ e => p_X6_first ha0 e hR) rfl (by simp only [List.map_cons, List.map_nil, vi_rfc]; exact Nat.le_of_ble_eq_true rfl) ⟨by decide, by decide⟩ ⟨Nat.le_refl _, Nat.le_refl _⟩ (fun S M4 v5 h hR hF => ?_)
      refine vi_iconst (v := 0) C dX7_forward_41 rfl (by decide) ?_
      obtain ⟨o6, rfl, hh⟩ := bdo h
      replace h := hh
      clear hh
      obtain ⟨c7, h⟩ := gdo h
      refine c_cv0 (kc := 1) (a := (ad z x 1 (o6))) C [va_rf (v5), .int ((0 : Int32))] [] dX7_forward_42 rfl ivX7_281 imX1_carry rfl rfl (rcK hR c7) hR hF h (fun _ e => p_X1_carry c7 e hR) rfl (Nat.le_of_ble_eq_true rfl) ⟨by decide, by decide⟩ ⟨Nat.le_refl _, Nat.le_refl _⟩ (fun S M8 h hR hF => ?_)
      exact c_ret0 C dX7_forward_45 rfl hR hF ⟨Nat.zero_le _, Nat.zero_le _⟩ h

def F_X7_tickAsFollower (N : Nat) (M : vC) (a0 : Nat) : Option vC := if (cI M 601 (a0)) ≤ 0 then (if (cI M 716 (a0)) < (cI M 702 (a0)) then (some M) else (lt1 (uI M 716 (a0) ((0 : Int32))) fun M1 => gd (¬ (cI M1 701 (a0)) = 0) <| (F_X7_askFor N M1 (a0) ((((cI M1 700 (a0)) + (1 : Int32)) - ((cI M1 700 (a0)) + (1 : Int32)) / (cI M1 701 (a0)) * (cI M1 701 (a0))))).bind fun M3 => some M3)) else ((F_X7_forward N M (a0)).bind fun M5 => some M5)

set_option maxRecDepth 100000 in
set_option maxHeartbeats 4000000 in
theorem p_X7_tickAsFollower {N : Nat} {M : vC} {R : vC} {a0 : Nat} (ha0 : a0 < N) (h : F_X7_tickAsFollower N M a0 = some R) {E : vE} {S0 : vS} {z x d0 : Nat} (hR : RC S0 z x N d0 M) : vi_Met E yX7_tickAsFollower cX7_tickAsFollower 1 none 3 0 0 [.ref (ad z x 7 (a0))] S0 (cz M) (D0 S0 z x N d0 R) := by
  refine vi_met (by decide) (Nat.le_of_ble_eq_true rfl) ?_
  intro X C
  have hF := cF.refl S0 z x N d0
  unfold F_X7_tickAsFollower at h
  refine vi_aload_n C dX7_tickAsFollower_0 rfl rfl ?_
  refine c_gets (k := 7) (i := a0) C dX7_tickAsFollower_1 rfl fX7_12 rfl (by decide) rfl hR ha0 rfl ?_
  refine c_geti (k := 6) (i := a0) C dX7_tickAsFollower_4 rfl fX7_100 rfl (by decide) rfl hR ha0 ?_
  refine vi_if_le (t' := 17) C dX7_tickAsFollower_7 rfl (by decide) (fun c6 => ?_) (fun c6 => ?_)
  · replace h := iT c6 h
    refine vi_aload_n C dX7_tickAsFollower_17 rfl rfl ?_
    refine c_geti (k := 7) (i := a0) C dX7_tickAsFollower_18 rfl fX7_111 rfl (by decide) rfl hR ha0 ?_
    refine vi_aload_n C dX7_tickAsFollower_21 rfl rfl ?_
    refine c_geti (k := 7) (i := a0) C dX7_tickAsFollower_22 rfl fX7_43 rfl (by decide) rfl hR ha0 ?_
    refine vi_icmp_lt (t' := 48) C dX7_tickAsFollower_25 rfl (by decide) (fun c4 => ?_) (fun c4 => ?_)
    · replace h := iT c4 h
      exact c_ret0 C dX7_tickAsFollower_48 rfl hR hF ⟨Nat.zero_le _, Nat.zero_le _⟩ h
    · replace h := iN c4 h
      refine vi_aload_n C dX7_tickAsFollower_28 rfl rfl ?_
      refine vi_iconst (v := 0) C dX7_tickAsFollower_29 rfl (by decide) ?_
      refine c_puti (k := 7) (i := a0) C dX7_tickAsFollower_30 rfl (fpX7_111 _) rfl (by decide) rfl hR hF ha0 h (fun S M1 h hR hF => ?_)
      refine vi_aload_n C dX7_tickAsFollower_33 rfl rfl ?_
      refine vi_aload_n C dX7_tickAsFollower_34 rfl rfl ?_
      refine c_geti (k := 7) (i := a0) C dX7_tickAsFollower_35 rfl fX7_36 rfl (by decide) rfl hR ha0 ?_
      refine vi_iconst (v := 1) C dX7_tickAsFollower_38 rfl (by decide) ?_
      refine vi_iadd C dX7_tickAsFollower_39 rfl ?_
      refine vi_aload_n C dX7_tickAsFollower_40 rfl rfl ?_
      refine c_geti (k := 7) (i := a0) C dX7_tickAsFollower_41 rfl fX7_40 rfl (by decide) rfl hR ha0 ?_
      obtain ⟨c2, h⟩ := gdo h
      refine vi_irem C dX7_tickAsFollower_44 rfl c2 ?_
      refine c_cv0 (kc := 7) (a := (ad z x 7 (a0))) C [.int ((((cI M1 700 (a0)) + (1 : Int32)) - ((cI M1 700 (a0)) + (1 : Int32)) / (cI M1 701 (a0)) * (cI M1 701 (a0))))] [] dX7_tickAsFollower_45 rfl ivX7_327 imX7_askFor rfl rfl (rcK hR ha0) hR hF h (fun _ e => p_X7_askFor ha0 e hR) rfl (Nat.le_of_ble_eq_true rfl) ⟨by decide, by decide⟩ ⟨Nat.le_refl _, Nat.le_refl _⟩ (fun S M3 h hR hF => ?_)
      exact c_ret0 C dX7_tickAsFollower_48 rfl hR hF ⟨Nat.zero_le _, Nat.zero_le _⟩ h
  · replace h := iN c6 h
    refine vi_aload_n C dX7_tickAsFollower_10 rfl rfl ?_
    refine c_cv0 (kc := 7) (a := (ad z x 7 (a0))) C [] [] dX7_tickAsFollower_11 rfl ivX7_324 imX7_forward rfl rfl (rcK hR ha0) hR hF h (fun _ e => p_X7_forward ha0 e hR) rfl (Nat.le_of_ble_eq_true rfl) ⟨by decide, by decide⟩ ⟨Nat.le_refl _, Nat.le_refl _⟩ (fun S M5 h hR hF => ?_)
    refine vi_goto (t' := 48) C dX7_tickAsFollower_14 (by decide) ?_
    exact c_ret0 C dX7_tickAsFollower_48 rfl hR hF ⟨Nat.zero_le _, Nat.zero_le _⟩ h

def F_X7_onForward (N : Nat) (M : vC) (a0 : Nat) (a1 : Nat) : Option vC := lt1 (cP M 105 (a1)) fun v1 => oc (v1) (some M) (fun o2 => lt1 (cP M 105 (a1)) fun v3 => b2 (F_X10_isNew N M (a0) (v3)) fun M4 v5 => if v5 = 0 then (some M4) else (lt1 (cP M4 105 (a1)) fun v6 => (F_X6_add N M4 (a0) (v6)).bind fun M7 => some M7))

set_option maxRecDepth 100000 in
set_option maxHeartbeats 4000000 in
theorem p_X7_onForward {N : Nat} {M : vC} {R : vC} {a0 : Nat} {a1 : Nat} (ha0 : a0 < N) (ha1 : a1 < 202) (h : F_X7_onForward N M a0 a1 = some R) {E : vE} {S0 : vS} {z x d0 : Nat} (hR : RC S0 z x N d0 M) : vi_Met E yX7_onForward cX7_onForward 2 none 2 0 0 [.ref (ad z x 7 (a0)), .ref (ad z x 1 (a1))] S0 (cz M) (D0 S0 z x N d0 R) := by
  refine vi_met (by decide) (Nat.le_of_ble_eq_true rfl) ?_
  intro X C
  have hF := cF.refl S0 z x N d0
  unfold F_X7_onForward at h
  refine vi_aload_n C dX7_onForward_0 rfl rfl ?_
  refine c_getpL (k := 1) (i := a1) C dX7_onForward_1 rfl fX7_408 rfl (by decide) rfl hR ha1 rfl h (fun v1 h => ?_)
  rcases oco h with ⟨rfl, hh⟩ | ⟨o2, rfl, hh⟩
  · replace h := hh
    clear hh
    refine vi_ifnull (o := none) (t' := 32) C dX7_onForward_4 rfl (by decide) (fun _ => ?_) (fun e => absurd rfl e)
    exact c_ret0 C dX7_onForward_32 rfl hR hF ⟨Nat.zero_le _, Nat.zero_le _⟩ h
  · replace h := hh
    clear hh
    refine vi_ifnull (o := (some (o2))) (t' := 32) C dX7_onForward_4 rfl (by decide) (fun e => by cases e) (fun _ => ?_)
    refine vi_aload_n C dX7_onForward_7 rfl rfl ?_
    refine c_gets (k := 7) (i := a0) C dX7_onForward_8 rfl fX7_46 rfl (by decide) rfl hR ha0 rfl ?_
    refine vi_aload_n C dX7_onForward_11 rfl rfl ?_
    refine c_getpL (k := 1) (i := a1) C dX7_onForward_12 rfl fX7_408 rfl (by decide) rfl hR ha1 rfl h (fun v3 h => ?_)
    refine c_cv1 (kc := 10) (a := (ad z x 10 (a0))) C [va_rf (v3)] [] dX7_onForward_15 rfl ivX7_440 imX10_isNew rfl rfl (rcK hR ha0) hR hF h (fun _ e => p_X10_isNew ha0 e hR) rfl (Nat.le_of_ble_eq_true rfl) ⟨by decide, by decide⟩ ⟨Nat.le_refl _, Nat.le_refl _⟩ (fun S M4 v5 h hR hF => ?_)
    refine vi_if_eq (t' := 32) C dX7_onForward_18 rfl (by decide) (fun c8 => ?_) (fun c8 => ?_)
    · replace h := iT c8 h
      exact c_ret0 C dX7_onForward_32 rfl hR hF ⟨Nat.zero_le _, Nat.zero_le _⟩ h
    · replace h := iN c8 h
      refine vi_aload_n C dX7_onForward_21 rfl rfl ?_
      refine c_gets (k := 7) (i := a0) C dX7_onForward_22 rfl fX7_12 rfl (by decide) rfl hR ha0 rfl ?_
      refine vi_aload_n C dX7_onForward_25 rfl rfl ?_
      refine c_getpL (k := 1) (i := a1) C dX7_onForward_26 rfl fX7_408 rfl (by decide) rfl hR ha1 rfl h (fun v6 h => ?_)
      refine c_cv0 (kc := 6) (a := (ad z x 6 (a0))) C [va_rf (v6)] [] dX7_onForward_29 rfl ivX7_443 imX6_add rfl rfl (rcK hR ha0) hR hF h (fun _ e => p_X6_add ha0 e hR) rfl (Nat.le_of_ble_eq_true rfl) ⟨by decide, by decide⟩ ⟨Nat.le_refl _, Nat.le_refl _⟩ (fun S M7 h hR hF => ?_)
      exact c_ret0 C dX7_onForward_32 rfl hR hF ⟨Nat.zero_le _, Nat.zero_le _⟩ h

def F_X8_tell (N : Nat) (M : vC) (a0 : Nat) (a1 : Int32) : Option (vC × Int32) := if a1 = 0 then (gd (cK M (a0) = 9) <| some (M, (cI M 800 (a0)))) else if a1 = 1 then (gd (cK M (a0) = 9) <| some (M, (cI M 801 (a0)))) else if a1 = 2 then (gd (cK M (a0) = 9) <| some (M, (cI M 802 (a0)))) else if a1 = 3 then (gd (cK M (a0) = 9) <| some (M, (cI M 803 (a0)))) else if a1 = 4 then (gd (cK M (a0) = 9) <| some (M, (cI M 804 (a0)))) else (some (M, (-1 : Int32)))

set_option maxRecDepth 100000 in
set_option maxHeartbeats 4000000 in
theorem p_X8_tell {N : Nat} {M : vC} {R : (vC × Int32)} {a0 : Nat} {a1 : Int32}  (h : F_X8_tell N M a0 a1 = some R) {E : vE} {S0 : vS} {z x d0 : Nat} (hR : RC S0 z x N d0 M) : vi_Met E yX8_tell cX8_tell 2 (some .int) 0 0 0 [.ref (a0), .int (a1)] S0 (cz M) (D1 S0 z x N d0 R) := by
  refine vi_met (by decide) (Nat.le_of_ble_eq_true rfl) ?_
  intro X C
  have hF := cF.refl S0 z x N d0
  unfold F_X8_tell at h
  refine vi_iload_n C dX8_tell_0 rfl rfl ?_
  by_cases c3 : a1 = 0
  · replace h := iT c3 h
    refine vi_tswI (v := 0) (t' := 36) C c3 dX8_tell_1 (by decide) (by decide) rfl (by decide) ?_
    refine vi_aload_n C dX8_tell_36 rfl rfl ?_
    obtain ⟨c2, h⟩ := gdo h
    refine c_getiD C dX8_tell_37 rfl fX8_9 rfl (by decide) rfl hR c2 ?_
    exact c_ret1 C dX8_tell_40 rfl hR hF ⟨Nat.zero_le _, Nat.zero_le _⟩ h
  replace h := iN c3 h
  by_cases c5 : a1 = 1
  · replace h := iT c5 h
    refine vi_tswI (v := 1) (t' := 41) C c5 dX8_tell_1 (by decide) (by decide) rfl (by decide) ?_
    refine vi_aload_n C dX8_tell_41 rfl rfl ?_
    obtain ⟨c4, h⟩ := gdo h
    refine c_getiD C dX8_tell_42 rfl fX8_15 rfl (by decide) rfl hR c4 ?_
    exact c_ret1 C dX8_tell_45 rfl hR hF ⟨Nat.zero_le _, Nat.zero_le _⟩ h
  replace h := iN c5 h
  by_cases c7 : a1 = 2
  · replace h := iT c7 h
    refine vi_tswI (v := 2) (t' := 46) C c7 dX8_tell_1 (by decide) (by decide) rfl (by decide) ?_
    refine vi_aload_n C dX8_tell_46 rfl rfl ?_
    obtain ⟨c6, h⟩ := gdo h
    refine c_getiD C dX8_tell_47 rfl fX8_18 rfl (by decide) rfl hR c6 ?_
    exact c_ret1 C dX8_tell_50 rfl hR hF ⟨Nat.zero_le _, Nat.zero_le _⟩ h
  replace h := iN c7 h
  by_cases c9 : a1 = 3
  · replace h := iT c9 h
    refine vi_tswI (v := 3) (t' := 51) C c9 dX8_tell_1 (by decide) (by decide) rfl (by decide) ?_
    refine vi_aload_n C dX8_tell_51 rfl rfl ?_
    obtain ⟨c8, h⟩ := gdo h
    refine c_getiD C dX8_tell_52 rfl fX8_21 rfl (by decide) rfl hR c8 ?_
    exact c_ret1 C dX8_tell_55 rfl hR hF ⟨Nat.zero_le _, Nat.zero_le _⟩ h
  replace h := iN c9 h
  by_cases c11 : a1 = 4
  · replace h := iT c11 h
    refine vi_tswI (v := 4) (t' := 56) C c11 dX8_tell_1 (by decide) (by decide) rfl (by decide) ?_
    refine vi_aload_n C dX8_tell_56 rfl rfl ?_
    obtain ⟨c10, h⟩ := gdo h
    refine c_getiD C dX8_tell_57 rfl fX8_24 rfl (by decide) rfl hR c10 ?_
    exact c_ret1 C dX8_tell_60 rfl hR hF ⟨Nat.zero_le _, Nat.zero_le _⟩ h
  replace h := iN c11 h
  have tc3 := tne (w := 0) c3 (by decide)
  have tc5 := tne (w := 1) c5 (by decide)
  have tc7 := tne (w := 2) c7 (by decide)
  have tc9 := tne (w := 3) c9 (by decide)
  have tc11 := tne (w := 4) c11 (by decide)
  refine vi_tswO (t' := 61) C dX8_tell_1 (by omega) (by decide) ?_
  refine vi_iconst (v := -1) C dX8_tell_61 rfl (by decide) ?_
  exact c_ret1 C dX8_tell_62 rfl hR hF ⟨Nat.zero_le _, Nat.zero_le _⟩ h

def F_X9_begin (N : Nat) (M : vC) (a0 : Nat) (a1 : Int32) (a2 : Int32) (a3 : Int32) : Option vC := lt1 (uI M 901 (a0) ((1 : Int32))) fun M1 => lt1 (uI M1 903 (a0) (a1)) fun M2 => lt1 (uI M2 904 (a0) (a2)) fun M3 => zb (a3) <| lt1 (uI M3 907 (a0) (a3)) fun M4 => lt1 (uI M4 905 (a0) ((0 : Int32))) fun M5 => lt1 (uI M5 906 (a0) ((0 : Int32))) fun M6 => some M6

set_option maxRecDepth 100000 in
set_option maxHeartbeats 4000000 in
theorem p_X9_begin {N : Nat} {M : vC} {R : vC} {a0 : Nat} {a1 : Int32} {a2 : Int32} {a3 : Int32} (ha0 : a0 < 16) (h : F_X9_begin N M a0 a1 a2 a3 = some R) {E : vE} {S0 : vS} {z x d0 : Nat} (hR : RC S0 z x N d0 M) : vi_Met E yX9_begin cX9_begin 4 none 0 0 0 [.ref (ad z x 9 (a0)), .int (a1), .int (a2), .int (a3)] S0 (cz M) (D0 S0 z x N d0 R) := by
  refine vi_met (by decide) (Nat.le_of_ble_eq_true rfl) ?_
  intro X C
  have hF := cF.refl S0 z x N d0
  unfold F_X9_begin at h
  refine vi_aload_n C dX9_begin_0 rfl rfl ?_
  refine vi_iconst (v := 1) C dX9_begin_1 rfl (by decide) ?_
  refine c_puti (k := 9) (i := a0) C dX9_begin_2 rfl (fpX9_15 _) rfl (by decide) rfl hR hF ha0 h (fun S M1 h hR hF => ?_)
  refine vi_aload_n C dX9_begin_5 rfl rfl ?_
  refine vi_iload_n C dX9_begin_6 rfl rfl ?_
  refine c_puti (k := 9) (i := a0) C dX9_begin_7 rfl (fpX9_19 _) rfl (by decide) rfl hR hF ha0 h (fun S M2 h hR hF => ?_)
  refine vi_aload_n C dX9_begin_10 rfl rfl ?_
  refine vi_iload_n C dX9_begin_11 rfl rfl ?_
  refine c_puti (k := 9) (i := a0) C dX9_begin_12 rfl (fpX9_22 _) rfl (by decide) rfl hR hF ha0 h (fun S M3 h hR hF => ?_)
  refine vi_aload_n C dX9_begin_15 rfl rfl ?_
  refine vi_iload_n C dX9_begin_16 rfl rfl ?_
  refine c_putz (k := 9) (i := a0) C dX9_begin_17 rfl (fpX9_25 _) rfl (by decide) rfl hR hF ha0 h (fun S M4 h hR hF => ?_)
  refine vi_aload_n C dX9_begin_20 rfl rfl ?_
  refine vi_iconst (v := 0) C dX9_begin_21 rfl (by decide) ?_
  refine c_puti (k := 9) (i := a0) C dX9_begin_22 rfl (fpX9_29 _) rfl (by decide) rfl hR hF ha0 h (fun S M5 h hR hF => ?_)
  refine vi_aload_n C dX9_begin_25 rfl rfl ?_
  refine vi_iconst (v := 0) C dX9_begin_26 rfl (by decide) ?_
  refine c_puti (k := 9) (i := a0) C dX9_begin_27 rfl (fpX9_32 _) rfl (by decide) rfl hR hF ha0 h (fun S M6 h hR hF => ?_)
  exact c_ret0 C dX9_begin_30 rfl hR hF ⟨Nat.zero_le _, Nat.zero_le _⟩ h

def F_X9_write (N : Nat) (M : vC) (a0 : Nat) (a1 : Int32) (a2 : Int32) : Option vC := lt1 (uI M 906 (a0) (((cI M 906 (a0)) ||| ((1 : Int32) <<< (a1 &&& 31))))) fun M1 => (cS M1 900 (a0) (a1) (a2)).bind fun M2 => some M2

set_option maxRecDepth 100000 in
set_option maxHeartbeats 4000000 in
theorem p_X9_write {N : Nat} {M : vC} {R : vC} {a0 : Nat} {a1 : Int32} {a2 : Int32} (ha0 : a0 < 16) (h : F_X9_write N M a0 a1 a2 = some R) {E : vE} {S0 : vS} {z x d0 : Nat} (hR : RC S0 z x N d0 M) : vi_Met E yX9_write cX9_write 3 none 0 0 0 [.ref (ad z x 9 (a0)), .int (a1), .int (a2)] S0 (cz M) (D0 S0 z x N d0 R) := by
  refine vi_met (by decide) (Nat.le_of_ble_eq_true rfl) ?_
  intro X C
  have hF := cF.refl S0 z x N d0
  unfold F_X9_write at h
  refine vi_aload_n C dX9_write_0 rfl rfl ?_
  refine vi_dup C dX9_write_1 rfl rfl ?_
  refine c_geti (k := 9) (i := a0) C dX9_write_2 rfl fX9_32 rfl (by decide) rfl hR ha0 ?_
  refine vi_iconst (v := 1) C dX9_write_5 rfl (by decide) ?_
  refine vi_iload_n C dX9_write_6 rfl rfl ?_
  refine vi_ishl C dX9_write_7 rfl ?_
  refine vi_ior C dX9_write_8 rfl ?_
  refine c_puti (k := 9) (i := a0) C dX9_write_9 rfl (fpX9_32 _) rfl (by decide) rfl hR hF ha0 h (fun S M1 h hR hF => ?_)
  refine vi_aload_n C dX9_write_12 rfl rfl ?_
  refine c_gets (k := 9) (i := a0) C dX9_write_13 rfl fX9_9 rfl (by decide) rfl hR ha0 rfl ?_
  refine vi_iload_n C dX9_write_16 rfl rfl ?_
  refine vi_iload_n C dX9_write_17 rfl rfl ?_
  refine c_iastore C dX9_write_18 rfl rfl hR hF ⟨ha0, by decide⟩ h (fun S M2 h hR hF => ?_)
  exact c_ret0 C dX9_write_19 rfl hR hF ⟨Nat.zero_le _, Nat.zero_le _⟩ h

def F_X9_tell (N : Nat) (M : vC) (a0 : Nat) (a1 : Int32) : Option (vC × Int32) := if a1 = 0 then (some (M, (cI M 901 (a0)))) else if a1 = 1 then (some (M, (cI M 902 (a0)))) else if a1 = 2 then (some (M, (cI M 903 (a0)))) else if a1 = 3 then (some (M, (cI M 904 (a0)))) else if a1 = 4 then (some (M, (cI M 905 (a0)))) else if a1 = 5 then (some (M, (cI M 906 (a0)))) else (some (M, (-1 : Int32)))

set_option maxRecDepth 100000 in
set_option maxHeartbeats 4000000 in
theorem p_X9_tell {N : Nat} {M : vC} {R : (vC × Int32)} {a0 : Nat} {a1 : Int32} (ha0 : a0 < 16) (h : F_X9_tell N M a0 a1 = some R) {E : vE} {S0 : vS} {z x d0 : Nat} (hR : RC S0 z x N d0 M) : vi_Met E yX9_tell cX9_tell 2 (some .int) 0 0 0 [.ref (ad z x 9 (a0)), .int (a1)] S0 (cz M) (D1 S0 z x N d0 R) := by
  refine vi_met (by decide) (Nat.le_of_ble_eq_true rfl) ?_
  intro X C
  have hF := cF.refl S0 z x N d0
  unfold F_X9_tell at h
  refine vi_iload_n C dX9_tell_0 rfl rfl ?_
  by_cases c2 : a1 = 0
  · replace h := iT c2 h
    refine vi_tswI (v := 0) (t' := 40) C c2 dX9_tell_1 (by decide) (by decide) rfl (by decide) ?_
    refine vi_aload_n C dX9_tell_40 rfl rfl ?_
    refine c_geti (k := 9) (i := a0) C dX9_tell_41 rfl fX9_15 rfl (by decide) rfl hR ha0 ?_
    exact c_ret1 C dX9_tell_44 rfl hR hF ⟨Nat.zero_le _, Nat.zero_le _⟩ h
  replace h := iN c2 h
  by_cases c3 : a1 = 1
  · replace h := iT c3 h
    refine vi_tswI (v := 1) (t' := 45) C c3 dX9_tell_1 (by decide) (by decide) rfl (by decide) ?_
    refine vi_aload_n C dX9_tell_45 rfl rfl ?_
    refine c_geti (k := 9) (i := a0) C dX9_tell_46 rfl fX9_45 rfl (by decide) rfl hR ha0 ?_
    exact c_ret1 C dX9_tell_49 rfl hR hF ⟨Nat.zero_le _, Nat.zero_le _⟩ h
  replace h := iN c3 h
  by_cases c4 : a1 = 2
  · replace h := iT c4 h
    refine vi_tswI (v := 2) (t' := 50) C c4 dX9_tell_1 (by decide) (by decide) rfl (by decide) ?_
    refine vi_aload_n C dX9_tell_50 rfl rfl ?_
    refine c_geti (k := 9) (i := a0) C dX9_tell_51 rfl fX9_19 rfl (by decide) rfl hR ha0 ?_
    exact c_ret1 C dX9_tell_54 rfl hR hF ⟨Nat.zero_le _, Nat.zero_le _⟩ h
  replace h := iN c4 h
  by_cases c5 : a1 = 3
  · replace h := iT c5 h
    refine vi_tswI (v := 3) (t' := 55) C c5 dX9_tell_1 (by decide) (by decide) rfl (by decide) ?_
    refine vi_aload_n C dX9_tell_55 rfl rfl ?_
    refine c_geti (k := 9) (i := a0) C dX9_tell_56 rfl fX9_22 rfl (by decide) rfl hR ha0 ?_
    exact c_ret1 C dX9_tell_59 rfl hR hF ⟨Nat.zero_le _, Nat.zero_le _⟩ h
  replace h := iN c5 h
  by_cases c6 : a1 = 4
  · replace h := iT c6 h
    refine vi_tswI (v := 4) (t' := 60) C c6 dX9_tell_1 (by decide) (by decide) rfl (by decide) ?_
    refine vi_aload_n C dX9_tell_60 rfl rfl ?_
    refine c_geti (k := 9) (i := a0) C dX9_tell_61 rfl fX9_29 rfl (by decide) rfl hR ha0 ?_
    exact c_ret1 C dX9_tell_64 rfl hR hF ⟨Nat.zero_le _, Nat.zero_le _⟩ h
  replace h := iN c6 h
  by_cases c7 : a1 = 5
  · replace h := iT c7 h
    refine vi_tswI (v := 5) (t' := 65) C c7 dX9_tell_1 (by decide) (by decide) rfl (by decide) ?_
    refine vi_aload_n C dX9_tell_65 rfl rfl ?_
    refine c_geti (k := 9) (i := a0) C dX9_tell_66 rfl fX9_32 rfl (by decide) rfl hR ha0 ?_
    exact c_ret1 C dX9_tell_69 rfl hR hF ⟨Nat.zero_le _, Nat.zero_le _⟩ h
  replace h := iN c7 h
  have tc2 := tne (w := 0) c2 (by decide)
  have tc3 := tne (w := 1) c3 (by decide)
  have tc4 := tne (w := 2) c4 (by decide)
  have tc5 := tne (w := 3) c5 (by decide)
  have tc6 := tne (w := 4) c6 (by decide)
  have tc7 := tne (w := 5) c7 (by decide)
  refine vi_tswO (t' := 70) C dX9_tell_1 (by omega) (by decide) ?_
  refine vi_iconst (v := -1) C dX9_tell_70 rfl (by decide) ?_
  exact c_ret1 C dX9_tell_71 rfl hR hF ⟨Nat.zero_le _, Nat.zero_le _⟩ h

def F_X11_sessionNumber (N : Nat) (M : vC) (a1 : Int32) : Option (vC × Option Nat) := if a1 < 0 then (some (M, none)) else (if (16 : Int32) ≤ a1 then (some (M, none)) else ((ix 16 (a1)).bind fun v1 => some (M, (some (v1)))))

set_option maxRecDepth 100000 in
set_option maxHeartbeats 4000000 in
theorem p_X11_sessionNumber {N : Nat} {M : vC} {R : (vC × Option Nat)} {a1 : Int32}  (h : F_X11_sessionNumber N M a1 = some R) {E : vE} {S0 : vS} {z x d0 : Nat} (hR : RC S0 z x N d0 M) : vi_Met E yX11_sessionNumber cX11_sessionNumber 2 (some (.object "SnapCluster$Session")) 0 0 0 [.ref (ad z x 11 (0)), .int (a1)] S0 (cz M) (D3 9 S0 z x N d0 R) := by
  refine vi_met (by decide) (Nat.le_of_ble_eq_true rfl) ?_
  intro X C
  have hF := cF.refl S0 z x N d0
  unfold F_X11_sessionNumber at h
  refine vi_iload_n C dX11_sessionNumber_0 rfl rfl ?_
  refine vi_if_lt (t' := 19) C dX11_sessionNumber_1 rfl (by decide) (fun c4 => ?_) (fun c4 => ?_)
  · replace h := iT c4 h
    refine vi_null C dX11_sessionNumber_19 rfl ?_
    exact c_ret3 (k := 9) (v := none) C dX11_sessionNumber_20 rfl (Or.inl ⟨_, rfl⟩) hR hF ⟨Nat.zero_le _, Nat.zero_le _⟩ h
  · replace h := iN c4 h
    refine vi_iload_n C dX11_sessionNumber_4 rfl rfl ?_
    refine vi_bipush (v := 16) C dX11_sessionNumber_5 rfl (by decide) ?_
    refine vi_icmp_ge (t' := 19) C dX11_sessionNumber_7 rfl (by decide) (fun c3 => ?_) (fun c3 => ?_)
    · replace h := iT c3 h
      refine vi_null C dX11_sessionNumber_19 rfl ?_
      exact c_ret3 (k := 9) (v := none) C dX11_sessionNumber_20 rfl (Or.inl ⟨_, rfl⟩) hR hF ⟨Nat.zero_le _, Nat.zero_le _⟩ h
    · replace h := iN c3 h
      refine vi_aload_n C dX11_sessionNumber_10 rfl rfl ?_
      refine c_gets (k := 11) (i := 0) C dX11_sessionNumber_11 rfl fX11_46 rfl (by decide) rfl hR (rfl : 0 = 0) rfl ?_
      refine vi_iload_n C dX11_sessionNumber_14 rfl rfl ?_
      refine c_aaloadS C dX11_sessionNumber_15 rfl hR h (fun v1 c2 h => ?_)
      refine vi_goto (t' := 20) C dX11_sessionNumber_16 (by decide) ?_
      exact c_ret3 (k := 9) (v := (some (v1))) C dX11_sessionNumber_20 rfl (Or.inl ⟨_, rfl⟩) hR hF ⟨Nat.zero_le _, Nat.zero_le _⟩ h

def F_X11_replicaNumber (N : Nat) (M : vC) (a1 : Int32) : Option (vC × Option Nat) := if a1 < 0 then (some (M, none)) else (if (Int32.ofNat N) ≤ a1 then (some (M, none)) else ((ix N (a1)).bind fun v1 => some (M, (some (v1)))))

set_option maxRecDepth 100000 in
set_option maxHeartbeats 4000000 in
theorem p_X11_replicaNumber {N : Nat} {M : vC} {R : (vC × Option Nat)} {a1 : Int32}  (h : F_X11_replicaNumber N M a1 = some R) {E : vE} {S0 : vS} {z x d0 : Nat} (hR : RC S0 z x N d0 M) : vi_Met E yX11_replicaNumber cX11_replicaNumber 2 (some (.object "SnapCluster$Replica")) 0 0 0 [.ref (ad z x 11 (0)), .int (a1)] S0 (cz M) (D3 7 S0 z x N d0 R) := by
  refine vi_met (by decide) (Nat.le_of_ble_eq_true rfl) ?_
  intro X C
  have hF := cF.refl S0 z x N d0
  unfold F_X11_replicaNumber at h
  refine vi_iload_n C dX11_replicaNumber_0 rfl rfl ?_
  refine vi_if_lt (t' := 22) C dX11_replicaNumber_1 rfl (by decide) (fun c4 => ?_) (fun c4 => ?_)
  · replace h := iT c4 h
    refine vi_null C dX11_replicaNumber_22 rfl ?_
    exact c_ret3 (k := 7) (v := none) C dX11_replicaNumber_23 rfl (Or.inl ⟨_, rfl⟩) hR hF ⟨Nat.zero_le _, Nat.zero_le _⟩ h
  · replace h := iN c4 h
    refine vi_iload_n C dX11_replicaNumber_4 rfl rfl ?_
    refine vi_aload_n C dX11_replicaNumber_5 rfl rfl ?_
    refine c_gets (k := 11) (i := 0) C dX11_replicaNumber_6 rfl fX11_53 rfl (by decide) rfl hR (rfl : 0 = 0) rfl ?_
    refine c_alenR C dX11_replicaNumber_9 rfl hR ?_
    refine vi_icmp_ge (t' := 22) C dX11_replicaNumber_10 rfl (by decide) (fun c3 => ?_) (fun c3 => ?_)
    · replace h := iT c3 h
      refine vi_null C dX11_replicaNumber_22 rfl ?_
      exact c_ret3 (k := 7) (v := none) C dX11_replicaNumber_23 rfl (Or.inl ⟨_, rfl⟩) hR hF ⟨Nat.zero_le _, Nat.zero_le _⟩ h
    · replace h := iN c3 h
      refine vi_aload_n C dX11_replicaNumber_13 rfl rfl ?_
      refine c_gets (k := 11) (i := 0) C dX11_replicaNumber_14 rfl fX11_53 rfl (by decide) rfl hR (rfl : 0 = 0) rfl ?_
      refine vi_iload_n C dX11_replicaNumber_17 rfl rfl ?_
      refine c_aaloadR C dX11_replicaNumber_18 rfl hR h (fun v1 c2 h => ?_)
      refine vi_goto (t' := 23) C dX11_replicaNumber_19 (by decide) ?_
      exact c_ret3 (k := 7) (v := (some (v1))) C dX11_replicaNumber_23 rfl (Or.inl ⟨_, rfl⟩) hR hF ⟨Nat.zero_le _, Nat.zero_le _⟩ h

def F_X11_upNumber (N : Nat) (M : vC) (a1 : Int32) : Option (vC × Option Nat) := b2 (F_X11_replicaNumber N M (a1)) fun M1 v2 => oc (v2) (some (M1, none)) (fun o3 => gd (o3 < N) <| if (cI M1 711 (o3)) = 0 then (some (M1, none)) else (some (M1, (some (o3)))))

set_option maxRecDepth 100000 in
set_option maxHeartbeats 4000000 in
theorem p_X11_upNumber {N : Nat} {M : vC} {R : (vC × Option Nat)} {a1 : Int32}  (h : F_X11_upNumber N M a1 = some R) {E : vE} {S0 : vS} {z x d0 : Nat} (hR : RC S0 z x N d0 M) : vi_Met E yX11_upNumber cX11_upNumber 3 (some (.object "SnapCluster$Replica")) 1 0 0 [.ref (ad z x 11 (0)), .int (a1)] S0 (cz M) (D3 7 S0 z x N d0 R) := by
  refine vi_met (by decide) (Nat.le_of_ble_eq_true rfl) ?_
  intro X C
  have hF := cF.refl S0 z x N d0
  unfold F_X11_upNumber at h
  refine vi_aload_n C dX11_upNumber_0 rfl rfl ?_
  refine vi_iload_n C dX11_upNumber_1 rfl rfl ?_
  refine c_cv3 (kc := 11) (a := (ad z x 11 (0))) (kt := 7) C [.int (a1)] [] dX11_upNumber_2 rfl ivX11_209 imX11_replicaNumber rfl rfl (rcK hR (rfl : 0 = 0)) hR hF h (fun _ e => p_X11_replicaNumber  e hR) rfl (Nat.le_of_ble_eq_true rfl) ⟨by decide, by decide⟩ ⟨Nat.le_refl _, Nat.le_refl _⟩ (fun S M1 v2 h hR hF => ?_)
  refine vi_astore_nq (o := ((v2).map (ad z x 7))) C dX11_upNumber_5 rfl (by decide) ?_
  refine vi_aload_nq (o := ((v2).map (ad z x 7))) C dX11_upNumber_6 rfl rfl ?_
  rcases oco h with ⟨rfl, hh⟩ | ⟨o3, rfl, hh⟩
  · replace h := hh
    clear hh
    refine vi_ifnull (o := none) (t' := 21) C dX11_upNumber_7 rfl (by decide) (fun _ => ?_) (fun e => absurd rfl e)
    refine vi_null C dX11_upNumber_21 rfl ?_
    exact c_ret3 (k := 7) (v := none) C dX11_upNumber_22 rfl (Or.inl ⟨_, rfl⟩) hR hF ⟨Nat.zero_le _, Nat.zero_le _⟩ h
  · replace h := hh
    clear hh
    refine vi_ifnull (o := (some (ad z x 7 (o3)))) (t' := 21) C dX11_upNumber_7 rfl (by decide) (fun e => by cases e) (fun _ => ?_)
    obtain ⟨c4, h⟩ := gdo h
    refine vi_aload_n C dX11_upNumber_10 rfl rfl ?_
    refine c_geti (k := 7) (i := o3) C dX11_upNumber_11 rfl fX11_212 rfl (by decide) rfl hR c4 ?_
    refine vi_if_eq (t' := 21) C dX11_upNumber_14 rfl (by decide) (fun c5 => ?_) (fun c5 => ?_)
    · replace h := iT c5 h
      refine vi_null C dX11_upNumber_21 rfl ?_
      exact c_ret3 (k := 7) (v := none) C dX11_upNumber_22 rfl (Or.inl ⟨_, rfl⟩) hR hF ⟨Nat.zero_le _, Nat.zero_le _⟩ h
    · replace h := iN c5 h
      refine vi_aload_n C dX11_upNumber_17 rfl rfl ?_
      refine vi_goto (t' := 22) C dX11_upNumber_18 (by decide) ?_
      exact c_ret3 (k := 7) (v := (some (o3))) C dX11_upNumber_22 rfl (Or.inl ⟨_, rfl⟩) hR hF ⟨Nat.zero_le _, Nat.zero_le _⟩ h

def F_X11_beginAt (N : Nat) (M : vC) (a1 : Int32) (a2 : Int32) (a3 : Int32) : Option (vC × Int32) := b2 (F_X11_sessionNumber N M (a1)) fun M1 v2 => b2 (F_X11_upNumber N M1 (a2)) fun M3 v4 => oc (v2) (zb ((0 : Int32)) (some (M3, (0 : Int32)))) (fun o5 => gd (o5 < 16) <| oc (v4) (zb ((0 : Int32)) (some (M3, (0 : Int32)))) (fun o7 => gd (o7 < N) <| if (cI M3 901 (o5)) = (1 : Int32) then (zb ((0 : Int32)) (some (M3, (0 : Int32)))) else (if (cI M3 901 (o5)) = (2 : Int32) then (zb ((0 : Int32)) (some (M3, (0 : Int32)))) else ((F_X9_begin N M3 (o5) (a2) ((cI M3 1007 (o7))) (a3)).bind fun M9 => zb ((1 : Int32)) (some (M9, (1 : Int32)))))))

set_option maxRecDepth 100000 in
set_option maxHeartbeats 4000000 in
theorem p_X11_beginAt {N : Nat} {M : vC} {R : (vC × Int32)} {a1 : Int32} {a2 : Int32} {a3 : Int32}  (h : F_X11_beginAt N M a1 a2 a3 = some R) {E : vE} {S0 : vS} {z x d0 : Nat} (hR : RC S0 z x N d0 M) : vi_Met E yX11_beginAt cX11_beginAt 6 (some .boolean) 2 0 0 [.ref (ad z x 11 (0)), .int (a1), .int (a2), .int (a3)] S0 (cz M) (D1 S0 z x N d0 R) := by
  refine vi_met (by decide) (Nat.le_of_ble_eq_true rfl) ?_
  intro X C
  have hF := cF.refl S0 z x N d0
  unfold F_X11_beginAt at h
  refine vi_aload_n C dX11_beginAt_0 rfl rfl ?_
  refine vi_iload_n C dX11_beginAt_1 rfl rfl ?_
  refine c_cv3 (kc := 11) (a := (ad z x 11 (0))) (kt := 9) C [.int (a1)] [] dX11_beginAt_2 rfl ivX11_74 imX11_sessionNumber rfl rfl (rcK hR (rfl : 0 = 0)) hR hF h (fun _ e => p_X11_sessionNumber  e hR) rfl (Nat.le_of_ble_eq_true rfl) ⟨by decide, by decide⟩ ⟨Nat.le_refl _, Nat.le_refl _⟩ (fun S M1 v2 h hR hF => ?_)
  refine vi_astoreq (o := ((v2).map (ad z x 9))) C dX11_beginAt_5 rfl (by decide) ?_
  refine vi_aload_n C dX11_beginAt_7 rfl rfl ?_
  refine vi_iload_n C dX11_beginAt_8 rfl rfl ?_
  refine c_cv3 (kc := 11) (a := (ad z x 11 (0))) (kt := 7) C [.int (a2)] [] dX11_beginAt_9 rfl ivX11_78 imX11_upNumber rfl rfl (rcK hR (rfl : 0 = 0)) hR hF h (fun _ e => p_X11_upNumber  e hR) rfl (Nat.le_of_ble_eq_true rfl) ⟨by decide, by decide⟩ ⟨Nat.le_refl _, Nat.le_refl _⟩ (fun S M3 v4 h hR hF => ?_)
  refine vi_astoreq (o := ((v4).map (ad z x 7))) C dX11_beginAt_12 rfl (by decide) ?_
  refine vi_cut [(0, .ref (ad z x 11 (0))), (1, .int (a1)), (2, .int (a2)), (3, .int (a3)), (4, va_rf ((v2).map (ad z x 9))), (5, va_rf ((v4).map (ad z x 7)))] (by cases v2 <;> exact ⟨rfl, rfl, rfl, rfl, rfl, rfl, trivial⟩) ?_
  refine vi_aloadq (o := ((v2).map (ad z x 9))) C dX11_beginAt_14 rfl rfl ?_
  rcases oco h with ⟨rfl, hh⟩ | ⟨o5, rfl, hh⟩
  · replace h := hh
    clear hh
    refine vi_ifnull (o := none) (t' := 42) C dX11_beginAt_16 rfl (by decide) (fun _ => ?_) (fun e => absurd rfl e)
    refine vi_iconst (v := 0) C dX11_beginAt_42 rfl (by decide) ?_
    exact c_retz C dX11_beginAt_43 rfl hR hF ⟨Nat.zero_le _, Nat.zero_le _⟩ h
  · replace h := hh
    clear hh
    refine vi_ifnull (o := (some (ad z x 9 (o5)))) (t' := 42) C dX11_beginAt_16 rfl (by decide) (fun e => by cases e) (fun _ => ?_)
    obtain ⟨c6, h⟩ := gdo h
    refine vi_aloadq (o := ((v4).map (ad z x 7))) C dX11_beginAt_19 rfl rfl ?_
    rcases oco h with ⟨rfl, hh⟩ | ⟨o7, rfl, hh⟩
    · replace h := hh
      clear hh
      refine vi_ifnull (o := none) (t' := 42) C dX11_beginAt_21 rfl (by decide) (fun _ => ?_) (fun e => absurd rfl e)
      refine vi_iconst (v := 0) C dX11_beginAt_42 rfl (by decide) ?_
      exact c_retz C dX11_beginAt_43 rfl hR hF ⟨Nat.zero_le _, Nat.zero_le _⟩ h
    · replace h := hh
      clear hh
      refine vi_ifnull (o := (some (ad z x 7 (o7)))) (t' := 42) C dX11_beginAt_21 rfl (by decide) (fun e => by cases e) (fun _ => ?_)
      obtain ⟨c8, h⟩ := gdo h
      refine vi_aload C dX11_beginAt_24 rfl rfl ?_
      refine c_geti (k := 9) (i := o5) C dX11_beginAt_26 rfl fX11_82 rfl (by decide) rfl hR c6 ?_
      refine vi_iconst (v := 1) C dX11_beginAt_29 rfl (by decide) ?_
      refine vi_icmp_eq (t' := 42) C dX11_beginAt_30 rfl (by decide) (fun c11 => ?_) (fun c11 => ?_)
      · replace h := iT c11 h
        refine vi_iconst (v := 0) C dX11_beginAt_42 rfl (by decide) ?_
        exact c_retz C dX11_beginAt_43 rfl hR hF ⟨Nat.zero_le _, Nat.zero_le _⟩ h
      · replace h := iN c11 h
        refine vi_aload C dX11_beginAt_33 rfl rfl ?_
        refine c_geti (k := 9) (i := o5) C dX11_beginAt_35 rfl fX11_82 rfl (by decide) rfl hR c6 ?_
        refine vi_iconst (v := 2) C dX11_beginAt_38 rfl (by decide) ?_
        refine vi_icmp_ne (t' := 44) C dX11_beginAt_39 rfl (by decide) (fun c10 => ?_) (fun c10 => ?_)
        · replace h := iN c10 h
          refine vi_aload C dX11_beginAt_44 rfl rfl ?_
          refine vi_iload_n C dX11_beginAt_46 rfl rfl ?_
          refine vi_aload C dX11_beginAt_47 rfl rfl ?_
          refine c_gets (k := 7) (i := o7) C dX11_beginAt_49 rfl fX11_85 rfl (by decide) rfl hR c8 rfl ?_
          refine c_geti (k := 10) (i := o7) C dX11_beginAt_52 rfl fX11_89 rfl (by decide) rfl hR c8 ?_
          refine vi_iload_n C dX11_beginAt_55 rfl rfl ?_
          refine c_cv0 (kc := 9) (a := (ad z x 9 (o5))) C [.int (a2), .int ((cI M3 1007 (o7))), .int (a3)] [] dX11_beginAt_56 rfl ivX11_92 imX9_begin rfl rfl (rcK hR c6) hR hF h (fun _ e => p_X9_begin c6 e hR) rfl (Nat.le_of_ble_eq_true rfl) ⟨by decide, by decide⟩ ⟨Nat.le_refl _, Nat.le_refl _⟩ (fun S M9 h hR hF => ?_)
          refine vi_iconst (v := 1) C dX11_beginAt_59 rfl (by decide) ?_
          exact c_retz C dX11_beginAt_60 rfl hR hF ⟨Nat.zero_le _, Nat.zero_le _⟩ h
        · replace h := iT c10 h
          refine vi_iconst (v := 0) C dX11_beginAt_42 rfl (by decide) ?_
          exact c_retz C dX11_beginAt_43 rfl hR hF ⟨Nat.zero_le _, Nat.zero_le _⟩ h

def F_X11_isKey (N : Nat) (M : vC) (a0 : Int32) : Option (vC × Int32) := if a0 < 0 then (zb ((0 : Int32)) (some (M, (0 : Int32)))) else (if (16 : Int32) ≤ a0 then (zb ((0 : Int32)) (some (M, (0 : Int32)))) else (zb ((1 : Int32)) (some (M, (1 : Int32)))))

set_option maxRecDepth 100000 in
set_option maxHeartbeats 4000000 in
theorem p_X11_isKey {N : Nat} {M : vC} {R : (vC × Int32)} {a0 : Int32}  (h : F_X11_isKey N M a0 = some R) {E : vE} {S0 : vS} {z x d0 : Nat} (hR : RC S0 z x N d0 M) : vi_Met E yX11_isKey cX11_isKey 1 (some .boolean) 0 0 0 [.int (a0)] S0 (cz M) (D1 S0 z x N d0 R) := by
  refine vi_met (by decide) (Nat.le_of_ble_eq_true rfl) ?_
  intro X C
  have hF := cF.refl S0 z x N d0
  unfold F_X11_isKey at h
  refine vi_iload_n C dX11_isKey_0 rfl rfl ?_
  refine vi_if_lt (t' := 14) C dX11_isKey_1 rfl (by decide) (fun c2 => ?_) (fun c2 => ?_)
  · replace h := iT c2 h
    refine vi_iconst (v := 0) C dX11_isKey_14 rfl (by decide) ?_
    exact c_retz C dX11_isKey_15 rfl hR hF ⟨Nat.zero_le _, Nat.zero_le _⟩ h
  · replace h := iN c2 h
    refine vi_iload_n C dX11_isKey_4 rfl rfl ?_
    refine vi_bipush (v := 16) C dX11_isKey_5 rfl (by decide) ?_
    refine vi_icmp_ge (t' := 14) C dX11_isKey_7 rfl (by decide) (fun c1 => ?_) (fun c1 => ?_)
    · replace h := iT c1 h
      refine vi_iconst (v := 0) C dX11_isKey_14 rfl (by decide) ?_
      exact c_retz C dX11_isKey_15 rfl hR hF ⟨Nat.zero_le _, Nat.zero_le _⟩ h
    · replace h := iN c1 h
      refine vi_iconst (v := 1) C dX11_isKey_10 rfl (by decide) ?_
      refine vi_goto (t' := 15) C dX11_isKey_11 (by decide) ?_
      exact c_retz C dX11_isKey_15 rfl hR hF ⟨Nat.zero_le _, Nat.zero_le _⟩ h

def F_X11_writeKey (N : Nat) (M : vC) (a1 : Int32) (a2 : Int32) (a3 : Int32) : Option (vC × Int32) := b2 (F_X11_sessionNumber N M (a1)) fun M1 v2 => oc (v2) (zb ((0 : Int32)) (some (M1, (0 : Int32)))) (fun o3 => gd (o3 < 16) <| b2 (F_X11_isKey N M1 (a2)) fun M5 v6 => if v6 = 0 then (zb ((0 : Int32)) (some (M5, (0 : Int32)))) else (if (cI M5 901 (o3)) = (1 : Int32) then (if (cI M5 907 (o3)) = 0 then ((F_X9_write N M5 (o3) (a2) (a3)).bind fun M7 => zb ((1 : Int32)) (some (M7, (1 : Int32)))) else (zb ((0 : Int32)) (some (M5, (0 : Int32))))) else (zb ((0 : Int32)) (some (M5, (0 : Int32))))))

set_option maxRecDepth 100000 in
set_option maxHeartbeats 4000000 in
theorem p_X11_writeKey {N : Nat} {M : vC} {R : (vC × Int32)} {a1 : Int32} {a2 : Int32} {a3 : Int32}  (h : F_X11_writeKey N M a1 a2 a3 = some R) {E : vE} {S0 : vS} {z x d0 : Nat} (hR : RC S0 z x N d0 M) : vi_Met E yX11_writeKey cX11_writeKey 5 (some .boolean) 1 0 0 [.ref (ad z x 11 (0)), .int (a1), .int (a2), .int (a3)] S0 (cz M) (D1 S0 z x N d0 R) := by
  refine vi_met (by decide) (Nat.le_of_ble_eq_true rfl) ?_
  intro X C
  have hF := cF.refl S0 z x N d0
  unfold F_X11_writeKey at h
  refine vi_aload_n C dX11_writeKey_0 rfl rfl ?_
  refine vi_iload_n C dX11_writeKey_1 rfl rfl ?_
  refine c_cv3 (kc := 11) (a := (ad z x 11 (0))) (kt := 9) C [.int (a1)] [] dX11_writeKey_2 rfl ivX11_74 imX11_sessionNumber rfl rfl (rcK hR (rfl : 0 = 0)) hR hF h (fun _ e => p_X11_sessionNumber  e hR) rfl (Nat.le_of_ble_eq_true rfl) ⟨by decide, by decide⟩ ⟨Nat.le_refl _, Nat.le_refl _⟩ (fun S M1 v2 h hR hF => ?_)
  refine vi_astoreq (o := ((v2).map (ad z x 9))) C dX11_writeKey_5 rfl (by decide) ?_
  refine vi_aloadq (o := ((v2).map (ad z x 9))) C dX11_writeKey_7 rfl rfl ?_
  rcases oco h with ⟨rfl, hh⟩ | ⟨o3, rfl, hh⟩
  · replace h := hh
    clear hh
    refine vi_ifnull (o := none) (t' := 36) C dX11_writeKey_9 rfl (by decide) (fun _ => ?_) (fun e => absurd rfl e)
    refine vi_iconst (v := 0) C dX11_writeKey_36 rfl (by decide) ?_
    exact c_retz C dX11_writeKey_37 rfl hR hF ⟨Nat.zero_le _, Nat.zero_le _⟩ h
  · replace h := hh
    clear hh
    refine vi_ifnull (o := (some (ad z x 9 (o3)))) (t' := 36) C dX11_writeKey_9 rfl (by decide) (fun e => by cases e) (fun _ => ?_)
    obtain ⟨c4, h⟩ := gdo h
    refine vi_iload_n C dX11_writeKey_12 rfl rfl ?_
    refine c_cs1 C [.int (a2)] [] dX11_writeKey_13 rfl ivX11_96 isX11_isKey hR hF h (fun _ e => p_X11_isKey  e hR) rfl (Nat.le_of_ble_eq_true rfl) ⟨by decide, by decide⟩ ⟨Nat.le_refl _, Nat.le_refl _⟩ (fun S M5 v6 h hR hF => ?_)
    refine vi_if_eq (t' := 36) C dX11_writeKey_16 rfl (by decide) (fun c10 => ?_) (fun c10 => ?_)
    · replace h := iT c10 h
      refine vi_iconst (v := 0) C dX11_writeKey_36 rfl (by decide) ?_
      exact c_retz C dX11_writeKey_37 rfl hR hF ⟨Nat.zero_le _, Nat.zero_le _⟩ h
    · replace h := iN c10 h
      refine vi_aload C dX11_writeKey_19 rfl rfl ?_
      refine c_geti (k := 9) (i := o3) C dX11_writeKey_21 rfl fX11_82 rfl (by decide) rfl hR c4 ?_
      refine vi_iconst (v := 1) C dX11_writeKey_24 rfl (by decide) ?_
      refine vi_icmp_ne (t' := 36) C dX11_writeKey_25 rfl (by decide) (fun c9 => ?_) (fun c9 => ?_)
      · replace h := iN c9 h
        refine vi_iconst (v := 0) C dX11_writeKey_36 rfl (by decide) ?_
        exact c_retz C dX11_writeKey_37 rfl hR hF ⟨Nat.zero_le _, Nat.zero_le _⟩ h
      · replace h := iT c9 h
        refine vi_aload C dX11_writeKey_28 rfl rfl ?_
        refine c_geti (k := 9) (i := o3) C dX11_writeKey_30 rfl fX11_122 rfl (by decide) rfl hR c4 ?_
        refine vi_if_eq (t' := 38) C dX11_writeKey_33 rfl (by decide) (fun c8 => ?_) (fun c8 => ?_)
        · replace h := iT c8 h
          refine vi_aload C dX11_writeKey_38 rfl rfl ?_
          refine vi_iload_n C dX11_writeKey_40 rfl rfl ?_
          refine vi_iload_n C dX11_writeKey_41 rfl rfl ?_
          refine c_cv0 (kc := 9) (a := (ad z x 9 (o3))) C [.int (a2), .int (a3)] [] dX11_writeKey_42 rfl ivX11_126 imX9_write rfl rfl (rcK hR c4) hR hF h (fun _ e => p_X9_write c4 e hR) rfl (Nat.le_of_ble_eq_true rfl) ⟨by decide, by decide⟩ ⟨Nat.le_refl _, Nat.le_refl _⟩ (fun S M7 h hR hF => ?_)
          refine vi_iconst (v := 1) C dX11_writeKey_45 rfl (by decide) ?_
          exact c_retz C dX11_writeKey_46 rfl hR hF ⟨Nat.zero_le _, Nat.zero_le _⟩ h
        · replace h := iN c8 h
          refine vi_iconst (v := 0) C dX11_writeKey_36 rfl (by decide) ?_
          exact c_retz C dX11_writeKey_37 rfl hR hF ⟨Nat.zero_le _, Nat.zero_le _⟩ h

def F_X11_giveUp (N : Nat) (M : vC) (a1 : Int32) : Option (vC × Int32) := b2 (F_X11_sessionNumber N M (a1)) fun M1 v2 => oc (v2) (zb ((0 : Int32)) (some (M1, (0 : Int32)))) (fun o3 => gd (o3 < 16) <| if (cI M1 901 (o3)) = (1 : Int32) then ((F_X9_end N M1 (o3) ((4 : Int32))).bind fun M5 => zb ((1 : Int32)) (some (M5, (1 : Int32)))) else (zb ((0 : Int32)) (some (M1, (0 : Int32)))))

set_option maxRecDepth 100000 in
set_option maxHeartbeats 4000000 in
theorem p_X11_giveUp {N : Nat} {M : vC} {R : (vC × Int32)} {a1 : Int32}  (h : F_X11_giveUp N M a1 = some R) {E : vE} {S0 : vS} {z x d0 : Nat} (hR : RC S0 z x N d0 M) : vi_Met E yX11_giveUp cX11_giveUp 3 (some .boolean) 1 0 0 [.ref (ad z x 11 (0)), .int (a1)] S0 (cz M) (D1 S0 z x N d0 R) := by
  refine vi_met (by decide) (Nat.le_of_ble_eq_true rfl) ?_
  intro X C
  have hF := cF.refl S0 z x N d0
  unfold F_X11_giveUp at h
  refine vi_aload_n C dX11_giveUp_0 rfl rfl ?_
  refine vi_iload_n C dX11_giveUp_1 rfl rfl ?_
  refine c_cv3 (kc := 11) (a := (ad z x 11 (0))) (kt := 9) C [.int (a1)] [] dX11_giveUp_2 rfl ivX11_74 imX11_sessionNumber rfl rfl (rcK hR (rfl : 0 = 0)) hR hF h (fun _ e => p_X11_sessionNumber  e hR) rfl (Nat.le_of_ble_eq_true rfl) ⟨by decide, by decide⟩ ⟨Nat.le_refl _, Nat.le_refl _⟩ (fun S M1 v2 h hR hF => ?_)
  refine vi_astore_nq (o := ((v2).map (ad z x 9))) C dX11_giveUp_5 rfl (by decide) ?_
  refine vi_aload_nq (o := ((v2).map (ad z x 9))) C dX11_giveUp_6 rfl rfl ?_
  rcases oco h with ⟨rfl, hh⟩ | ⟨o3, rfl, hh⟩
  · replace h := hh
    clear hh
    refine vi_ifnull (o := none) (t' := 18) C dX11_giveUp_7 rfl (by decide) (fun _ => ?_) (fun e => absurd rfl e)
    refine vi_iconst (v := 0) C dX11_giveUp_18 rfl (by decide) ?_
    exact c_retz C dX11_giveUp_19 rfl hR hF ⟨Nat.zero_le _, Nat.zero_le _⟩ h
  · replace h := hh
    clear hh
    refine vi_ifnull (o := (some (ad z x 9 (o3)))) (t' := 18) C dX11_giveUp_7 rfl (by decide) (fun e => by cases e) (fun _ => ?_)
    obtain ⟨c4, h⟩ := gdo h
    refine vi_aload_n C dX11_giveUp_10 rfl rfl ?_
    refine c_geti (k := 9) (i := o3) C dX11_giveUp_11 rfl fX11_82 rfl (by decide) rfl hR c4 ?_
    refine vi_iconst (v := 1) C dX11_giveUp_14 rfl (by decide) ?_
    refine vi_icmp_eq (t' := 20) C dX11_giveUp_15 rfl (by decide) (fun c6 => ?_) (fun c6 => ?_)
    · replace h := iT c6 h
      refine vi_aload_n C dX11_giveUp_20 rfl rfl ?_
      refine vi_iconst (v := 4) C dX11_giveUp_21 rfl (by decide) ?_
      refine c_cv0 (kc := 9) (a := (ad z x 9 (o3))) C [.int ((4 : Int32))] [] dX11_giveUp_22 rfl ivX11_115 imX9_end rfl rfl (rcK hR c4) hR hF h (fun _ e => p_X9_end c4 e hR) rfl (Nat.le_of_ble_eq_true rfl) ⟨by decide, by decide⟩ ⟨Nat.le_refl _, Nat.le_refl _⟩ (fun S M5 h hR hF => ?_)
      refine vi_iconst (v := 1) C dX11_giveUp_25 rfl (by decide) ?_
      exact c_retz C dX11_giveUp_26 rfl hR hF ⟨Nat.zero_le _, Nat.zero_le _⟩ h
    · replace h := iN c6 h
      refine vi_iconst (v := 0) C dX11_giveUp_18 rfl (by decide) ?_
      exact c_retz C dX11_giveUp_19 rfl hR hF ⟨Nat.zero_le _, Nat.zero_le _⟩ h

def F_X11_retryAt (N : Nat) (M : vC) (a1 : Int32) (a2 : Int32) : Option (vC × Int32) := b2 (F_X11_sessionNumber N M (a1)) fun M1 v2 => b2 (F_X11_upNumber N M1 (a2)) fun M3 v4 => oc (v2) (some (M3, (-1 : Int32))) (fun o5 => gd (o5 < 16) <| oc (v4) (some (M3, (-1 : Int32))) (fun o7 => gd (o7 < N) <| if (cI M3 901 (o5)) = (2 : Int32) then (lt1 (uI M3 903 (o5) (a2)) fun M9 => (cG M9 1002 (o7) (a1)).bind fun v10 => if v10 = (cI M9 902 (o5)) then ((cG M9 1003 (o7) (a1)).bind fun v13 => (F_X9_endBy N M9 (o5) (v13)).bind fun M14 => some (M14, (cI M14 901 (o5)))) else (lt1 (cP M9 908 (o5)) fun v11 => (F_X6_add N M9 (o7) (v11)).bind fun M12 => some (M12, (cI M12 901 (o5))))) else (some (M3, (-1 : Int32)))))

set_option maxRecDepth 100000 in
set_option maxHeartbeats 4000000 in
theorem p_X11_retryAt {N : Nat} {M : vC} {R : (vC × Int32)} {a1 : Int32} {a2 : Int32}  (h : F_X11_retryAt N M a1 a2 = some R) {E : vE} {S0 : vS} {z x d0 : Nat} (hR : RC S0 z x N d0 M) : vi_Met E yX11_retryAt cX11_retryAt 5 (some .int) 2 0 0 [.ref (ad z x 11 (0)), .int (a1), .int (a2)] S0 (cz M) (D1 S0 z x N d0 R) := by
  refine vi_met (by decide) (Nat.le_of_ble_eq_true rfl) ?_
  intro X C
  have hF := cF.refl S0 z x N d0
  unfold F_X11_retryAt at h
  refine vi_aload_n C dX11_retryAt_0 rfl rfl ?_
  refine vi_iload_n C dX11_retryAt_1 rfl rfl ?_
  refine c_cv3 (kc := 11) (a := (ad z x 11 (0))) (kt := 9) C [.int (a1)] [] dX11_retryAt_2 rfl ivX11_74 imX11_sessionNumber rfl rfl (rcK hR (rfl : 0 = 0)) hR hF h (fun _ e => p_X11_sessionNumber  e hR) rfl (Nat.le_of_ble_eq_true rfl) ⟨by decide, by decide⟩ ⟨Nat.le_refl _, Nat.le_refl _⟩ (fun S M1 v2 h hR hF => ?_)
  refine vi_astore_nq (o := ((v2).map (ad z x 9))) C dX11_retryAt_5 rfl (by decide) ?_
  refine vi_aload_n C dX11_retryAt_6 rfl rfl ?_
  refine vi_iload_n C dX11_retryAt_7 rfl rfl ?_
  refine c_cv3 (kc := 11) (a := (ad z x 11 (0))) (kt := 7) C [.int (a2)] [] dX11_retryAt_8 rfl ivX11_78 imX11_upNumber rfl rfl (rcK hR (rfl : 0 = 0)) hR hF h (fun _ e => p_X11_upNumber  e hR) rfl (Nat.le_of_ble_eq_true rfl) ⟨by decide, by decide⟩ ⟨Nat.le_refl _, Nat.le_refl _⟩ (fun S M3 v4 h hR hF => ?_)
  refine vi_astoreq (o := ((v4).map (ad z x 7))) C dX11_retryAt_11 rfl (by decide) ?_
  refine vi_cut [(0, .ref (ad z x 11 (0))), (1, .int (a1)), (2, .int (a2)), (3, va_rf ((v2).map (ad z x 9))), (4, va_rf ((v4).map (ad z x 7)))] (by cases v2 <;> exact ⟨rfl, rfl, rfl, rfl, rfl, trivial⟩) ?_
  refine vi_aload_nq (o := ((v2).map (ad z x 9))) C dX11_retryAt_13 rfl rfl ?_
  rcases oco h with ⟨rfl, hh⟩ | ⟨o5, rfl, hh⟩
  · replace h := hh
    clear hh
    refine vi_ifnull (o := none) (t' := 30) C dX11_retryAt_14 rfl (by decide) (fun _ => ?_) (fun e => absurd rfl e)
    refine vi_iconst (v := -1) C dX11_retryAt_30 rfl (by decide) ?_
    exact c_ret1 C dX11_retryAt_31 rfl hR hF ⟨Nat.zero_le _, Nat.zero_le _⟩ h
  · replace h := hh
    clear hh
    refine vi_ifnull (o := (some (ad z x 9 (o5)))) (t' := 30) C dX11_retryAt_14 rfl (by decide) (fun e => by cases e) (fun _ => ?_)
    obtain ⟨c6, h⟩ := gdo h
    refine vi_aloadq (o := ((v4).map (ad z x 7))) C dX11_retryAt_17 rfl rfl ?_
    rcases oco h with ⟨rfl, hh⟩ | ⟨o7, rfl, hh⟩
    · replace h := hh
      clear hh
      refine vi_ifnull (o := none) (t' := 30) C dX11_retryAt_19 rfl (by decide) (fun _ => ?_) (fun e => absurd rfl e)
      refine vi_iconst (v := -1) C dX11_retryAt_30 rfl (by decide) ?_
      exact c_ret1 C dX11_retryAt_31 rfl hR hF ⟨Nat.zero_le _, Nat.zero_le _⟩ h
    · replace h := hh
      clear hh
      refine vi_ifnull (o := (some (ad z x 7 (o7)))) (t' := 30) C dX11_retryAt_19 rfl (by decide) (fun e => by cases e) (fun _ => ?_)
      obtain ⟨c8, h⟩ := gdo h
      refine vi_aload_n C dX11_retryAt_22 rfl rfl ?_
      refine c_geti (k := 9) (i := o5) C dX11_retryAt_23 rfl fX11_82 rfl (by decide) rfl hR c6 ?_
      refine vi_iconst (v := 2) C dX11_retryAt_26 rfl (by decide) ?_
      refine vi_icmp_eq (t' := 32) C dX11_retryAt_27 rfl (by decide) (fun c16 => ?_) (fun c16 => ?_)
      · replace h := iT c16 h
        refine vi_aload_n C dX11_retryAt_32 rfl rfl ?_
        refine vi_iload_n C dX11_retryAt_33 rfl rfl ?_
        refine c_puti (k := 9) (i := o5) C dX11_retryAt_34 rfl (fpX11_106 _) rfl (by decide) rfl hR hF c6 h (fun S M9 h hR hF => ?_)
        refine vi_aload C dX11_retryAt_37 rfl rfl ?_
        refine c_gets (k := 7) (i := o7) C dX11_retryAt_39 rfl fX11_85 rfl (by decide) rfl hR c8 rfl ?_
        refine c_gets (k := 10) (i := o7) C dX11_retryAt_42 rfl fX11_149 rfl (by decide) rfl hR c8 rfl ?_
        refine vi_iload_n C dX11_retryAt_45 rfl rfl ?_
        refine c_iaload C dX11_retryAt_46 rfl rfl hR ⟨c8, by decide⟩ h (fun v10 h => ?_)
        refine vi_aload_n C dX11_retryAt_47 rfl rfl ?_
        refine c_geti (k := 9) (i := o5) C dX11_retryAt_48 rfl fX11_153 rfl (by decide) rfl hR c6 ?_
        refine vi_icmp_ne (t' := 71) C dX11_retryAt_51 rfl (by decide) (fun c15 => ?_) (fun c15 => ?_)
        · replace h := iN c15 h
          refine vi_aload C dX11_retryAt_71 rfl rfl ?_
          refine c_gets (k := 7) (i := o7) C dX11_retryAt_73 rfl fX11_135 rfl (by decide) rfl hR c8 rfl ?_
          refine vi_aload_n C dX11_retryAt_76 rfl rfl ?_
          refine c_getpL (k := 9) (i := o5) C dX11_retryAt_77 rfl fX11_139 rfl (by decide) rfl hR c6 rfl h (fun v11 h => ?_)
          refine c_cv0 (kc := 6) (a := (ad z x 6 (o7))) C [va_rf (v11)] [] dX11_retryAt_80 rfl ivX11_143 imX6_add rfl rfl (rcK hR c8) hR hF h (fun _ e => p_X6_add c8 e hR) rfl (Nat.le_of_ble_eq_true rfl) ⟨by decide, by decide⟩ ⟨Nat.le_refl _, Nat.le_refl _⟩ (fun S M12 h hR hF => ?_)
          refine vi_aload_n C dX11_retryAt_83 rfl rfl ?_
          refine c_geti (k := 9) (i := o5) C dX11_retryAt_84 rfl fX11_82 rfl (by decide) rfl hR c6 ?_
          exact c_ret1 C dX11_retryAt_87 rfl hR hF ⟨Nat.zero_le _, Nat.zero_le _⟩ h
        · replace h := iT c15 h
          refine vi_aload_n C dX11_retryAt_54 rfl rfl ?_
          refine vi_aload C dX11_retryAt_55 rfl rfl ?_
          refine c_gets (k := 7) (i := o7) C dX11_retryAt_57 rfl fX11_85 rfl (by decide) rfl hR c8 rfl ?_
          refine c_gets (k := 10) (i := o7) C dX11_retryAt_60 rfl fX11_156 rfl (by decide) rfl hR c8 rfl ?_
          refine vi_iload_n C dX11_retryAt_63 rfl rfl ?_
          refine c_iaload C dX11_retryAt_64 rfl rfl hR ⟨c8, by decide⟩ h (fun v13 h => ?_)
          refine c_cv0 (kc := 9) (a := (ad z x 9 (o5))) C [.int (v13)] [] dX11_retryAt_65 rfl ivX11_159 imX9_endBy rfl rfl (rcK hR c6) hR hF h (fun _ e => p_X9_endBy c6 e hR) rfl (Nat.le_of_ble_eq_true rfl) ⟨by decide, by decide⟩ ⟨Nat.le_refl _, Nat.le_refl _⟩ (fun S M14 h hR hF => ?_)
          refine vi_goto (t' := 83) C dX11_retryAt_68 (by decide) ?_
          refine vi_aload_n C dX11_retryAt_83 rfl rfl ?_
          refine c_geti (k := 9) (i := o5) C dX11_retryAt_84 rfl fX11_82 rfl (by decide) rfl hR c6 ?_
          exact c_ret1 C dX11_retryAt_87 rfl hR hF ⟨Nat.zero_le _, Nat.zero_le _⟩ h
      · replace h := iN c16 h
        refine vi_iconst (v := -1) C dX11_retryAt_30 rfl (by decide) ?_
        exact c_ret1 C dX11_retryAt_31 rfl hR hF ⟨Nat.zero_le _, Nat.zero_le _⟩ h

def F_X11_loseAt (N : Nat) (M : vC) (a1 : Int32) : Option (vC × Int32) := b2 (F_X3_take N M (a1)) fun M1 v2 => oc (v2) (zb ((0 : Int32)) (some (M1, (0 : Int32)))) (fun o3 => gd (o3 < 202) <| zb ((1 : Int32)) (some (M1, (1 : Int32))))

set_option maxRecDepth 100000 in
set_option maxHeartbeats 4000000 in
theorem p_X11_loseAt {N : Nat} {M : vC} {R : (vC × Int32)} {a1 : Int32}  (h : F_X11_loseAt N M a1 = some R) {E : vE} {S0 : vS} {z x d0 : Nat} (hR : RC S0 z x N d0 M) : vi_Met E yX11_loseAt cX11_loseAt 2 (some .boolean) 2 0 0 [.ref (ad z x 11 (0)), .int (a1)] S0 (cz M) (D1 S0 z x N d0 R) := by
  refine vi_met (by decide) (Nat.le_of_ble_eq_true rfl) ?_
  intro X C
  have hF := cF.refl S0 z x N d0
  unfold F_X11_loseAt at h
  refine vi_aload_n C dX11_loseAt_0 rfl rfl ?_
  refine c_gets (k := 11) (i := 0) C dX11_loseAt_1 rfl fX11_40 rfl (by decide) rfl hR (rfl : 0 = 0) rfl ?_
  refine vi_iload_n C dX11_loseAt_4 rfl rfl ?_
  refine c_cv3 (kc := 3) (a := (ad z x 3 (0))) (kt := 1) C [.int (a1)] [] dX11_loseAt_5 rfl ivX11_168 imX3_take rfl rfl (rcK hR (rfl : 0 = 0)) hR hF h (fun _ e => p_X3_take  e hR) rfl (Nat.le_of_ble_eq_true rfl) ⟨by decide, by decide⟩ ⟨Nat.le_refl _, Nat.le_refl _⟩ (fun S M1 v2 h hR hF => ?_)
  rcases oco h with ⟨rfl, hh⟩ | ⟨o3, rfl, hh⟩
  · replace h := hh
    clear hh
    refine vi_ifnull (o := none) (t' := 15) C dX11_loseAt_8 rfl (by decide) (fun _ => ?_) (fun e => absurd rfl e)
    refine vi_iconst (v := 0) C dX11_loseAt_15 rfl (by decide) ?_
    exact c_retz C dX11_loseAt_16 rfl hR hF ⟨Nat.zero_le _, Nat.zero_le _⟩ h
  · replace h := hh
    clear hh
    refine vi_ifnull (o := (some (ad z x 1 (o3)))) (t' := 15) C dX11_loseAt_8 rfl (by decide) (fun e => by cases e) (fun _ => ?_)
    obtain ⟨c4, h⟩ := gdo h
    refine vi_iconst (v := 1) C dX11_loseAt_11 rfl (by decide) ?_
    refine vi_goto (t' := 16) C dX11_loseAt_12 (by decide) ?_
    exact c_retz C dX11_loseAt_16 rfl hR hF ⟨Nat.zero_le _, Nat.zero_le _⟩ h

def F_X11_doubleAt (N : Nat) (M : vC) (a1 : Int32) : Option (vC × Int32) := b2 (F_X3_look N M (a1)) fun M1 v2 => oc (v2) (zb ((0 : Int32)) (some (M1, (0 : Int32)))) (fun o3 => gd (o3 < 202) <| if (cI M1 303 (0)) < (200 : Int32) then ((F_X3_repeat N M1 (o3)).bind fun M5 => zb ((1 : Int32)) (some (M5, (1 : Int32)))) else (zb ((0 : Int32)) (some (M1, (0 : Int32)))))

set_option maxRecDepth 100000 in
set_option maxHeartbeats 4000000 in
theorem p_X11_doubleAt {N : Nat} {M : vC} {R : (vC × Int32)} {a1 : Int32}  (h : F_X11_doubleAt N M a1 = some R) {E : vE} {S0 : vS} {z x d0 : Nat} (hR : RC S0 z x N d0 M) : vi_Met E yX11_doubleAt cX11_doubleAt 3 (some .boolean) 3 0 0 [.ref (ad z x 11 (0)), .int (a1)] S0 (cz M) (D1 S0 z x N d0 R) := by
  refine vi_met (by decide) (Nat.le_of_ble_eq_true rfl) ?_
  intro X C
  have hF := cF.refl S0 z x N d0
  unfold F_X11_doubleAt at h
  refine vi_aload_n C dX11_doubleAt_0 rfl rfl ?_
  refine c_gets (k := 11) (i := 0) C dX11_doubleAt_1 rfl fX11_40 rfl (by decide) rfl hR (rfl : 0 = 0) rfl ?_
  refine vi_iload_n C dX11_doubleAt_4 rfl rfl ?_
  refine c_cv3 (kc := 3) (a := (ad z x 3 (0))) (kt := 1) C [.int (a1)] [] dX11_doubleAt_5 rfl ivX11_191 imX3_look rfl rfl (rcK hR (rfl : 0 = 0)) hR hF h (fun _ e => p_X3_look  e hR) rfl (Nat.le_of_ble_eq_true rfl) ⟨by decide, by decide⟩ ⟨Nat.le_refl _, Nat.le_refl _⟩ (fun S M1 v2 h hR hF => ?_)
  refine vi_astore_nq (o := ((v2).map (ad z x 1))) C dX11_doubleAt_8 rfl (by decide) ?_
  refine vi_aload_nq (o := ((v2).map (ad z x 1))) C dX11_doubleAt_9 rfl rfl ?_
  rcases oco h with ⟨rfl, hh⟩ | ⟨o3, rfl, hh⟩
  · replace h := hh
    clear hh
    refine vi_ifnull (o := none) (t' := 26) C dX11_doubleAt_10 rfl (by decide) (fun _ => ?_) (fun e => absurd rfl e)
    refine vi_iconst (v := 0) C dX11_doubleAt_26 rfl (by decide) ?_
    exact c_retz C dX11_doubleAt_27 rfl hR hF ⟨Nat.zero_le _, Nat.zero_le _⟩ h
  · replace h := hh
    clear hh
    refine vi_ifnull (o := (some (ad z x 1 (o3)))) (t' := 26) C dX11_doubleAt_10 rfl (by decide) (fun e => by cases e) (fun _ => ?_)
    obtain ⟨c4, h⟩ := gdo h
    refine vi_aload_n C dX11_doubleAt_13 rfl rfl ?_
    refine c_gets (k := 11) (i := 0) C dX11_doubleAt_14 rfl fX11_40 rfl (by decide) rfl hR (rfl : 0 = 0) rfl ?_
    refine c_geti (k := 3) (i := 0) C dX11_doubleAt_17 rfl fX11_165 rfl (by decide) rfl hR (rfl : 0 = 0) ?_
    refine vi_sipush (v := 200) C dX11_doubleAt_20 rfl (by decide) ?_
    refine vi_icmp_lt (t' := 28) C dX11_doubleAt_23 rfl (by decide) (fun c6 => ?_) (fun c6 => ?_)
    · replace h := iT c6 h
      refine vi_aload_n C dX11_doubleAt_28 rfl rfl ?_
      refine c_gets (k := 11) (i := 0) C dX11_doubleAt_29 rfl fX11_40 rfl (by decide) rfl hR (rfl : 0 = 0) rfl ?_
      refine vi_aload_n C dX11_doubleAt_32 rfl rfl ?_
      refine c_cv0 (kc := 3) (a := (ad z x 3 (0))) C [.ref (ad z x 1 (o3))] [] dX11_doubleAt_33 rfl ivX11_194 imX3_repeat rfl rfl (rcK hR (rfl : 0 = 0)) hR hF h (fun _ e => p_X3_repeat c4 e hR) rfl (Nat.le_of_ble_eq_true rfl) ⟨by decide, by decide⟩ ⟨Nat.le_refl _, Nat.le_refl _⟩ (fun S M5 h hR hF => ?_)
      refine vi_iconst (v := 1) C dX11_doubleAt_36 rfl (by decide) ?_
      exact c_retz C dX11_doubleAt_37 rfl hR hF ⟨Nat.zero_le _, Nat.zero_le _⟩ h
    · replace h := iN c6 h
      refine vi_iconst (v := 0) C dX11_doubleAt_26 rfl (by decide) ?_
      exact c_retz C dX11_doubleAt_27 rfl hR hF ⟨Nat.zero_le _, Nat.zero_le _⟩ h

def F_X11_spoilAt (N : Nat) (M : vC) (a1 : Int32) (a2 : Int32) (a3 : Int32) : Option (vC × Int32) := b2 (F_X3_look N M (a1)) fun M1 v2 => oc (v2) (zb ((0 : Int32)) (some (M1, (0 : Int32)))) (fun o3 => gd (o3 < 202) <| b2 (F_X1_isSpoilt N M1 (o3)) fun M5 v6 => if v6 = 0 then (if a2 < 0 then (zb ((0 : Int32)) (some (M5, (0 : Int32)))) else (if a3 < 0 then (zb ((0 : Int32)) (some (M5, (0 : Int32)))) else (if a3 ≤ (7 : Int32) then ((F_X1_writeTo N M5 (o3) (0)).bind fun M7 => if a2 < (cI M7 1 (0)) then (lt1 (uI M7 109 (o3) (a2)) fun M8 => lt1 (uI M8 110 (o3) (a3)) fun M9 => zb ((1 : Int32)) (some (M9, (1 : Int32)))) else (zb ((0 : Int32)) (some (M7, (0 : Int32))))) else (zb ((0 : Int32)) (some (M5, (0 : Int32))))))) else (zb ((0 : Int32)) (some (M5, (0 : Int32)))))

set_option maxRecDepth 100000 in
set_option maxHeartbeats 4000000 in
theorem p_X11_spoilAt {N : Nat} {M : vC} {R : (vC × Int32)} {a1 : Int32} {a2 : Int32} {a3 : Int32}  (h : F_X11_spoilAt N M a1 a2 a3 = some R) {E : vE} {S0 : vS} {z x d0 : Nat} (hR : RC S0 z x N d0 M) : vi_Met E yX11_spoilAt cX11_spoilAt 5 (some .boolean) 4 0 0 [.ref (ad z x 11 (0)), .int (a1), .int (a2), .int (a3)] S0 (cz M) (D1 S0 z x N d0 R) := by
  refine vi_met (by decide) (Nat.le_of_ble_eq_true rfl) ?_
  intro X C
  have hF := cF.refl S0 z x N d0
  unfold F_X11_spoilAt at h
  refine vi_aload_n C dX11_spoilAt_0 rfl rfl ?_
  refine c_gets (k := 11) (i := 0) C dX11_spoilAt_1 rfl fX11_40 rfl (by decide) rfl hR (rfl : 0 = 0) rfl ?_
  refine vi_iload_n C dX11_spoilAt_4 rfl rfl ?_
  refine c_cv3 (kc := 3) (a := (ad z x 3 (0))) (kt := 1) C [.int (a1)] [] dX11_spoilAt_5 rfl ivX11_191 imX3_look rfl rfl (rcK hR (rfl : 0 = 0)) hR hF h (fun _ e => p_X3_look  e hR) rfl (Nat.le_of_ble_eq_true rfl) ⟨by decide, by decide⟩ ⟨Nat.le_refl _, Nat.le_refl _⟩ (fun S M1 v2 h hR hF => ?_)
  refine vi_astoreq (o := ((v2).map (ad z x 1))) C dX11_spoilAt_8 rfl (by decide) ?_
  refine vi_aloadq (o := ((v2).map (ad z x 1))) C dX11_spoilAt_10 rfl rfl ?_
  rcases oco h with ⟨rfl, hh⟩ | ⟨o3, rfl, hh⟩
  · replace h := hh
    clear hh
    refine vi_ifnull (o := none) (t' := 37) C dX11_spoilAt_12 rfl (by decide) (fun _ => ?_) (fun e => absurd rfl e)
    refine vi_iconst (v := 0) C dX11_spoilAt_37 rfl (by decide) ?_
    exact c_retz C dX11_spoilAt_38 rfl hR hF ⟨Nat.zero_le _, Nat.zero_le _⟩ h
  · replace h := hh
    clear hh
    refine vi_ifnull (o := (some (ad z x 1 (o3)))) (t' := 37) C dX11_spoilAt_12 rfl (by decide) (fun e => by cases e) (fun _ => ?_)
    obtain ⟨c4, h⟩ := gdo h
    refine vi_aload C dX11_spoilAt_15 rfl rfl ?_
    refine c_cv1 (kc := 1) (a := (ad z x 1 (o3))) C [] [] dX11_spoilAt_17 rfl ivX11_172 imX1_isSpoilt rfl rfl (rcK hR c4) hR hF h (fun _ e => p_X1_isSpoilt c4 e hR) rfl (Nat.le_of_ble_eq_true rfl) ⟨by decide, by decide⟩ ⟨Nat.le_refl _, Nat.le_refl _⟩ (fun S M5 v6 h hR hF => ?_)
    refine vi_if_ne (t' := 37) C dX11_spoilAt_20 rfl (by decide) (fun c14 => ?_) (fun c14 => ?_)
    · replace h := iN c14 h
      refine vi_iconst (v := 0) C dX11_spoilAt_37 rfl (by decide) ?_
      exact c_retz C dX11_spoilAt_38 rfl hR hF ⟨Nat.zero_le _, Nat.zero_le _⟩ h
    · replace h := iT c14 h
      refine vi_iload_n C dX11_spoilAt_23 rfl rfl ?_
      refine vi_if_lt (t' := 37) C dX11_spoilAt_24 rfl (by decide) (fun c13 => ?_) (fun c13 => ?_)
      · replace h := iT c13 h
        refine vi_iconst (v := 0) C dX11_spoilAt_37 rfl (by decide) ?_
        exact c_retz C dX11_spoilAt_38 rfl hR hF ⟨Nat.zero_le _, Nat.zero_le _⟩ h
      · replace h := iN c13 h
        refine vi_iload_n C dX11_spoilAt_27 rfl rfl ?_
        refine vi_if_lt (t' := 37) C dX11_spoilAt_28 rfl (by decide) (fun c12 => ?_) (fun c12 => ?_)
        · replace h := iT c12 h
          refine vi_iconst (v := 0) C dX11_spoilAt_37 rfl (by decide) ?_
          exact c_retz C dX11_spoilAt_38 rfl hR hF ⟨Nat.zero_le _, Nat.zero_le _⟩ h
        · replace h := iN c12 h
          refine vi_iload_n C dX11_spoilAt_31 rfl rfl ?_
          refine vi_bipush (v := 7) C dX11_spoilAt_32 rfl (by decide) ?_
          refine vi_icmp_le (t' := 39) C dX11_spoilAt_34 rfl (by decide) (fun c11 => ?_) (fun c11 => ?_)
          · replace h := iT c11 h
            refine vi_aload C dX11_spoilAt_39 rfl rfl ?_
            refine vi_aload_n C dX11_spoilAt_41 rfl rfl ?_
            refine c_gets (k := 11) (i := 0) C dX11_spoilAt_42 rfl fX11_33 rfl (by decide) rfl hR (rfl : 0 = 0) rfl ?_
            refine c_cv0 (kc := 1) (a := (ad z x 1 (o3))) C [.ref (ad z x 0 (0))] [] dX11_spoilAt_45 rfl ivX11_197 imX1_writeTo rfl rfl (rcK hR c4) hR hF h (fun _ e => p_X1_writeTo c4 (show 0 < 3 from by decide) e hR) rfl (Nat.le_of_ble_eq_true rfl) ⟨by decide, by decide⟩ ⟨Nat.le_refl _, Nat.le_refl _⟩ (fun S M7 h hR hF => ?_)
            refine vi_iload_n C dX11_spoilAt_48 rfl rfl ?_
            refine vi_aload_n C dX11_spoilAt_49 rfl rfl ?_
            refine c_gets (k := 11) (i := 0) C dX11_spoilAt_50 rfl fX11_33 rfl (by decide) rfl hR (rfl : 0 = 0) rfl ?_
            refine c_geti (k := 0) (i := 0) C dX11_spoilAt_53 rfl fX11_200 rfl (by decide) rfl hR (show 0 < 3 from by decide) ?_
            refine vi_icmp_lt (t' := 61) C dX11_spoilAt_56 rfl (by decide) (fun c10 => ?_) (fun c10 => ?_)
            · replace h := iT c10 h
              refine vi_aload C dX11_spoilAt_61 rfl rfl ?_
              refine vi_iload_n C dX11_spoilAt_63 rfl rfl ?_
              refine c_puti (k := 1) (i := o3) C dX11_spoilAt_64 rfl (fpX11_203 _) rfl (by decide) rfl hR hF c4 h (fun S M8 h hR hF => ?_)
              refine vi_aload C dX11_spoilAt_67 rfl rfl ?_
              refine vi_iload_n C dX11_spoilAt_69 rfl rfl ?_
              refine c_puti (k := 1) (i := o3) C dX11_spoilAt_70 rfl (fpX11_206 _) rfl (by decide) rfl hR hF c4 h (fun S M9 h hR hF => ?_)
              refine vi_iconst (v := 1) C dX11_spoilAt_73 rfl (by decide) ?_
              exact c_retz C dX11_spoilAt_74 rfl hR hF ⟨Nat.zero_le _, Nat.zero_le _⟩ h
            · replace h := iN c10 h
              refine vi_iconst (v := 0) C dX11_spoilAt_59 rfl (by decide) ?_
              exact c_retz C dX11_spoilAt_60 rfl hR hF ⟨Nat.zero_le _, Nat.zero_le _⟩ h
          · replace h := iN c11 h
            refine vi_iconst (v := 0) C dX11_spoilAt_37 rfl (by decide) ?_
            exact c_retz C dX11_spoilAt_38 rfl hR hF ⟨Nat.zero_le _, Nat.zero_le _⟩ h

def F_X11_crashAfter (N : Nat) (M : vC) (a1 : Int32) (a2 : Int32) : Option (vC × Int32) := b2 (F_X11_upNumber N M (a1)) fun M1 v2 => oc (v2) (zb ((0 : Int32)) (some (M1, (0 : Int32)))) (fun o3 => gd (o3 < N) <| if a2 ≤ (1000 : Int32) then (if 0 ≤ a2 then (lt1 (uI M1 205 (o3) (a2)) fun M5 => zb ((1 : Int32)) (some (M5, (1 : Int32)))) else (lt1 (uI M1 205 (o3) ((-1 : Int32))) fun M6 => zb ((1 : Int32)) (some (M6, (1 : Int32))))) else (zb ((0 : Int32)) (some (M1, (0 : Int32)))))

set_option maxRecDepth 100000 in
set_option maxHeartbeats 4000000 in
theorem p_X11_crashAfter {N : Nat} {M : vC} {R : (vC × Int32)} {a1 : Int32} {a2 : Int32}  (h : F_X11_crashAfter N M a1 a2 = some R) {E : vE} {S0 : vS} {z x d0 : Nat} (hR : RC S0 z x N d0 M) : vi_Met E yX11_crashAfter cX11_crashAfter 4 (some .boolean) 2 0 0 [.ref (ad z x 11 (0)), .int (a1), .int (a2)] S0 (cz M) (D1 S0 z x N d0 R) := by
  refine vi_met (by decide) (Nat.le_of_ble_eq_true rfl) ?_
  intro X C
  have hF := cF.refl S0 z x N d0
  unfold F_X11_crashAfter at h
  refine vi_aload_n C dX11_crashAfter_0 rfl rfl ?_
  refine vi_iload_n C dX11_crashAfter_1 rfl rfl ?_
  refine c_cv3 (kc := 11) (a := (ad z x 11 (0))) (kt := 7) C [.int (a1)] [] dX11_crashAfter_2 rfl ivX11_78 imX11_upNumber rfl rfl (rcK hR (rfl : 0 = 0)) hR hF h (fun _ e => p_X11_upNumber  e hR) rfl (Nat.le_of_ble_eq_true rfl) ⟨by decide, by decide⟩ ⟨Nat.le_refl _, Nat.le_refl _⟩ (fun S M1 v2 h hR hF => ?_)
  refine vi_astore_nq (o := ((v2).map (ad z x 7))) C dX11_crashAfter_5 rfl (by decide) ?_
  refine vi_aload_nq (o := ((v2).map (ad z x 7))) C dX11_crashAfter_6 rfl rfl ?_
  rcases oco h with ⟨rfl, hh⟩ | ⟨o3, rfl, hh⟩
  · replace h := hh
    clear hh
    refine vi_ifnull (o := none) (t' := 17) C dX11_crashAfter_7 rfl (by decide) (fun _ => ?_) (fun e => absurd rfl e)
    refine vi_iconst (v := 0) C dX11_crashAfter_17 rfl (by decide) ?_
    exact c_retz C dX11_crashAfter_18 rfl hR hF ⟨Nat.zero_le _, Nat.zero_le _⟩ h
  · replace h := hh
    clear hh
    refine vi_ifnull (o := (some (ad z x 7 (o3)))) (t' := 17) C dX11_crashAfter_7 rfl (by decide) (fun e => by cases e) (fun _ => ?_)
    obtain ⟨c4, h⟩ := gdo h
    refine vi_iload_n C dX11_crashAfter_10 rfl rfl ?_
    refine vi_sipush (v := 1000) C dX11_crashAfter_11 rfl (by decide) ?_
    refine vi_icmp_le (t' := 19) C dX11_crashAfter_14 rfl (by decide) (fun c8 => ?_) (fun c8 => ?_)
    · replace h := iT c8 h
      refine vi_aload_n C dX11_crashAfter_19 rfl rfl ?_
      refine c_gets (k := 7) (i := o3) C dX11_crashAfter_20 rfl fX11_221 rfl (by decide) rfl hR c4 rfl ?_
      refine vi_iload_n C dX11_crashAfter_23 rfl rfl ?_
      refine vi_if_ge (t' := 31) C dX11_crashAfter_24 rfl (by decide) (fun c7 => ?_) (fun c7 => ?_)
      · replace h := iT c7 h
        refine vi_iload_n C dX11_crashAfter_31 rfl rfl ?_
        refine c_puti (k := 2) (i := o3) C dX11_crashAfter_32 rfl (fpX11_225 _) rfl (by decide) rfl hR hF c4 h (fun S M5 h hR hF => ?_)
        refine vi_iconst (v := 1) C dX11_crashAfter_35 rfl (by decide) ?_
        exact c_retz C dX11_crashAfter_36 rfl hR hF ⟨Nat.zero_le _, Nat.zero_le _⟩ h
      · replace h := iN c7 h
        refine vi_iconst (v := -1) C dX11_crashAfter_27 rfl (by decide) ?_
        refine vi_goto (t' := 32) C dX11_crashAfter_28 (by decide) ?_
        refine c_puti (k := 2) (i := o3) C dX11_crashAfter_32 rfl (fpX11_225 _) rfl (by decide) rfl hR hF c4 h (fun S M6 h hR hF => ?_)
        refine vi_iconst (v := 1) C dX11_crashAfter_35 rfl (by decide) ?_
        exact c_retz C dX11_crashAfter_36 rfl hR hF ⟨Nat.zero_le _, Nat.zero_le _⟩ h
    · replace h := iN c8 h
      refine vi_iconst (v := 0) C dX11_crashAfter_17 rfl (by decide) ?_
      exact c_retz C dX11_crashAfter_18 rfl hR hF ⟨Nat.zero_le _, Nat.zero_le _⟩ h

def F_X11_replicaOf (N : Nat) (M : vC) (a1 : Int32) (a2 : Int32) : Option (vC × Int32) := b2 (F_X11_replicaNumber N M (a1)) fun M1 v2 => oc (v2) (some (M1, (-1 : Int32))) (fun o3 => gd (o3 < N) <| if a2 = 0 then (if (cI M1 711 (o3)) = 0 then (some (M1, (0 : Int32))) else (some (M1, (1 : Int32)))) else (if (cI M1 711 (o3)) = 0 then (some (M1, (-1 : Int32))) else (b2 (F_X7_tell N M1 (o3) (a2)) fun M5 v6 => some (M5, v6))))

set_option maxRecDepth 100000 in
set_option maxHeartbeats 4000000 in
theorem p_X11_replicaOf {N : Nat} {M : vC} {R : (vC × Int32)} {a1 : Int32} {a2 : Int32}  (h : F_X11_replicaOf N M a1 a2 = some R) {E : vE} {S0 : vS} {z x d0 : Nat} (hR : RC S0 z x N d0 M) : vi_Met E yX11_replicaOf cX11_replicaOf 4 (some .int) 2 0 0 [.ref (ad z x 11 (0)), .int (a1), .int (a2)] S0 (cz M) (D1 S0 z x N d0 R) := by
  refine vi_met (by decide) (Nat.le_of_ble_eq_true rfl) ?_
  intro X C
  have hF := cF.refl S0 z x N d0
  unfold F_X11_replicaOf at h
  refine vi_aload_n C dX11_replicaOf_0 rfl rfl ?_
  refine vi_iload_n C dX11_replicaOf_1 rfl rfl ?_
  refine c_cv3 (kc := 11) (a := (ad z x 11 (0))) (kt := 7) C [.int (a1)] [] dX11_replicaOf_2 rfl ivX11_209 imX11_replicaNumber rfl rfl (rcK hR (rfl : 0 = 0)) hR hF h (fun _ e => p_X11_replicaNumber  e hR) rfl (Nat.le_of_ble_eq_true rfl) ⟨by decide, by decide⟩ ⟨Nat.le_refl _, Nat.le_refl _⟩ (fun S M1 v2 h hR hF => ?_)
  refine vi_astore_nq (o := ((v2).map (ad z x 7))) C dX11_replicaOf_5 rfl (by decide) ?_
  refine vi_aload_nq (o := ((v2).map (ad z x 7))) C dX11_replicaOf_6 rfl rfl ?_
  rcases oco h with ⟨rfl, hh⟩ | ⟨o3, rfl, hh⟩
  · replace h := hh
    clear hh
    refine vi_ifnonnull (o := none) (t' := 12) C dX11_replicaOf_7 rfl (by decide) (fun e => absurd rfl e) (fun _ => ?_)
    refine vi_iconst (v := -1) C dX11_replicaOf_10 rfl (by decide) ?_
    exact c_ret1 C dX11_replicaOf_11 rfl hR hF ⟨Nat.zero_le _, Nat.zero_le _⟩ h
  · replace h := hh
    clear hh
    refine vi_ifnonnull (o := (some (ad z x 7 (o3)))) (t' := 12) C dX11_replicaOf_7 rfl (by decide) (fun _ => ?_) (fun e => by cases e)
    obtain ⟨c4, h⟩ := gdo h
    refine vi_iload_n C dX11_replicaOf_12 rfl rfl ?_
    refine vi_if_ne (t' := 29) C dX11_replicaOf_13 rfl (by decide) (fun c9 => ?_) (fun c9 => ?_)
    · replace h := iN c9 h
      refine vi_aload_n C dX11_replicaOf_29 rfl rfl ?_
      refine c_geti (k := 7) (i := o3) C dX11_replicaOf_30 rfl fX11_212 rfl (by decide) rfl hR c4 ?_
      refine vi_if_eq (t' := 44) C dX11_replicaOf_33 rfl (by decide) (fun c7 => ?_) (fun c7 => ?_)
      · replace h := iT c7 h
        refine vi_iconst (v := -1) C dX11_replicaOf_44 rfl (by decide) ?_
        exact c_ret1 C dX11_replicaOf_45 rfl hR hF ⟨Nat.zero_le _, Nat.zero_le _⟩ h
      · replace h := iN c7 h
        refine vi_aload_n C dX11_replicaOf_36 rfl rfl ?_
        refine vi_iload_n C dX11_replicaOf_37 rfl rfl ?_
        refine c_cv1 (kc := 7) (a := (ad z x 7 (o3))) C [.int (a2)] [] dX11_replicaOf_38 rfl ivX11_228 imX7_tell rfl rfl (rcK hR c4) hR hF h (fun _ e => p_X7_tell c4 e hR) rfl (Nat.le_of_ble_eq_true rfl) ⟨by decide, by decide⟩ ⟨Nat.le_refl _, Nat.le_refl _⟩ (fun S M5 v6 h hR hF => ?_)
        refine vi_goto (t' := 45) C dX11_replicaOf_41 (by decide) ?_
        exact c_ret1 C dX11_replicaOf_45 rfl hR hF ⟨Nat.zero_le _, Nat.zero_le _⟩ h
    · replace h := iT c9 h
      refine vi_aload_n C dX11_replicaOf_16 rfl rfl ?_
      refine c_geti (k := 7) (i := o3) C dX11_replicaOf_17 rfl fX11_212 rfl (by decide) rfl hR c4 ?_
      refine vi_if_eq (t' := 27) C dX11_replicaOf_20 rfl (by decide) (fun c8 => ?_) (fun c8 => ?_)
      · replace h := iT c8 h
        refine vi_iconst (v := 0) C dX11_replicaOf_27 rfl (by decide) ?_
        exact c_ret1 C dX11_replicaOf_28 rfl hR hF ⟨Nat.zero_le _, Nat.zero_le _⟩ h
      · replace h := iN c8 h
        refine vi_iconst (v := 1) C dX11_replicaOf_23 rfl (by decide) ?_
        refine vi_goto (t' := 28) C dX11_replicaOf_24 (by decide) ?_
        exact c_ret1 C dX11_replicaOf_28 rfl hR hF ⟨Nat.zero_le _, Nat.zero_le _⟩ h

def F_X11_journalOf (N : Nat) (M : vC) (a1 : Int32) (a2 : Int32) : Option (vC × Int32) := b2 (F_X11_replicaNumber N M (a1)) fun M1 v2 => oc (v2) (some (M1, (-1 : Int32))) (fun o3 => gd (o3 < N) <| if (cI M1 711 (o3)) = 0 then (if (4 : Int32) ≤ a2 then (b2 (F_X2_tell N M1 (o3) (a2)) fun M7 v8 => some (M7, v8)) else (some (M1, (-1 : Int32)))) else (b2 (F_X2_tell N M1 (o3) (a2)) fun M5 v6 => some (M5, v6)))

set_option maxRecDepth 100000 in
set_option maxHeartbeats 4000000 in
theorem p_X11_journalOf {N : Nat} {M : vC} {R : (vC × Int32)} {a1 : Int32} {a2 : Int32}  (h : F_X11_journalOf N M a1 a2 = some R) {E : vE} {S0 : vS} {z x d0 : Nat} (hR : RC S0 z x N d0 M) : vi_Met E yX11_journalOf cX11_journalOf 4 (some .int) 1 0 0 [.ref (ad z x 11 (0)), .int (a1), .int (a2)] S0 (cz M) (D1 S0 z x N d0 R) := by
  refine vi_met (by decide) (Nat.le_of_ble_eq_true rfl) ?_
  intro X C
  have hF := cF.refl S0 z x N d0
  unfold F_X11_journalOf at h
  refine vi_aload_n C dX11_journalOf_0 rfl rfl ?_
  refine vi_iload_n C dX11_journalOf_1 rfl rfl ?_
  refine c_cv3 (kc := 11) (a := (ad z x 11 (0))) (kt := 7) C [.int (a1)] [] dX11_journalOf_2 rfl ivX11_209 imX11_replicaNumber rfl rfl (rcK hR (rfl : 0 = 0)) hR hF h (fun _ e => p_X11_replicaNumber  e hR) rfl (Nat.le_of_ble_eq_true rfl) ⟨by decide, by decide⟩ ⟨Nat.le_refl _, Nat.le_refl _⟩ (fun S M1 v2 h hR hF => ?_)
  refine vi_astore_nq (o := ((v2).map (ad z x 7))) C dX11_journalOf_5 rfl (by decide) ?_
  refine vi_aload_nq (o := ((v2).map (ad z x 7))) C dX11_journalOf_6 rfl rfl ?_
  rcases oco h with ⟨rfl, hh⟩ | ⟨o3, rfl, hh⟩
  · replace h := hh
    clear hh
    refine vi_ifnull (o := none) (t' := 22) C dX11_journalOf_7 rfl (by decide) (fun _ => ?_) (fun e => absurd rfl e)
    refine vi_iconst (v := -1) C dX11_journalOf_22 rfl (by decide) ?_
    exact c_ret1 C dX11_journalOf_23 rfl hR hF ⟨Nat.zero_le _, Nat.zero_le _⟩ h
  · replace h := hh
    clear hh
    refine vi_ifnull (o := (some (ad z x 7 (o3)))) (t' := 22) C dX11_journalOf_7 rfl (by decide) (fun e => by cases e) (fun _ => ?_)
    obtain ⟨c4, h⟩ := gdo h
    refine vi_aload_n C dX11_journalOf_10 rfl rfl ?_
    refine c_geti (k := 7) (i := o3) C dX11_journalOf_11 rfl fX11_212 rfl (by decide) rfl hR c4 ?_
    refine vi_if_ne (t' := 24) C dX11_journalOf_14 rfl (by decide) (fun c10 => ?_) (fun c10 => ?_)
    · replace h := iN c10 h
      refine vi_aload_n C dX11_journalOf_24 rfl rfl ?_
      refine c_gets (k := 7) (i := o3) C dX11_journalOf_25 rfl fX11_221 rfl (by decide) rfl hR c4 rfl ?_
      refine vi_iload_n C dX11_journalOf_28 rfl rfl ?_
      refine c_cv1 (kc := 2) (a := (ad z x 2 (o3))) C [.int (a2)] [] dX11_journalOf_29 rfl ivX11_232 imX2_tell rfl rfl (rcK hR c4) hR hF h (fun _ e => p_X2_tell c4 e hR) rfl (Nat.le_of_ble_eq_true rfl) ⟨by decide, by decide⟩ ⟨Nat.le_refl _, Nat.le_refl _⟩ (fun S M5 v6 h hR hF => ?_)
      exact c_ret1 C dX11_journalOf_32 rfl hR hF ⟨Nat.zero_le _, Nat.zero_le _⟩ h
    · replace h := iT c10 h
      refine vi_iload_n C dX11_journalOf_17 rfl rfl ?_
      refine vi_iconst (v := 4) C dX11_journalOf_18 rfl (by decide) ?_
      refine vi_icmp_ge (t' := 24) C dX11_journalOf_19 rfl (by decide) (fun c9 => ?_) (fun c9 => ?_)
      · replace h := iT c9 h
        refine vi_aload_n C dX11_journalOf_24 rfl rfl ?_
        refine c_gets (k := 7) (i := o3) C dX11_journalOf_25 rfl fX11_221 rfl (by decide) rfl hR c4 rfl ?_
        refine vi_iload_n C dX11_journalOf_28 rfl rfl ?_
        refine c_cv1 (kc := 2) (a := (ad z x 2 (o3))) C [.int (a2)] [] dX11_journalOf_29 rfl ivX11_232 imX2_tell rfl rfl (rcK hR c4) hR hF h (fun _ e => p_X2_tell c4 e hR) rfl (Nat.le_of_ble_eq_true rfl) ⟨by decide, by decide⟩ ⟨Nat.le_refl _, Nat.le_refl _⟩ (fun S M7 v8 h hR hF => ?_)
        exact c_ret1 C dX11_journalOf_32 rfl hR hF ⟨Nat.zero_le _, Nat.zero_le _⟩ h
      · replace h := iN c9 h
        refine vi_iconst (v := -1) C dX11_journalOf_22 rfl (by decide) ?_
        exact c_ret1 C dX11_journalOf_23 rfl hR hF ⟨Nat.zero_le _, Nat.zero_le _⟩ h

def F_X11_blockOf (N : Nat) (M : vC) (a1 : Int32) (a2 : Int32) (a3 : Int32) : Option (vC × Int64) := b2 (F_X11_replicaNumber N M (a1)) fun M1 v2 => oc (v2) (some (M1, (0 : Int64))) (fun o3 => gd (o3 < N) <| if a2 < 0 then (some (M1, (0 : Int64))) else (if (64 : Int32) ≤ a2 then (some (M1, (0 : Int64))) else (if a3 < 0 then (some (M1, (0 : Int64))) else (if a3 < (64 : Int32) then ((cGJ M1 (o3) (((a2 * (64 : Int32)) + a3))).bind fun v5 => some (M1, v5)) else (some (M1, (0 : Int64)))))))

set_option maxRecDepth 100000 in
set_option maxHeartbeats 4000000 in
theorem p_X11_blockOf {N : Nat} {M : vC} {R : (vC × Int64)} {a1 : Int32} {a2 : Int32} {a3 : Int32}  (h : F_X11_blockOf N M a1 a2 a3 = some R) {E : vE} {S0 : vS} {z x d0 : Nat} (hR : RC S0 z x N d0 M) : vi_Met E yX11_blockOf cX11_blockOf 5 (some .long) 1 0 0 [.ref (ad z x 11 (0)), .int (a1), .int (a2), .int (a3)] S0 (cz M) (D2 S0 z x N d0 R) := by
  refine vi_met (by decide) (Nat.le_of_ble_eq_true rfl) ?_
  intro X C
  have hF := cF.refl S0 z x N d0
  unfold F_X11_blockOf at h
  refine vi_aload_n C dX11_blockOf_0 rfl rfl ?_
  refine vi_iload_n C dX11_blockOf_1 rfl rfl ?_
  refine c_cv3 (kc := 11) (a := (ad z x 11 (0))) (kt := 7) C [.int (a1)] [] dX11_blockOf_2 rfl ivX11_209 imX11_replicaNumber rfl rfl (rcK hR (rfl : 0 = 0)) hR hF h (fun _ e => p_X11_replicaNumber  e hR) rfl (Nat.le_of_ble_eq_true rfl) ⟨by decide, by decide⟩ ⟨Nat.le_refl _, Nat.le_refl _⟩ (fun S M1 v2 h hR hF => ?_)
  refine vi_astoreq (o := ((v2).map (ad z x 7))) C dX11_blockOf_5 rfl (by decide) ?_
  refine vi_aloadq (o := ((v2).map (ad z x 7))) C dX11_blockOf_7 rfl rfl ?_
  rcases oco h with ⟨rfl, hh⟩ | ⟨o3, rfl, hh⟩
  · replace h := hh
    clear hh
    refine vi_ifnull (o := none) (t' := 32) C dX11_blockOf_9 rfl (by decide) (fun _ => ?_) (fun e => absurd rfl e)
    refine vi_lconst (v := 0) C dX11_blockOf_32 rfl (by decide) ?_
    exact c_ret2 C dX11_blockOf_33 rfl hR hF ⟨Nat.zero_le _, Nat.zero_le _⟩ h
  · replace h := hh
    clear hh
    refine vi_ifnull (o := (some (ad z x 7 (o3)))) (t' := 32) C dX11_blockOf_9 rfl (by decide) (fun e => by cases e) (fun _ => ?_)
    obtain ⟨c4, h⟩ := gdo h
    refine vi_iload_n C dX11_blockOf_12 rfl rfl ?_
    refine vi_if_lt (t' := 32) C dX11_blockOf_13 rfl (by decide) (fun c9 => ?_) (fun c9 => ?_)
    · replace h := iT c9 h
      refine vi_lconst (v := 0) C dX11_blockOf_32 rfl (by decide) ?_
      exact c_ret2 C dX11_blockOf_33 rfl hR hF ⟨Nat.zero_le _, Nat.zero_le _⟩ h
    · replace h := iN c9 h
      refine vi_iload_n C dX11_blockOf_16 rfl rfl ?_
      refine vi_bipush (v := 64) C dX11_blockOf_17 rfl (by decide) ?_
      refine vi_icmp_ge (t' := 32) C dX11_blockOf_19 rfl (by decide) (fun c8 => ?_) (fun c8 => ?_)
      · replace h := iT c8 h
        refine vi_lconst (v := 0) C dX11_blockOf_32 rfl (by decide) ?_
        exact c_ret2 C dX11_blockOf_33 rfl hR hF ⟨Nat.zero_le _, Nat.zero_le _⟩ h
      · replace h := iN c8 h
        refine vi_iload_n C dX11_blockOf_22 rfl rfl ?_
        refine vi_if_lt (t' := 32) C dX11_blockOf_23 rfl (by decide) (fun c7 => ?_) (fun c7 => ?_)
        · replace h := iT c7 h
          refine vi_lconst (v := 0) C dX11_blockOf_32 rfl (by decide) ?_
          exact c_ret2 C dX11_blockOf_33 rfl hR hF ⟨Nat.zero_le _, Nat.zero_le _⟩ h
        · replace h := iN c7 h
          refine vi_iload_n C dX11_blockOf_26 rfl rfl ?_
          refine vi_bipush (v := 64) C dX11_blockOf_27 rfl (by decide) ?_
          refine vi_icmp_lt (t' := 34) C dX11_blockOf_29 rfl (by decide) (fun c6 => ?_) (fun c6 => ?_)
          · replace h := iT c6 h
            refine vi_aload C dX11_blockOf_34 rfl rfl ?_
            refine c_gets (k := 7) (i := o3) C dX11_blockOf_36 rfl fX11_221 rfl (by decide) rfl hR c4 rfl ?_
            refine c_gets (k := 2) (i := o3) C dX11_blockOf_39 rfl fX11_233 rfl (by decide) rfl hR c4 rfl ?_
            refine vi_iload_n C dX11_blockOf_42 rfl rfl ?_
            refine vi_bipush (v := 64) C dX11_blockOf_43 rfl (by decide) ?_
            refine vi_imul C dX11_blockOf_45 rfl ?_
            refine vi_iload_n C dX11_blockOf_46 rfl rfl ?_
            refine vi_iadd C dX11_blockOf_47 rfl ?_
            refine c_laload C dX11_blockOf_48 rfl hR c4 h (fun v5 h => ?_)
            exact c_ret2 C dX11_blockOf_49 rfl hR hF ⟨Nat.zero_le _, Nat.zero_le _⟩ h
          · replace h := iN c6 h
            refine vi_lconst (v := 0) C dX11_blockOf_32 rfl (by decide) ?_
            exact c_ret2 C dX11_blockOf_33 rfl hR hF ⟨Nat.zero_le _, Nat.zero_le _⟩ h

def L_X11_frameOf_43 {ρ : Type} (N : Nat) (l2 : Int32) (l3 : Nat) (kx103 : vC → Int64 → Option ρ) : Nat → vC → Int64 → Int32 → Option ρ
  | 0, _, _, _ => none
  | f + 1, M, l4, l6 => if (((8 : Int32) * l2) + (8 : Int32)) ≤ l6 then (kx103 M (l4)) else (jn (fun (s0_74 : Int32) => b2 (F_X0_byteAt N M (0) (l6)) fun M8 v9 => L_X11_frameOf_43 N l2 l3 kx103 f M8 (((l4 <<< (((8 : Int32)).toInt64 &&& 63)) ||| ((v9 ^^^ s0_74)).toInt64)) ((l6 + (1)))) (fun k74_6 => if l6 = (cI M 109 (l3)) then ((k74_6 (((1 : Int32) <<< ((cI M 110 (l3)) &&& 31))))) else ((k74_6 ((0 : Int32))))))

def F_X11_frameOf (N : Nat) (M : vC) (a1 : Int32) (a2 : Int32) : Option (vC × Int64) := b2 (F_X3_look N M (a1)) fun M1 v2 => oc (v2) (some (M1, (0 : Int64))) (fun o3 => gd (o3 < 202) <| if a2 < 0 then (some (M1, (0 : Int64))) else (if a2 < (256 : Int32) then ((F_X1_writeTo N M1 (o3) (0)).bind fun M5 => L_X11_frameOf_43 N (a2) (o3) (fun (M11 : vC) (l12 : Int64) => some (M11, l12)) fu M5 ((0 : Int64)) (((8 : Int32) * a2))) else (some (M1, (0 : Int64)))))

set_option maxRecDepth 100000 in
set_option maxHeartbeats 4000000 in
theorem w_X11_frameOf_43 {E : vE} {X : vX} {S0 : vS} {z x N d0 : Nat} {ρ : Type} {R : ρ} {Z : State → Prop} {l2 : Int32} {l3 : Nat} {kx103 : vC → Int64 → Option ρ} (hl3 : l3 < 202) (C : vi_C E X yX11_frameOf cX11_frameOf 8 (some .long) 4 0 0 (45 * 4)) (hx103 : ∀ (M : vC) (l4 : Int64), kx103 M l4 = some R → ∀ S, RC S z x N d0 M → cF S0 S z x N d0 → vi_W E X 8 Z 103 [(4, .long (l4))] [] S (cz M) 0 0) : ∀ (f : Nat) (M : vC) (l4 : Int64) (l6 : Int32), L_X11_frameOf_43 N l2 l3 kx103 f M l4 l6 = some R → ∀ S, RC S z x N d0 M → cF S0 S z x N d0 → vi_W E X 8 Z 43 [(0, .ref (ad z x 11 (0))), (2, .int (l2)), (3, .ref (ad z x 1 (l3))), (4, .long (l4)), (6, .int (l6))] [] S (cz M) 0 0 := by
  intro f
  induction f with
  | zero => intro M l4 l6 h; cases h
  | succ f ih =>
    intro M l4 l6 h S hR hF
    rw [L_X11_frameOf_43] at h
    refine vi_iload C dX11_frameOf_43 rfl rfl ?_
    refine vi_bipush (v := 8) C dX11_frameOf_45 rfl (by decide) ?_
    refine vi_iload_n C dX11_frameOf_47 rfl rfl ?_
    refine vi_imul C dX11_frameOf_48 rfl ?_
    refine vi_bipush (v := 8) C dX11_frameOf_49 rfl (by decide) ?_
    refine vi_iadd C dX11_frameOf_51 rfl ?_
    refine vi_icmp_ge (t' := 103) C dX11_frameOf_52 rfl (by decide) (fun c10 => ?_) (fun c10 => ?_)
    · replace h := iT c10 h
      exact (vi_cut [(4, .long (l4))] ⟨rfl, trivial⟩ (hx103 _ _ h _ hR hF))
    · replace h := iN c10 h
      refine vi_iload C dX11_frameOf_55 rfl rfl ?_
      refine vi_aload_n C dX11_frameOf_57 rfl rfl ?_
      refine c_geti (k := 1) (i := l3) C dX11_frameOf_58 rfl fX11_203 rfl (by decide) rfl hR hl3 ?_
      refine r_jn h (fun k => ∀ (s0_74 : Int32), k s0_74 = some R → ∀ S, RC S z x N d0 M → cF S0 S z x N d0 → vi_W E X 8 Z 74 [(0, .ref (ad z x 11 (0))), (2, .int (l2)), (3, .ref (ad z x 1 (l3))), (4, .long (l4)), (6, .int (l6))] [.int (s0_74)] S (cz M) 0 0) ?_ ?_
      · intro s0_74 h S hR hF
        refine vi_istore C dX11_frameOf_74 rfl (by decide) ?_
        refine vi_lload C dX11_frameOf_76 rfl rfl ?_
        refine vi_bipush (v := 8) C dX11_frameOf_78 rfl (by decide) ?_
        refine vi_lshl C dX11_frameOf_80 rfl ?_
        refine vi_aload_n C dX11_frameOf_81 rfl rfl ?_
        refine c_gets (k := 11) (i := 0) C dX11_frameOf_82 rfl fX11_33 rfl (by decide) rfl hR (rfl : 0 = 0) rfl ?_
        refine vi_iload C dX11_frameOf_85 rfl rfl ?_
        refine c_cv1 (kc := 0) (a := (ad z x 0 (0))) C [.int (l6)] [.long ((l4 <<< (((8 : Int32)).toInt64 &&& 63)))] dX11_frameOf_87 rfl ivX11_237 imX0_byteAt rfl rfl (rcK hR (show 0 < 3 from by decide)) hR hF h (fun _ e => p_X0_byteAt (show 0 < 3 from by decide) e hR) rfl (Nat.le_of_ble_eq_true rfl) ⟨by decide, by decide⟩ ⟨Nat.le_refl _, Nat.le_refl _⟩ (fun S M8 v9 h hR hF => ?_)
        refine vi_iload C dX11_frameOf_90 rfl rfl ?_
        refine vi_ixor C dX11_frameOf_92 rfl ?_
        refine vi_i2l C dX11_frameOf_93 rfl ?_
        refine vi_lor C dX11_frameOf_94 rfl ?_
        refine vi_lstore C dX11_frameOf_95 rfl (by decide) ?_
        refine vi_iincv (v := 1) C dX11_frameOf_97 rfl rfl (by decide) (by decide) ?_
        refine vi_goto (t' := 43) C dX11_frameOf_100 (by decide) ?_
        exact vi_cut [(0, .ref (ad z x 11 (0))), (2, .int (l2)), (3, .ref (ad z x 1 (l3))), (4, .long (((l4 <<< (((8 : Int32)).toInt64 &&& 63)) ||| ((v9 ^^^ s0_74)).toInt64))), (6, .int ((l6 + (1))))] ⟨rfl, rfl, rfl, rfl, rfl, trivial⟩ (ih _ _ _ h _ hR hF)
      · intro k74_6 h74_6 h
        refine vi_icmp_ne (t' := 73) C dX11_frameOf_61 rfl (by decide) (fun c7 => ?_) (fun c7 => ?_)
        · replace h := iN c7 h
          refine vi_iconst (v := 0) C dX11_frameOf_73 rfl (by decide) ?_
          exact (vi_cut [(0, .ref (ad z x 11 (0))), (2, .int (l2)), (3, .ref (ad z x 1 (l3))), (4, .long (l4)), (6, .int (l6))] ⟨rfl, rfl, rfl, rfl, rfl, trivial⟩ (h74_6 _ h _ hR hF))
        · replace h := iT c7 h
          refine vi_iconst (v := 1) C dX11_frameOf_64 rfl (by decide) ?_
          refine vi_aload_n C dX11_frameOf_65 rfl rfl ?_
          refine c_geti (k := 1) (i := l3) C dX11_frameOf_66 rfl fX11_206 rfl (by decide) rfl hR hl3 ?_
          refine vi_ishl C dX11_frameOf_69 rfl ?_
          refine vi_goto (t' := 74) C dX11_frameOf_70 (by decide) ?_
          exact (vi_cut [(0, .ref (ad z x 11 (0))), (2, .int (l2)), (3, .ref (ad z x 1 (l3))), (4, .long (l4)), (6, .int (l6))] ⟨rfl, rfl, rfl, rfl, rfl, trivial⟩ (h74_6 _ h _ hR hF))

set_option maxRecDepth 100000 in
set_option maxHeartbeats 4000000 in
theorem p_X11_frameOf {N : Nat} {M : vC} {R : (vC × Int64)} {a1 : Int32} {a2 : Int32}  (h : F_X11_frameOf N M a1 a2 = some R) {E : vE} {S0 : vS} {z x d0 : Nat} (hR : RC S0 z x N d0 M) : vi_Met E yX11_frameOf cX11_frameOf 8 (some .long) 4 0 0 [.ref (ad z x 11 (0)), .int (a1), .int (a2)] S0 (cz M) (D2 S0 z x N d0 R) := by
  refine vi_met (by decide) (Nat.le_of_ble_eq_true rfl) ?_
  intro X C
  have hF := cF.refl S0 z x N d0
  unfold F_X11_frameOf at h
  refine vi_aload_n C dX11_frameOf_0 rfl rfl ?_
  refine c_gets (k := 11) (i := 0) C dX11_frameOf_1 rfl fX11_40 rfl (by decide) rfl hR (rfl : 0 = 0) rfl ?_
  refine vi_iload_n C dX11_frameOf_4 rfl rfl ?_
  refine c_cv3 (kc := 3) (a := (ad z x 3 (0))) (kt := 1) C [.int (a1)] [] dX11_frameOf_5 rfl ivX11_191 imX3_look rfl rfl (rcK hR (rfl : 0 = 0)) hR hF h (fun _ e => p_X3_look  e hR) rfl (Nat.le_of_ble_eq_true rfl) ⟨by decide, by decide⟩ ⟨Nat.le_refl _, Nat.le_refl _⟩ (fun S M1 v2 h hR hF => ?_)
  refine vi_astore_nq (o := ((v2).map (ad z x 1))) C dX11_frameOf_8 rfl (by decide) ?_
  refine vi_aload_nq (o := ((v2).map (ad z x 1))) C dX11_frameOf_9 rfl rfl ?_
  rcases oco h with ⟨rfl, hh⟩ | ⟨o3, rfl, hh⟩
  · replace h := hh
    clear hh
    refine vi_ifnull (o := none) (t' := 24) C dX11_frameOf_10 rfl (by decide) (fun _ => ?_) (fun e => absurd rfl e)
    refine vi_lconst (v := 0) C dX11_frameOf_24 rfl (by decide) ?_
    exact c_ret2 C dX11_frameOf_25 rfl hR hF ⟨Nat.zero_le _, Nat.zero_le _⟩ h
  · replace h := hh
    clear hh
    refine vi_ifnull (o := (some (ad z x 1 (o3)))) (t' := 24) C dX11_frameOf_10 rfl (by decide) (fun e => by cases e) (fun _ => ?_)
    obtain ⟨c4, h⟩ := gdo h
    refine vi_iload_n C dX11_frameOf_13 rfl rfl ?_
    refine vi_if_lt (t' := 24) C dX11_frameOf_14 rfl (by decide) (fun c14 => ?_) (fun c14 => ?_)
    · replace h := iT c14 h
      refine vi_lconst (v := 0) C dX11_frameOf_24 rfl (by decide) ?_
      exact c_ret2 C dX11_frameOf_25 rfl hR hF ⟨Nat.zero_le _, Nat.zero_le _⟩ h
    · replace h := iN c14 h
      refine vi_iload_n C dX11_frameOf_17 rfl rfl ?_
      refine vi_sipush (v := 256) C dX11_frameOf_18 rfl (by decide) ?_
      refine vi_icmp_lt (t' := 26) C dX11_frameOf_21 rfl (by decide) (fun c13 => ?_) (fun c13 => ?_)
      · replace h := iT c13 h
        refine vi_aload_n C dX11_frameOf_26 rfl rfl ?_
        refine vi_aload_n C dX11_frameOf_27 rfl rfl ?_
        refine c_gets (k := 11) (i := 0) C dX11_frameOf_28 rfl fX11_33 rfl (by decide) rfl hR (rfl : 0 = 0) rfl ?_
        refine c_cv0 (kc := 1) (a := (ad z x 1 (o3))) C [.ref (ad z x 0 (0))] [] dX11_frameOf_31 rfl ivX11_197 imX1_writeTo rfl rfl (rcK hR c4) hR hF h (fun _ e => p_X1_writeTo c4 (show 0 < 3 from by decide) e hR) rfl (Nat.le_of_ble_eq_true rfl) ⟨by decide, by decide⟩ ⟨Nat.le_refl _, Nat.le_refl _⟩ (fun S M5 h hR hF => ?_)
        refine vi_lconst (v := 0) C dX11_frameOf_34 rfl (by decide) ?_
        refine vi_lstore C dX11_frameOf_35 rfl (by decide) ?_
        refine vi_bipush (v := 8) C dX11_frameOf_37 rfl (by decide) ?_
        refine vi_iload_n C dX11_frameOf_39 rfl rfl ?_
        refine vi_imul C dX11_frameOf_40 rfl ?_
        refine vi_istore C dX11_frameOf_41 rfl (by decide) ?_
        refine vi_cut [(0, .ref (ad z x 11 (0))), (2, .int (a2)), (3, .ref (ad z x 1 (o3))), (4, .long ((0 : Int64))), (6, .int (((8 : Int32) * a2)))] ⟨rfl, rfl, rfl, rfl, rfl, trivial⟩ (w_X11_frameOf_43 c4 C ?_ _ _ _ _ h _ hR hF)
        · intro M11 l12 h S hR hF
          refine vi_lload C dX11_frameOf_103 rfl rfl ?_
          exact c_ret2 C dX11_frameOf_105 rfl hR hF ⟨Nat.zero_le _, Nat.zero_le _⟩ h
      · replace h := iN c13 h
        refine vi_lconst (v := 0) C dX11_frameOf_24 rfl (by decide) ?_
        exact c_ret2 C dX11_frameOf_25 rfl hR hF ⟨Nat.zero_le _, Nat.zero_le _⟩ h

def F_X11_knownOf (N : Nat) (M : vC) (a1 : Int32) (a2 : Int32) (a3 : Int32) : Option (vC × Int32) := b2 (F_X11_upNumber N M (a1)) fun M1 v2 => oc (v2) (some (M1, (-1 : Int32))) (fun o3 => gd (o3 < N) <| b2 (F_X11_sessionNumber N M1 (a2)) fun M5 v6 => oc (v6) (some (M5, (-1 : Int32))) (fun o7 => gd (o7 < 16) <| if a3 = 0 then ((cG M5 1002 (o3) (a2)).bind fun v9 => some (M5, v9)) else ((cG M5 1003 (o3) (a2)).bind fun v10 => some (M5, v10))))

set_option maxRecDepth 100000 in
set_option maxHeartbeats 4000000 in
theorem p_X11_knownOf {N : Nat} {M : vC} {R : (vC × Int32)} {a1 : Int32} {a2 : Int32} {a3 : Int32}  (h : F_X11_knownOf N M a1 a2 a3 = some R) {E : vE} {S0 : vS} {z x d0 : Nat} (hR : RC S0 z x N d0 M) : vi_Met E yX11_knownOf cX11_knownOf 5 (some .int) 2 0 0 [.ref (ad z x 11 (0)), .int (a1), .int (a2), .int (a3)] S0 (cz M) (D1 S0 z x N d0 R) := by
  refine vi_met (by decide) (Nat.le_of_ble_eq_true rfl) ?_
  intro X C
  have hF := cF.refl S0 z x N d0
  unfold F_X11_knownOf at h
  refine vi_aload_n C dX11_knownOf_0 rfl rfl ?_
  refine vi_iload_n C dX11_knownOf_1 rfl rfl ?_
  refine c_cv3 (kc := 11) (a := (ad z x 11 (0))) (kt := 7) C [.int (a1)] [] dX11_knownOf_2 rfl ivX11_78 imX11_upNumber rfl rfl (rcK hR (rfl : 0 = 0)) hR hF h (fun _ e => p_X11_upNumber  e hR) rfl (Nat.le_of_ble_eq_true rfl) ⟨by decide, by decide⟩ ⟨Nat.le_refl _, Nat.le_refl _⟩ (fun S M1 v2 h hR hF => ?_)
  refine vi_astoreq (o := ((v2).map (ad z x 7))) C dX11_knownOf_5 rfl (by decide) ?_
  refine vi_aloadq (o := ((v2).map (ad z x 7))) C dX11_knownOf_7 rfl rfl ?_
  rcases oco h with ⟨rfl, hh⟩ | ⟨o3, rfl, hh⟩
  · replace h := hh
    clear hh
    refine vi_ifnull (o := none) (t' := 20) C dX11_knownOf_9 rfl (by decide) (fun _ => ?_) (fun e => absurd rfl e)
    refine vi_iconst (v := -1) C dX11_knownOf_20 rfl (by decide) ?_
    exact c_ret1 C dX11_knownOf_21 rfl hR hF ⟨Nat.zero_le _, Nat.zero_le _⟩ h
  · replace h := hh
    clear hh
    refine vi_ifnull (o := (some (ad z x 7 (o3)))) (t' := 20) C dX11_knownOf_9 rfl (by decide) (fun e => by cases e) (fun _ => ?_)
    obtain ⟨c4, h⟩ := gdo h
    refine vi_aload_n C dX11_knownOf_12 rfl rfl ?_
    refine vi_iload_n C dX11_knownOf_13 rfl rfl ?_
    refine c_cv3 (kc := 11) (a := (ad z x 11 (0))) (kt := 9) C [.int (a2)] [] dX11_knownOf_14 rfl ivX11_74 imX11_sessionNumber rfl rfl (rcK hR (rfl : 0 = 0)) hR hF h (fun _ e => p_X11_sessionNumber  e hR) rfl (Nat.le_of_ble_eq_true rfl) ⟨by decide, by decide⟩ ⟨Nat.le_refl _, Nat.le_refl _⟩ (fun S M5 v6 h hR hF => ?_)
    rcases oco h with ⟨rfl, hh⟩ | ⟨o7, rfl, hh⟩
    · replace h := hh
      clear hh
      refine vi_ifnonnull (o := none) (t' := 22) C dX11_knownOf_17 rfl (by decide) (fun e => absurd rfl e) (fun _ => ?_)
      refine vi_iconst (v := -1) C dX11_knownOf_20 rfl (by decide) ?_
      exact c_ret1 C dX11_knownOf_21 rfl hR hF ⟨Nat.zero_le _, Nat.zero_le _⟩ h
    · replace h := hh
      clear hh
      refine vi_ifnonnull (o := (some (ad z x 9 (o7)))) (t' := 22) C dX11_knownOf_17 rfl (by decide) (fun _ => ?_) (fun e => by cases e)
      obtain ⟨c8, h⟩ := gdo h
      refine vi_iload_n C dX11_knownOf_22 rfl rfl ?_
      refine vi_if_eq (t' := 39) C dX11_knownOf_23 rfl (by decide) (fun c11 => ?_) (fun c11 => ?_)
      · replace h := iT c11 h
        refine vi_aload C dX11_knownOf_39 rfl rfl ?_
        refine c_gets (k := 7) (i := o3) C dX11_knownOf_41 rfl fX11_85 rfl (by decide) rfl hR c4 rfl ?_
        refine c_gets (k := 10) (i := o3) C dX11_knownOf_44 rfl fX11_149 rfl (by decide) rfl hR c4 rfl ?_
        refine vi_iload_n C dX11_knownOf_47 rfl rfl ?_
        refine c_iaload C dX11_knownOf_48 rfl rfl hR ⟨c4, by decide⟩ h (fun v9 h => ?_)
        exact c_ret1 C dX11_knownOf_49 rfl hR hF ⟨Nat.zero_le _, Nat.zero_le _⟩ h
      · replace h := iN c11 h
        refine vi_aload C dX11_knownOf_26 rfl rfl ?_
        refine c_gets (k := 7) (i := o3) C dX11_knownOf_28 rfl fX11_85 rfl (by decide) rfl hR c4 rfl ?_
        refine c_gets (k := 10) (i := o3) C dX11_knownOf_31 rfl fX11_156 rfl (by decide) rfl hR c4 rfl ?_
        refine vi_iload_n C dX11_knownOf_34 rfl rfl ?_
        refine c_iaload C dX11_knownOf_35 rfl rfl hR ⟨c4, by decide⟩ h (fun v10 h => ?_)
        refine vi_goto (t' := 49) C dX11_knownOf_36 (by decide) ?_
        exact c_ret1 C dX11_knownOf_49 rfl hR hF ⟨Nat.zero_le _, Nat.zero_le _⟩ h

def F_X11_sessionOf (N : Nat) (M : vC) (a1 : Int32) (a2 : Int32) : Option (vC × Int32) := b2 (F_X11_sessionNumber N M (a1)) fun M1 v2 => oc (v2) (some (M1, (-1 : Int32))) (fun o3 => gd (o3 < 16) <| b2 (F_X9_tell N M1 (o3) (a2)) fun M5 v6 => some (M5, v6))

set_option maxRecDepth 100000 in
set_option maxHeartbeats 4000000 in
theorem p_X11_sessionOf {N : Nat} {M : vC} {R : (vC × Int32)} {a1 : Int32} {a2 : Int32}  (h : F_X11_sessionOf N M a1 a2 = some R) {E : vE} {S0 : vS} {z x d0 : Nat} (hR : RC S0 z x N d0 M) : vi_Met E yX11_sessionOf cX11_sessionOf 4 (some .int) 1 0 0 [.ref (ad z x 11 (0)), .int (a1), .int (a2)] S0 (cz M) (D1 S0 z x N d0 R) := by
  refine vi_met (by decide) (Nat.le_of_ble_eq_true rfl) ?_
  intro X C
  have hF := cF.refl S0 z x N d0
  unfold F_X11_sessionOf at h
  refine vi_aload_n C dX11_sessionOf_0 rfl rfl ?_
  refine vi_iload_n C dX11_sessionOf_1 rfl rfl ?_
  refine c_cv3 (kc := 11) (a := (ad z x 11 (0))) (kt := 9) C [.int (a1)] [] dX11_sessionOf_2 rfl ivX11_74 imX11_sessionNumber rfl rfl (rcK hR (rfl : 0 = 0)) hR hF h (fun _ e => p_X11_sessionNumber  e hR) rfl (Nat.le_of_ble_eq_true rfl) ⟨by decide, by decide⟩ ⟨Nat.le_refl _, Nat.le_refl _⟩ (fun S M1 v2 h hR hF => ?_)
  refine vi_astore_nq (o := ((v2).map (ad z x 9))) C dX11_sessionOf_5 rfl (by decide) ?_
  refine vi_aload_nq (o := ((v2).map (ad z x 9))) C dX11_sessionOf_6 rfl rfl ?_
  rcases oco h with ⟨rfl, hh⟩ | ⟨o3, rfl, hh⟩
  · replace h := hh
    clear hh
    refine vi_ifnonnull (o := none) (t' := 14) C dX11_sessionOf_7 rfl (by decide) (fun e => absurd rfl e) (fun _ => ?_)
    refine vi_iconst (v := -1) C dX11_sessionOf_10 rfl (by decide) ?_
    refine vi_goto (t' := 19) C dX11_sessionOf_11 (by decide) ?_
    exact c_ret1 C dX11_sessionOf_19 rfl hR hF ⟨Nat.zero_le _, Nat.zero_le _⟩ h
  · replace h := hh
    clear hh
    refine vi_ifnonnull (o := (some (ad z x 9 (o3)))) (t' := 14) C dX11_sessionOf_7 rfl (by decide) (fun _ => ?_) (fun e => by cases e)
    obtain ⟨c4, h⟩ := gdo h
    refine vi_aload_n C dX11_sessionOf_14 rfl rfl ?_
    refine vi_iload_n C dX11_sessionOf_15 rfl rfl ?_
    refine c_cv1 (kc := 9) (a := (ad z x 9 (o3))) C [.int (a2)] [] dX11_sessionOf_16 rfl ivX11_253 imX9_tell rfl rfl (rcK hR c4) hR hF h (fun _ e => p_X9_tell c4 e hR) rfl (Nat.le_of_ble_eq_true rfl) ⟨by decide, by decide⟩ ⟨Nat.le_refl _, Nat.le_refl _⟩ (fun S M5 v6 h hR hF => ?_)
    exact c_ret1 C dX11_sessionOf_19 rfl hR hF ⟨Nat.zero_le _, Nat.zero_le _⟩ h
