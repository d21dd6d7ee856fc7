def F_X10_rowOf (N : Nat) (M : vC) (a0 : Int32) : Option (vC × Int32) := some (M, ((fmI (a0) ((17 : Int32))) * (16 : Int32)))

set_option maxRecDepth 100000 in
set_option maxHeartbeats 4000000 in
theorem p_X10_rowOf {N : Nat} {M : vC} {R : (vC × Int32)} {a0 : Int32}  (h : F_X10_rowOf N M a0 = some R) {E : vE} {S0 : vS} {z x d0 : Nat} (hR : RC S0 z x N d0 M) : vi_Met E yX10_rowOf cX10_rowOf 1 (some .int) 1 0 0 [.int (a0)] S0 (cz M) (D1 S0 z x N d0 R) := by
  refine vi_met (by decide) (Nat.le_of_ble_eq_true rfl) ?_
  intro X C
  have hF := cF.refl S0 z x N d0
  unfold F_X10_rowOf at h
  refine vi_iload_n C dX10_rowOf_0 rfl rfl ?_
  refine vi_bipush (v := 17) C dX10_rowOf_1 rfl (by decide) ?_
  refine vi_fmod C dX10_rowOf_3 rfl mlX10_46 (by decide) (by decide) (Nat.le_of_ble_eq_true rfl) (Nat.zero_le _) (Nat.zero_le _) ?_
  refine vi_bipush (v := 16) C dX10_rowOf_6 rfl (by decide) ?_
  refine vi_imul C dX10_rowOf_8 rfl ?_
  exact c_ret1 C dX10_rowOf_9 rfl hR hF ⟨Nat.zero_le _, Nat.zero_le _⟩ h

def L_X10_writeTo_18 {ρ : Type} (N : Nat) (l0 : Nat) (l1 : Nat) (l2 : Int32) (kx42 : vC → Option ρ) : Nat → vC → Int32 → Option ρ
  | 0, _, _ => none
  | f + 1, M, l3 => if (16 : Int32) ≤ l3 then (kx42 M ) else ((cG M 1005 (l0) ((l2 + l3))).bind fun v4 => (F_X0_putFour N M (l1) (v4)).bind fun M5 => L_X10_writeTo_18 N l0 l1 l2 kx42 f M5 ((l3 + (1))))

def L_X10_writeTo_44 {ρ : Type} (N : Nat) (l0 : Nat) (l1 : Nat) (kx76 : vC → Option ρ) : Nat → vC → Int32 → Option ρ
  | 0, _, _ => none
  | f + 1, M, l3 => if (16 : Int32) ≤ l3 then (kx76 M ) else ((cG M 1002 (l0) (l3)).bind fun v8 => (F_X0_putU N M (l1) (v8)).bind fun M9 => (cG M9 1003 (l0) (l3)).bind fun v10 => (F_X0_put N M9 (l1) (v10)).bind fun M11 => L_X10_writeTo_44 N l0 l1 kx76 f M11 ((l3 + (1))))

def L_X10_writeTo_78 {ρ : Type} (N : Nat) (l0 : Nat) (l1 : Nat) (kx102 : vC → Option ρ) : Nat → vC → Int32 → Option ρ
  | 0, _, _ => none
  | f + 1, M, l3 => if (cI M 1000 (l0)) ≤ l3 then (kx102 M ) else ((cG M 1004 (l0) (l3)).bind fun v14 => (F_X0_putTwo N M (l1) (v14)).bind fun M15 => L_X10_writeTo_78 N l0 l1 kx102 f M15 ((l3 + (1))))

def F_X10_writeTo (N : Nat) (M : vC) (a0 : Nat) (a1 : Nat) : Option vC := (F_X0_putU N M (a1) ((cI M 1007 (a0)))).bind fun M1 => b2 (F_X10_rowOf N M1 ((cI M1 1007 (a0)))) fun M2 v3 => L_X10_writeTo_18 N (a0) (a1) (v3) (fun (M7 : vC)  => L_X10_writeTo_44 N (a0) (a1) (fun (M13 : vC)  => L_X10_writeTo_78 N (a0) (a1) (fun (M17 : vC)  => some M17) fu M13 ((0 : Int32))) fu M7 ((0 : Int32))) fu M2 ((0 : Int32))

set_option maxRecDepth 100000 in
set_option maxHeartbeats 4000000 in
theorem w_X10_writeTo_18 {E : vE} {X : vX} {S0 : vS} {z x N d0 : Nat} {ρ : Type} {R : ρ} {Z : State → Prop} {l0 : Nat} {l1 : Nat} {l2 : Int32} {kx42 : vC → Option ρ} (hl0 : l0 < N) (hl1 : l1 < 3) (C : vi_C E X yX10_writeTo cX10_writeTo 4 none 2 0 0 (45 * 2)) (hx42 : ∀ (M : vC) , kx42 M  = some R → ∀ S, RC S z x N d0 M → cF S0 S z x N d0 → vi_W E X 4 Z 42 [(0, .ref (ad z x 10 (l0))), (1, .ref (ad z x 0 (l1)))] [] S (cz M) 0 0) : ∀ (f : Nat) (M : vC) (l3 : Int32), L_X10_writeTo_18 N l0 l1 l2 kx42 f M l3 = some R → ∀ S, RC S z x N d0 M → cF S0 S z x N d0 → vi_W E X 4 Z 18 [(0, .ref (ad z x 10 (l0))), (1, .ref (ad z x 0 (l1))), (2, .int (l2)), (3, .int (l3))] [] S (cz M) 0 0 := by
  intro f
  induction f with
  | zero => intro M l3 h; cases h
  | succ f ih =>
    intro M l3 h S hR hF
    rw [L_X10_writeTo_18] at h
    refine vi_iload_n C dX10_writeTo_18 rfl rfl ?_
    refine vi_bipush (v := 16) C dX10_writeTo_19 rfl (by decide) ?_
    refine vi_icmp_ge (t' := 42) C dX10_writeTo_21 rfl (by decide) (fun c6 => ?_) (fun c6 => ?_)
    · replace h := iT c6 h
      exact (vi_cut [(0, .ref (ad z x 10 (l0))), (1, .ref (ad z x 0 (l1)))] ⟨rfl, rfl, trivial⟩ (hx42 _  h _ hR hF))
    · replace h := iN c6 h
      refine vi_aload_n C dX10_writeTo_24 rfl rfl ?_
      refine vi_aload_n C dX10_writeTo_25 rfl rfl ?_
      refine c_gets (f := 1005) (k := 10) (i := l0) C dX10_writeTo_26 rfl fX10_21 rfl (by decide) rfl hR hl0 rfl ?_
      refine vi_iload_n C dX10_writeTo_29 rfl rfl ?_
      refine vi_iload_n C dX10_writeTo_30 rfl rfl ?_
      refine vi_iadd C dX10_writeTo_31 rfl ?_
      refine c_iaload C dX10_writeTo_32 rfl rfl hR ⟨hl0, by decide⟩ h (fun v4 h => ?_)
      refine c_cv0 (kc := 0) (a := (ad z x 0 (l1))) C [.int (v4)] [] dX10_writeTo_33 rfl ivX10_111 imX0_putFour rfl rfl (rcK hR hl1) hR hF h (fun _ e => p_X0_putFour hl1 e hR) rfl (Nat.le_of_ble_eq_true rfl) ⟨by decide, by decide⟩ ⟨Nat.le_refl _, Nat.le_refl _⟩ (fun S M5 h hR hF => ?_)
      refine vi_iincv (v := 1) C dX10_writeTo_36 rfl rfl (by decide) (by decide) ?_
      refine vi_goto (t' := 18) C dX10_writeTo_39 (by decide) ?_
      exact vi_cut [(0, .ref (ad z x 10 (l0))), (1, .ref (ad z x 0 (l1))), (2, .int (l2)), (3, .int ((l3 + (1))))] ⟨rfl, rfl, rfl, rfl, trivial⟩ (ih _ _ h _ hR hF)

set_option maxRecDepth 100000 in
set_option maxHeartbeats 4000000 in
theorem w_X10_writeTo_44 {E : vE} {X : vX} {S0 : vS} {z x N d0 : Nat} {ρ : Type} {R : ρ} {Z : State → Prop} {l0 : Nat} {l1 : Nat} {kx76 : vC → Option ρ} (hl0 : l0 < N) (hl1 : l1 < 3) (C : vi_C E X yX10_writeTo cX10_writeTo 4 none 2 0 0 (45 * 2)) (hx76 : ∀ (M : vC) , kx76 M  = some R → ∀ S, RC S z x N d0 M → cF S0 S z x N d0 → vi_W E X 4 Z 76 [(0, .ref (ad z x 10 (l0))), (1, .ref (ad z x 0 (l1)))] [] S (cz M) 0 0) : ∀ (f : Nat) (M : vC) (l3 : Int32), L_X10_writeTo_44 N l0 l1 kx76 f M l3 = some R → ∀ S, RC S z x N d0 M → cF S0 S z x N d0 → vi_W E X 4 Z 44 [(0, .ref (ad z x 10 (l0))), (1, .ref (ad z x 0 (l1))), (3, .int (l3))] [] S (cz M) 0 0 := by
  intro f
  induction f with
  | zero => intro M l3 h; cases h
  | succ f ih =>
    intro M l3 h S hR hF
    rw [L_X10_writeTo_44] at h
    refine vi_iload_n C dX10_writeTo_44 rfl rfl ?_
    refine vi_bipush (v := 16) C dX10_writeTo_45 rfl (by decide) ?_
    refine vi_icmp_ge (t' := 76) C dX10_writeTo_47 rfl (by decide) (fun c12 => ?_) (fun c12 => ?_)
    · replace h := iT c12 h
      exact (vi_cut [(0, .ref (ad z x 10 (l0))), (1, .ref (ad z x 0 (l1)))] ⟨rfl, rfl, trivial⟩ (hx76 _  h _ hR hF))
    · replace h := iN c12 h
      refine vi_aload_n C dX10_writeTo_50 rfl rfl ?_
      refine vi_aload_n C dX10_writeTo_51 rfl rfl ?_
      refine c_gets (f := 1002) (k := 10) (i := l0) C dX10_writeTo_52 rfl fX10_9 rfl (by decide) rfl hR hl0 rfl ?_
      refine vi_iload_n C dX10_writeTo_55 rfl rfl ?_
      refine c_iaload C dX10_writeTo_56 rfl rfl hR ⟨hl0, by decide⟩ h (fun v8 h => ?_)
      refine c_cv0 (kc := 0) (a := (ad z x 0 (l1))) C [.int (v8)] [] dX10_writeTo_57 rfl ivX10_105 imX0_putU rfl rfl (rcK hR hl1) hR hF h (fun _ e => p_X0_putU hl1 e hR) rfl (Nat.le_of_ble_eq_true rfl) ⟨by decide, by decide⟩ ⟨Nat.le_refl _, Nat.le_refl _⟩ (fun S M9 h hR hF => ?_)
      refine vi_aload_n C dX10_writeTo_60 rfl rfl ?_
      refine vi_aload_n C dX10_writeTo_61 rfl rfl ?_
      refine c_gets (f := 1003) (k := 10) (i := l0) C dX10_writeTo_62 rfl fX10_15 rfl (by decide) rfl hR hl0 rfl ?_
      refine vi_iload_n C dX10_writeTo_65 rfl rfl ?_
      refine c_iaload C dX10_writeTo_66 rfl rfl hR ⟨hl0, by decide⟩ h (fun v10 h => ?_)
      refine c_cv0 (kc := 0) (a := (ad z x 0 (l1))) C [.int (v10)] [] dX10_writeTo_67 rfl ivX10_114 imX0_put rfl rfl (rcK hR hl1) hR hF h (fun _ e => p_X0_put hl1 e hR) rfl (Nat.le_of_ble_eq_true rfl) ⟨by decide, by decide⟩ ⟨Nat.le_refl _, Nat.le_refl _⟩ (fun S M11 h hR hF => ?_)
      refine vi_iincv (v := 1) C dX10_writeTo_70 rfl rfl (by decide) (by decide) ?_
      refine vi_goto (t' := 44) C dX10_writeTo_73 (by decide) ?_
      exact vi_cut [(0, .ref (ad z x 10 (l0))), (1, .ref (ad z x 0 (l1))), (3, .int ((l3 + (1))))] ⟨rfl, rfl, rfl, trivial⟩ (ih _ _ h _ hR hF)

set_option maxRecDepth 100000 in
set_option maxHeartbeats 4000000 in
theorem w_X10_writeTo_78 {E : vE} {X : vX} {S0 : vS} {z x N d0 : Nat} {ρ : Type} {R : ρ} {Z : State → Prop} {l0 : Nat} {l1 : Nat} {kx102 : vC → Option ρ} (hl0 : l0 < N) (hl1 : l1 < 3) (C : vi_C E X yX10_writeTo cX10_writeTo 4 none 2 0 0 (45 * 2)) (hx102 : ∀ (M : vC) , kx102 M  = some R → ∀ S, RC S z x N d0 M → cF S0 S z x N d0 → vi_W E X 4 Z 102 [] [] S (cz M) 0 0) : ∀ (f : Nat) (M : vC) (l3 : Int32), L_X10_writeTo_78 N l0 l1 kx102 f M l3 = some R → ∀ S, RC S z x N d0 M → cF S0 S z x N d0 → vi_W E X 4 Z 78 [(0, .ref (ad z x 10 (l0))), (1, .ref (ad z x 0 (l1))), (3, .int (l3))] [] S (cz M) 0 0 := by
  intro f
  induction f with
  | zero => intro M l3 h; cases h
  | succ f ih =>
    intro M l3 h S hR hF
    rw [L_X10_writeTo_78] at h
    refine vi_iload_n C dX10_writeTo_78 rfl rfl ?_
    refine vi_aload_n C dX10_writeTo_79 rfl rfl ?_
    refine c_geti (f := 1000) (k := 10) (i := l0) C dX10_writeTo_80 rfl fX10_30 rfl (by decide) rfl hR hl0 ?_
    refine vi_icmp_ge (t' := 102) C dX10_writeTo_83 rfl (by decide) (fun c16 => ?_) (fun c16 => ?_)
    · replace h := iT c16 h
      exact (vi_cut [] trivial (hx102 _  h _ hR hF))
    · replace h := iN c16 h
      refine vi_aload_n C dX10_writeTo_86 rfl rfl ?_
      refine vi_aload_n C dX10_writeTo_87 rfl rfl ?_
      refine c_gets (f := 1004) (k := 10) (i := l0) C dX10_writeTo_88 rfl fX10_18 rfl (by decide) rfl hR hl0 rfl ?_
      refine vi_iload_n C dX10_writeTo_91 rfl rfl ?_
      refine c_iaload C dX10_writeTo_92 rfl rfl hR ⟨hl0, by decide⟩ h (fun v14 h => ?_)
      refine c_cv0 (kc := 0) (a := (ad z x 0 (l1))) C [.int (v14)] [] dX10_writeTo_93 rfl ivX10_117 imX0_putTwo rfl rfl (rcK hR hl1) hR hF h (fun _ e => p_X0_putTwo hl1 e hR) rfl (Nat.le_of_ble_eq_true rfl) ⟨by decide, by decide⟩ ⟨Nat.le_refl _, Nat.le_refl _⟩ (fun S M15 h hR hF => ?_)
      refine vi_iincv (v := 1) C dX10_writeTo_96 rfl rfl (by decide) (by decide) ?_
      refine vi_goto (t' := 78) C dX10_writeTo_99 (by decide) ?_
      exact vi_cut [(0, .ref (ad z x 10 (l0))), (1, .ref (ad z x 0 (l1))), (3, .int ((l3 + (1))))] ⟨rfl, rfl, rfl, trivial⟩ (ih _ _ h _ hR hF)

set_option maxRecDepth 100000 in
set_option maxHeartbeats 4000000 in
theorem p_X10_writeTo {N : Nat} {M : vC} {R : vC} {a0 : Nat} {a1 : Nat} (ha0 : a0 < N) (ha1 : a1 < 3) (h : F_X10_writeTo N M a0 a1 = some R) {E : vE} {S0 : vS} {z x d0 : Nat} (hR : RC S0 z x N d0 M) : vi_Met E yX10_writeTo cX10_writeTo 4 none 2 0 0 [.ref (ad z x 10 (a0)), .ref (ad z x 0 (a1))] S0 (cz M) (D0 S0 z x N d0 R) := by
  refine vi_met (by decide) (Nat.le_of_ble_eq_true rfl) ?_
  intro X C
  have hF := cF.refl S0 z x N d0
  unfold F_X10_writeTo at h
  refine vi_aload_n C dX10_writeTo_0 rfl rfl ?_
  refine vi_aload_n C dX10_writeTo_1 rfl rfl ?_
  refine c_geti (f := 1007) (k := 10) (i := a0) C dX10_writeTo_2 rfl fX10_37 rfl (by decide) rfl hR ha0 ?_
  refine c_cv0 (kc := 0) (a := (ad z x 0 (a1))) C [.int ((cI M 1007 (a0)))] [] dX10_writeTo_5 rfl ivX10_105 imX0_putU rfl rfl (rcK hR ha1) hR hF h (fun _ e => p_X0_putU ha1 e hR) rfl (Nat.le_of_ble_eq_true rfl) ⟨by decide, by decide⟩ ⟨Nat.le_refl _, Nat.le_refl _⟩ (fun S M1 h hR hF => ?_)
  refine vi_aload_n C dX10_writeTo_8 rfl rfl ?_
  refine c_geti (f := 1007) (k := 10) (i := a0) C dX10_writeTo_9 rfl fX10_37 rfl (by decide) rfl hR ha0 ?_
  refine c_cs1 C [.int ((cI M1 1007 (a0)))] [] dX10_writeTo_12 rfl ivX10_52 isX10_rowOf hR hF h (fun _ e => p_X10_rowOf  e hR) rfl (Nat.le_of_ble_eq_true rfl) ⟨by decide, by decide⟩ ⟨Nat.le_refl _, Nat.le_refl _⟩ (fun S M2 v3 h hR hF => ?_)
  refine vi_istore_n C dX10_writeTo_15 rfl (by decide) ?_
  refine vi_iconst (v := 0) C dX10_writeTo_16 rfl (by decide) ?_
  refine vi_istore_n C dX10_writeTo_17 rfl (by decide) ?_
  refine vi_cut [(0, .ref (ad z x 10 (a0))), (1, .ref (ad z x 0 (a1))), (2, .int (v3)), (3, .int ((0 : Int32)))] ⟨rfl, rfl, rfl, rfl, trivial⟩ (w_X10_writeTo_18 ha0 ha1 C ?_ _ _ _ h _ hR hF)
  · intro M7 h S hR hF
    refine vi_iconst (v := 0) C dX10_writeTo_42 rfl (by decide) ?_
    refine vi_istore_n C dX10_writeTo_43 rfl (by decide) ?_
    refine vi_cut [(0, .ref (ad z x 10 (a0))), (1, .ref (ad z x 0 (a1))), (3, .int ((0 : Int32)))] ⟨rfl, rfl, rfl, trivial⟩ (w_X10_writeTo_44 ha0 ha1 C ?_ _ _ _ h _ hR hF)
    · intro M13 h S hR hF
      refine vi_iconst (v := 0) C dX10_writeTo_76 rfl (by decide) ?_
      refine vi_istore_n C dX10_writeTo_77 rfl (by decide) ?_
      refine vi_cut [(0, .ref (ad z x 10 (a0))), (1, .ref (ad z x 0 (a1))), (3, .int ((0 : Int32)))] ⟨rfl, rfl, rfl, trivial⟩ (w_X10_writeTo_78 ha0 ha1 C ?_ _ _ _ h _ hR hF)
      · intro M17 h S hR hF
        exact c_ret0 C dX10_writeTo_102 rfl hR hF ⟨Nat.zero_le _, Nat.zero_le _⟩ h

def L_X10_writeValuesTo_8 {ρ : Type} (N : Nat) (l0 : Nat) (l1 : Nat) (l3 : Int32) (kx34 : vC → Option ρ) : Nat → vC → Int32 → Option ρ
  | 0, _, _ => none
  | f + 1, M, l4 => if (16 : Int32) ≤ l4 then (kx34 M ) else ((cG M 1005 (l0) ((l3 + l4))).bind fun v3 => (F_X0_putFour N M (l1) (v3)).bind fun M4 => L_X10_writeValuesTo_8 N l0 l1 l3 kx34 f M4 ((l4 + (1))))

def F_X10_writeValuesTo (N : Nat) (M : vC) (a0 : Nat) (a1 : Nat) (a2 : Int32) : Option vC := b2 (F_X10_rowOf N M (a2)) fun M1 v2 => L_X10_writeValuesTo_8 N (a0) (a1) (v2) (fun (M6 : vC)  => some M6) fu M1 ((0 : Int32))

set_option maxRecDepth 100000 in
set_option maxHeartbeats 4000000 in
theorem w_X10_writeValuesTo_8 {E : vE} {X : vX} {S0 : vS} {z x N d0 : Nat} {ρ : Type} {R : ρ} {Z : State → Prop} {l0 : Nat} {l1 : Nat} {l3 : Int32} {kx34 : vC → Option ρ} (hl0 : l0 < N) (hl1 : l1 < 3) (C : vi_C E X yX10_writeValuesTo cX10_writeValuesTo 5 none 2 0 0 (45 * 2)) (hx34 : ∀ (M : vC) , kx34 M  = some R → ∀ S, RC S z x N d0 M → cF S0 S z x N d0 → vi_W E X 5 Z 34 [] [] S (cz M) 0 0) : ∀ (f : Nat) (M : vC) (l4 : Int32), L_X10_writeValuesTo_8 N l0 l1 l3 kx34 f M l4 = some R → ∀ S, RC S z x N d0 M → cF S0 S z x N d0 → vi_W E X 5 Z 8 [(0, .ref (ad z x 10 (l0))), (1, .ref (ad z x 0 (l1))), (3, .int (l3)), (4, .int (l4))] [] S (cz M) 0 0 := by
  intro f
  induction f with
  | zero => intro M l4 h; cases h
  | succ f ih =>
    intro M l4 h S hR hF
    rw [L_X10_writeValuesTo_8] at h
    refine vi_iload C dX10_writeValuesTo_8 rfl rfl ?_
    refine vi_bipush (v := 16) C dX10_writeValuesTo_10 rfl (by decide) ?_
    refine vi_icmp_ge (t' := 34) C dX10_writeValuesTo_12 rfl (by decide) (fun c5 => ?_) (fun c5 => ?_)
    · replace h := iT c5 h
      exact (vi_cut [] trivial (hx34 _  h _ hR hF))
    · replace h := iN c5 h
      refine vi_aload_n C dX10_writeValuesTo_15 rfl rfl ?_
      refine vi_aload_n C dX10_writeValuesTo_16 rfl rfl ?_
      refine c_gets (f := 1005) (k := 10) (i := l0) C dX10_writeValuesTo_17 rfl fX10_21 rfl (by decide) rfl hR hl0 rfl ?_
      refine vi_iload_n C dX10_writeValuesTo_20 rfl rfl ?_
      refine vi_iload C dX10_writeValuesTo_21 rfl rfl ?_
      refine vi_iadd C dX10_writeValuesTo_23 rfl ?_
      refine c_iaload C dX10_writeValuesTo_24 rfl rfl hR ⟨hl0, by decide⟩ h (fun v3 h => ?_)
      refine c_cv0 (kc := 0) (a := (ad z x 0 (l1))) C [.int (v3)] [] dX10_writeValuesTo_25 rfl ivX10_111 imX0_putFour rfl rfl (rcK hR hl1) hR hF h (fun _ e => p_X0_putFour hl1 e hR) rfl (Nat.le_of_ble_eq_true rfl) ⟨by decide, by decide⟩ ⟨Nat.le_refl _, Nat.le_refl _⟩ (fun S M4 h hR hF => ?_)
      refine vi_iincv (v := 1) C dX10_writeValuesTo_28 rfl rfl (by decide) (by decide) ?_
      refine vi_goto (t' := 8) C dX10_writeValuesTo_31 (by decide) ?_
      exact vi_cut [(0, .ref (ad z x 10 (l0))), (1, .ref (ad z x 0 (l1))), (3, .int (l3)), (4, .int ((l4 + (1))))] ⟨rfl, rfl, rfl, rfl, trivial⟩ (ih _ _ h _ hR hF)

set_option maxRecDepth 100000 in
set_option maxHeartbeats 4000000 in
theorem p_X10_writeValuesTo {N : Nat} {M : vC} {R : vC} {a0 : Nat} {a1 : Nat} {a2 : Int32} (ha0 : a0 < N) (ha1 : a1 < 3) (h : F_X10_writeValuesTo N M a0 a1 a2 = some R) {E : vE} {S0 : vS} {z x d0 : Nat} (hR : RC S0 z x N d0 M) : vi_Met E yX10_writeValuesTo cX10_writeValuesTo 5 none 2 0 0 [.ref (ad z x 10 (a0)), .ref (ad z x 0 (a1)), .int (a2)] S0 (cz M) (D0 S0 z x N d0 R) := by
  refine vi_met (by decide) (Nat.le_of_ble_eq_true rfl) ?_
  intro X C
  have hF := cF.refl S0 z x N d0
  unfold F_X10_writeValuesTo at h
  refine vi_iload_n C dX10_writeValuesTo_0 rfl rfl ?_
  refine c_cs1 C [.int (a2)] [] dX10_writeValuesTo_1 rfl ivX10_52 isX10_rowOf hR hF h (fun _ e => p_X10_rowOf  e hR) rfl (Nat.le_of_ble_eq_true rfl) ⟨by decide, by decide⟩ ⟨Nat.le_refl _, Nat.le_refl _⟩ (fun S M1 v2 h hR hF => ?_)
  refine vi_istore_n C dX10_writeValuesTo_4 rfl (by decide) ?_
  refine vi_iconst (v := 0) C dX10_writeValuesTo_5 rfl (by decide) ?_
  refine vi_istore C dX10_writeValuesTo_6 rfl (by decide) ?_
  refine vi_cut [(0, .ref (ad z x 10 (a0))), (1, .ref (ad z x 0 (a1))), (3, .int (v2)), (4, .int ((0 : Int32)))] ⟨rfl, rfl, rfl, rfl, trivial⟩ (w_X10_writeValuesTo_8 ha0 ha1 C ?_ _ _ _ h _ hR hF)
  · intro M6 h S hR hF
    exact c_ret0 C dX10_writeValuesTo_34 rfl hR hF ⟨Nat.zero_le _, Nat.zero_le _⟩ h

def F_X7_startPayload (N : Nat) (M : vC) (a0 : Nat) (a1 : Int32) : Option vC := (F_X0_clear N M (1)).bind fun M1 => (F_X0_put N M1 (1) (a1)).bind fun M2 => some M2

set_option maxRecDepth 100000 in
set_option maxHeartbeats 4000000 in
theorem p_X7_startPayload {N : Nat} {M : vC} {R : vC} {a0 : Nat} {a1 : Int32} (ha0 : a0 < N) (h : F_X7_startPayload N M a0 a1 = some R) {E : vE} {S0 : vS} {z x d0 : Nat} (hR : RC S0 z x N d0 M) : vi_Met E yX7_startPayload cX7_startPayload 2 none 1 0 0 [.ref (ad z x 7 (a0)), .int (a1)] S0 (cz M) (D0 S0 z x N d0 R) := by
  refine vi_met (by decide) (Nat.le_of_ble_eq_true rfl) ?_
  intro X C
  have hF := cF.refl S0 z x N d0
  unfold F_X7_startPayload at h
  refine vi_aload_n C dX7_startPayload_0 rfl rfl ?_
  refine c_gets (f := 710) (k := 7) (i := a0) C dX7_startPayload_1 rfl fX7_62 rfl (by decide) rfl hR ha0 rfl ?_
  refine c_cv0 (kc := 0) (a := (ad z x 0 (1))) C [] [] dX7_startPayload_4 rfl ivX7_232 imX0_clear rfl rfl (rcK hR (show 1 < 3 from by decide)) hR hF h (fun _ e => p_X0_clear (show 1 < 3 from by decide) e hR) rfl (Nat.le_of_ble_eq_true rfl) ⟨by decide, by decide⟩ ⟨Nat.le_refl _, Nat.le_refl _⟩ (fun S M1 h hR hF => ?_)
  refine vi_aload_n C dX7_startPayload_7 rfl rfl ?_
  refine c_gets (f := 710) (k := 7) (i := a0) C dX7_startPayload_8 rfl fX7_62 rfl (by decide) rfl hR ha0 rfl ?_
  refine vi_iload_n C dX7_startPayload_11 rfl rfl ?_
  refine c_cv0 (kc := 0) (a := (ad z x 0 (1))) C [.int (a1)] [] dX7_startPayload_12 rfl ivX7_233 imX0_put rfl rfl (rcK hR (show 1 < 3 from by decide)) hR hF h (fun _ e => p_X0_put (show 1 < 3 from by decide) e hR) rfl (Nat.le_of_ble_eq_true rfl) ⟨by decide, by decide⟩ ⟨Nat.le_refl _, Nat.le_refl _⟩ (fun S M2 h hR hF => ?_)
  exact c_ret0 C dX7_startPayload_15 rfl hR hF ⟨Nat.zero_le _, Nat.zero_le _⟩ h

def L_X7_checkpointIfDue_58 {ρ : Type} (N : Nat) (l0 : Nat) (kx103 : vC → Option ρ) : Nat → vC → Int32 → Option ρ
  | 0, _, _ => none
  | f + 1, M, l1 => if l1 < (cI M 1008 (l0)) then (kx103 M ) else ((F_X7_startPayload N M (l0) ((5 : Int32))).bind fun M5 => (F_X10_writeValuesTo N M5 (l0) (1) (l1)).bind fun M6 => (F_X2_addRecord N M6 (l0) (1)).bind fun M7 => L_X7_checkpointIfDue_58 N l0 kx103 f M7 ((l1 + (-1))))

def F_X7_checkpointIfDue (N : Nat) (M : vC) (a0 : Nat) : Option (vC × Int32) := if (48 : Int32) ≤ (cI M 206 (a0)) then ((F_X2_startImage N M (a0)).bind fun M1 => (F_X7_startPayload N M1 (a0) ((4 : Int32))).bind fun M2 => (F_X10_writeTo N M2 (a0) (1)).bind fun M3 => (F_X2_addRecord N M3 (a0) (1)).bind fun M4 => L_X7_checkpointIfDue_58 N (a0) (fun (M9 : vC)  => lt1 (cP M9 713 (a0)) fun v10 => jn (fun (M21 : vC) => (F_X7_startPayload N M21 (a0) ((1 : Int32))).bind fun M22 => (F_X0_putU N M22 (1) ((cI M22 712 (a0)))).bind fun M23 => (F_X2_addRecord N M23 (a0) (1)).bind fun M24 => b2 (F_X2_writeHalf N M24 (a0)) fun M25 v26 => if v26 = 0 then ((F_X7_goDown N M25 (a0)).bind fun M27 => zb ((0 : Int32)) (some (M27, (0 : Int32)))) else ((F_X2_makeHead N M25 (a0) (((cI M25 208 (a0)) + (1 : Int32))) (((1 : Int32) - (cI M25 209 (a0))))).bind fun M28 => b2 (F_X2_writeHead N M28 (a0)) fun M29 v30 => if v30 = 0 then ((F_X7_goDown N M29 (a0)).bind fun M31 => zb ((0 : Int32)) (some (M31, (0 : Int32)))) else (zb ((1 : Int32)) (some (M29, (1 : Int32)))))) (fun k164_11 => oc (v10) ((k164_11 (M9))) (fun o12 => (F_X7_startPayload N M9 (a0) ((2 : Int32))).bind fun M13 => (F_X0_putU N M13 (1) ((cI M13 714 (a0)))).bind fun M14 => (F_X0_putU N M14 (1) (((cI M14 1007 (a0)) + (1 : Int32)))).bind fun M15 => lt1 (cP M15 713 (a0)) fun v16 => (v16).bind fun o17 => gd (cK M15 (o17) = 9) <| (F_X8_writeTo N M15 (o17) (1)).bind fun M19 => (F_X2_addRecord N M19 (a0) (1)).bind fun M20 => (k164_11 (M20))))) fu M4 (((cI M4 1007 (a0)) - (1 : Int32)))) else (zb ((1 : Int32)) (some (M, (1 : Int32))))

set_option maxRecDepth 100000 in
set_option maxHeartbeats 4000000 in
theorem w_X7_checkpointIfDue_58 {E : vE} {X : vX} {S0 : vS} {z x N d0 : Nat} {ρ : Type} {R : ρ} {Z : State → Prop} {l0 : Nat} {kx103 : vC → Option ρ} (hl0 : l0 < N) (C : vi_C E X yX7_checkpointIfDue cX7_checkpointIfDue 2 (some .boolean) 3 0 0 (45 * 3)) (hx103 : ∀ (M : vC) , kx103 M  = some R → ∀ S, RC S z x N d0 M → cF S0 S z x N d0 → vi_W E X 2 Z 103 [(0, .ref (ad z x 7 (l0)))] [] S (cz M) 0 0) : ∀ (f : Nat) (M : vC) (l1 : Int32), L_X7_checkpointIfDue_58 N l0 kx103 f M l1 = some R → ∀ S, RC S z x N d0 M → cF S0 S z x N d0 → vi_W E X 2 Z 58 [(0, .ref (ad z x 7 (l0))), (1, .int (l1))] [] S (cz M) 0 0 := by
  intro f
  induction f with
  | zero => intro M l1 h; cases h
  | succ f ih =>
    intro M l1 h S hR hF
    rw [L_X7_checkpointIfDue_58] at h
    refine vi_iload_n C dX7_checkpointIfDue_58 rfl rfl ?_
    refine vi_aload_n C dX7_checkpointIfDue_59 rfl rfl ?_
    refine c_gets (f := 703) (k := 7) (i := l0) C dX7_checkpointIfDue_60 rfl fX7_46 rfl (by decide) rfl hR hl0 rfl ?_
    refine c_geti (f := 1008) (k := 10) (i := l0) C dX7_checkpointIfDue_63 rfl fX7_71 rfl (by decide) rfl hR hl0 ?_
    refine vi_icmp_lt (t' := 103) C dX7_checkpointIfDue_66 rfl (by decide) (fun c8 => ?_) (fun c8 => ?_)
    · replace h := iT c8 h
      exact (vi_cut [(0, .ref (ad z x 7 (l0)))] ⟨rfl, trivial⟩ (hx103 _  h _ hR hF))
    · replace h := iN c8 h
      refine vi_aload_n C dX7_checkpointIfDue_69 rfl rfl ?_
      refine vi_iconst (v := 5) C dX7_checkpointIfDue_70 rfl (by decide) ?_
      refine c_cv0 (kc := 7) (a := (ad z x 7 (l0))) C [.int ((5 : Int32))] [] dX7_checkpointIfDue_71 rfl ivX7_202 imX7_startPayload rfl rfl (rcK hR hl0) hR hF h (fun _ e => p_X7_startPayload hl0 e hR) rfl (Nat.le_of_ble_eq_true rfl) ⟨by decide, by decide⟩ ⟨Nat.le_refl _, Nat.le_refl _⟩ (fun S M5 h hR hF => ?_)
      refine vi_aload_n C dX7_checkpointIfDue_74 rfl rfl ?_
      refine c_gets (f := 703) (k := 7) (i := l0) C dX7_checkpointIfDue_75 rfl fX7_46 rfl (by decide) rfl hR hl0 rfl ?_
      refine vi_aload_n C dX7_checkpointIfDue_78 rfl rfl ?_
      refine c_gets (f := 710) (k := 7) (i := l0) C dX7_checkpointIfDue_79 rfl fX7_62 rfl (by decide) rfl hR hl0 rfl ?_
      refine vi_iload_n C dX7_checkpointIfDue_82 rfl rfl ?_
      refine c_cv0 (kc := 10) (a := (ad z x 10 (l0))) C [.ref (ad z x 0 (1)), .int (l1)] [] dX7_checkpointIfDue_83 rfl ivX7_208 imX10_writeValuesTo rfl rfl (rcK hR hl0) hR hF h (fun _ e => p_X10_writeValuesTo hl0 (show 1 < 3 from by decide) e hR) rfl (Nat.le_of_ble_eq_true rfl) ⟨by decide, by decide⟩ ⟨Nat.le_refl _, Nat.le_refl _⟩ (fun S M6 h hR hF => ?_)
      refine vi_aload_n C dX7_checkpointIfDue_86 rfl rfl ?_
      refine c_gets (f := 704) (k := 7) (i := l0) C dX7_checkpointIfDue_87 rfl fX7_50 rfl (by decide) rfl hR hl0 rfl ?_
      refine vi_aload_n C dX7_checkpointIfDue_90 rfl rfl ?_
      refine c_gets (f := 710) (k := 7) (i := l0) C dX7_checkpointIfDue_91 rfl fX7_62 rfl (by decide) rfl hR hl0 rfl ?_
      refine c_cv0 (kc := 2) (a := (ad z x 2 (l0))) C [.ref (ad z x 0 (1))] [] dX7_checkpointIfDue_94 rfl ivX7_190 imX2_addRecord rfl rfl (rcK hR hl0) hR hF h (fun _ e => p_X2_addRecord hl0 (show 1 < 3 from by decide) e hR) rfl (Nat.le_of_ble_eq_true rfl) ⟨by decide, by decide⟩ ⟨Nat.le_refl _, Nat.le_refl _⟩ (fun S M7 h hR hF => ?_)
      refine vi_iincv (v := -1) C dX7_checkpointIfDue_97 rfl rfl (by decide) (by decide) ?_
      refine vi_goto (t' := 58) C dX7_checkpointIfDue_100 (by decide) ?_
      exact vi_cut [(0, .ref (ad z x 7 (l0))), (1, .int ((l1 + (-1))))] ⟨rfl, rfl, trivial⟩ (ih _ _ h _ hR hF)

set_option maxRecDepth 100000 in
set_option maxHeartbeats 4000000 in
theorem p_X7_checkpointIfDue {N : Nat} {M : vC} {R : (vC × Int32)} {a0 : Nat} (ha0 : a0 < N) (h : F_X7_checkpointIfDue N M a0 = some R) {E : vE} {S0 : vS} {z x d0 : Nat} (hR : RC S0 z x N d0 M) : vi_Met E yX7_checkpointIfDue cX7_checkpointIfDue 2 (some .boolean) 3 0 0 [.ref (ad z x 7 (a0))] S0 (cz M) (D1 S0 z x N d0 R) := by
  refine vi_met (by decide) (Nat.le_of_ble_eq_true rfl) ?_
  intro X C
  have hF := cF.refl S0 z x N d0
  unfold F_X7_checkpointIfDue at h
  refine vi_aload_n C dX7_checkpointIfDue_0 rfl rfl ?_
  refine c_gets (f := 704) (k := 7) (i := a0) C dX7_checkpointIfDue_1 rfl fX7_50 rfl (by decide) rfl hR ha0 rfl ?_
  refine c_geti (f := 206) (k := 2) (i := a0) C dX7_checkpointIfDue_4 rfl fX7_199 rfl (by decide) rfl hR ha0 ?_
  refine vi_bipush (v := 48) C dX7_checkpointIfDue_7 rfl (by decide) ?_
  refine vi_icmp_ge (t' := 14) C dX7_checkpointIfDue_9 rfl (by decide) (fun c34 => ?_) (fun c34 => ?_)
  · replace h := iT c34 h
    refine vi_aload_n C dX7_checkpointIfDue_14 rfl rfl ?_
    refine c_gets (f := 704) (k := 7) (i := a0) C dX7_checkpointIfDue_15 rfl fX7_50 rfl (by decide) rfl hR ha0 rfl ?_
    refine c_cv0 (kc := 2) (a := (ad z x 2 (a0))) C [] [] dX7_checkpointIfDue_18 rfl ivX7_187 imX2_startImage rfl rfl (rcK hR ha0) hR hF h (fun _ e => p_X2_startImage ha0 e hR) rfl (Nat.le_of_ble_eq_true rfl) ⟨by decide, by decide⟩ ⟨Nat.le_refl _, Nat.le_refl _⟩ (fun S M1 h hR hF => ?_)
    refine vi_aload_n C dX7_checkpointIfDue_21 rfl rfl ?_
    refine vi_iconst (v := 4) C dX7_checkpointIfDue_22 rfl (by decide) ?_
    refine c_cv0 (kc := 7) (a := (ad z x 7 (a0))) C [.int ((4 : Int32))] [] dX7_checkpointIfDue_23 rfl ivX7_202 imX7_startPayload rfl rfl (rcK hR ha0) hR hF h (fun _ e => p_X7_startPayload ha0 e hR) rfl (Nat.le_of_ble_eq_true rfl) ⟨by decide, by decide⟩ ⟨Nat.le_refl _, Nat.le_refl _⟩ (fun S M2 h hR hF => ?_)
    refine vi_aload_n C dX7_checkpointIfDue_26 rfl rfl ?_
    refine c_gets (f := 703) (k := 7) (i := a0) C dX7_checkpointIfDue_27 rfl fX7_46 rfl (by decide) rfl hR ha0 rfl ?_
    refine vi_aload_n C dX7_checkpointIfDue_30 rfl rfl ?_
    refine c_gets (f := 710) (k := 7) (i := a0) C dX7_checkpointIfDue_31 rfl fX7_62 rfl (by decide) rfl hR ha0 rfl ?_
    refine c_cv0 (kc := 10) (a := (ad z x 10 (a0))) C [.ref (ad z x 0 (1))] [] dX7_checkpointIfDue_34 rfl ivX7_205 imX10_writeTo rfl rfl (rcK hR ha0) hR hF h (fun _ e => p_X10_writeTo ha0 (show 1 < 3 from by decide) e hR) rfl (Nat.le_of_ble_eq_true rfl) ⟨by decide, by decide⟩ ⟨Nat.le_refl _, Nat.le_refl _⟩ (fun S M3 h hR hF => ?_)
    refine vi_aload_n C dX7_checkpointIfDue_37 rfl rfl ?_
    refine c_gets (f := 704) (k := 7) (i := a0) C dX7_checkpointIfDue_38 rfl fX7_50 rfl (by decide) rfl hR ha0 rfl ?_
    refine vi_aload_n C dX7_checkpointIfDue_41 rfl rfl ?_
    refine c_gets (f := 710) (k := 7) (i := a0) C dX7_checkpointIfDue_42 rfl fX7_62 rfl (by decide) rfl hR ha0 rfl ?_
    refine c_cv0 (kc := 2) (a := (ad z x 2 (a0))) C [.ref (ad z x 0 (1))] [] dX7_checkpointIfDue_45 rfl ivX7_190 imX2_addRecord rfl rfl (rcK hR ha0) hR hF h (fun _ e => p_X2_addRecord ha0 (show 1 < 3 from by decide) e hR) rfl (Nat.le_of_ble_eq_true rfl) ⟨by decide, by decide⟩ ⟨Nat.le_refl _, Nat.le_refl _⟩ (fun S M4 h hR hF => ?_)
    refine vi_aload_n C dX7_checkpointIfDue_48 rfl rfl ?_
    refine c_gets (f := 703) (k := 7) (i := a0) C dX7_checkpointIfDue_49 rfl fX7_46 rfl (by decide) rfl hR ha0 rfl ?_
    refine c_geti (f := 1007) (k := 10) (i := a0) C dX7_checkpointIfDue_52 rfl fX7_66 rfl (by decide) rfl hR ha0 ?_
    refine vi_iconst (v := 1) C dX7_checkpointIfDue_55 rfl (by decide) ?_
    refine vi_isub C dX7_checkpointIfDue_56 rfl ?_
    refine vi_istore_n C dX7_checkpointIfDue_57 rfl (by decide) ?_
    refine vi_cut [(0, .ref (ad z x 7 (a0))), (1, .int (((cI M4 1007 (a0)) - (1 : Int32))))] ⟨rfl, rfl, trivial⟩ (w_X7_checkpointIfDue_58 ha0 C ?_ _ _ _ h _ hR hF)
    · intro M9 h S hR hF
      refine vi_aload_n C dX7_checkpointIfDue_103 rfl rfl ?_
      refine c_getpL (f := 713) (k := 7) (i := a0) C dX7_checkpointIfDue_104 rfl fX7_81 rfl (by decide) rfl hR ha0 rfl h (fun v10 h => ?_)
      refine r_jn h (fun k => ∀ (M21 : vC), k M21 = some R → ∀ S, RC S z x N d0 M21 → cF S0 S z x N d0 → vi_W E X 2 (vi_Z E X (D1 S0 z x N d0 R) 0 0) 164 [(0, .ref (ad z x 7 (a0)))] [] S (cz M21) 0 0) ?_ ?_
      · intro M21 h S hR hF
        refine vi_aload_n C dX7_checkpointIfDue_164 rfl rfl ?_
        refine vi_iconst (v := 1) C dX7_checkpointIfDue_165 rfl (by decide) ?_
        refine c_cv0 (kc := 7) (a := (ad z x 7 (a0))) C [.int ((1 : Int32))] [] dX7_checkpointIfDue_166 rfl ivX7_202 imX7_startPayload rfl rfl (rcK hR ha0) hR hF h (fun _ e => p_X7_startPayload ha0 e hR) rfl (Nat.le_of_ble_eq_true rfl) ⟨by decide, by decide⟩ ⟨Nat.le_refl _, Nat.le_refl _⟩ (fun S M22 h hR hF => ?_)
        refine vi_aload_n C dX7_checkpointIfDue_169 rfl rfl ?_
        refine c_gets (f := 710) (k := 7) (i := a0) C dX7_checkpointIfDue_170 rfl fX7_62 rfl (by decide) rfl hR ha0 rfl ?_
        refine vi_aload_n C dX7_checkpointIfDue_173 rfl rfl ?_
        refine c_geti (f := 712) (k := 7) (i := a0) C dX7_checkpointIfDue_174 rfl fX7_78 rfl (by decide) rfl hR ha0 ?_
        refine c_cv0 (kc := 0) (a := (ad z x 0 (1))) C [.int ((cI M22 712 (a0)))] [] dX7_checkpointIfDue_177 rfl ivX7_212 imX0_putU rfl rfl (rcK hR (show 1 < 3 from by decide)) hR hF h (fun _ e => p_X0_putU (show 1 < 3 from by decide) e hR) rfl (Nat.le_of_ble_eq_true rfl) ⟨by decide, by decide⟩ ⟨Nat.le_refl _, Nat.le_refl _⟩ (fun S M23 h hR hF => ?_)
        refine vi_aload_n C dX7_checkpointIfDue_180 rfl rfl ?_
        refine c_gets (f := 704) (k := 7) (i := a0) C dX7_checkpointIfDue_181 rfl fX7_50 rfl (by decide) rfl hR ha0 rfl ?_
        refine vi_aload_n C dX7_checkpointIfDue_184 rfl rfl ?_
        refine c_gets (f := 710) (k := 7) (i := a0) C dX7_checkpointIfDue_185 rfl fX7_62 rfl (by decide) rfl hR ha0 rfl ?_
        refine c_cv0 (kc := 2) (a := (ad z x 2 (a0))) C [.ref (ad z x 0 (1))] [] dX7_checkpointIfDue_188 rfl ivX7_190 imX2_addRecord rfl rfl (rcK hR ha0) hR hF h (fun _ e => p_X2_addRecord ha0 (show 1 < 3 from by decide) e hR) rfl (Nat.le_of_ble_eq_true rfl) ⟨by decide, by decide⟩ ⟨Nat.le_refl _, Nat.le_refl _⟩ (fun S M24 h hR hF => ?_)
        refine vi_aload_n C dX7_checkpointIfDue_191 rfl rfl ?_
        refine c_gets (f := 704) (k := 7) (i := a0) C dX7_checkpointIfDue_192 rfl fX7_50 rfl (by decide) rfl hR ha0 rfl ?_
        refine c_cv1 (kc := 2) (a := (ad z x 2 (a0))) C [] [] dX7_checkpointIfDue_195 rfl ivX7_216 imX2_writeHalf rfl rfl (rcK hR ha0) hR hF h (fun _ e => p_X2_writeHalf ha0 e hR) rfl (Nat.le_of_ble_eq_true rfl) ⟨by decide, by decide⟩ ⟨Nat.le_refl _, Nat.le_refl _⟩ (fun S M25 v26 h hR hF => ?_)
        refine vi_if_eq (t' := 238) C dX7_checkpointIfDue_198 rfl (by decide) (fun c33 => ?_) (fun c33 => ?_)
        · replace h := iT c33 h
          refine vi_aload_n C dX7_checkpointIfDue_238 rfl rfl ?_
          refine c_cv0 (kc := 7) (a := (ad z x 7 (a0))) C [] [] dX7_checkpointIfDue_239 rfl ivX7_196 imX7_goDown rfl rfl (rcK hR ha0) hR hF h (fun _ e => p_X7_goDown ha0 e hR) rfl (Nat.le_of_ble_eq_true rfl) ⟨by decide, by decide⟩ ⟨Nat.le_refl _, Nat.le_refl _⟩ (fun S M27 h hR hF => ?_)
          refine vi_iconst (v := 0) C dX7_checkpointIfDue_242 rfl (by decide) ?_
          exact c_retz C dX7_checkpointIfDue_243 rfl hR hF ⟨Nat.zero_le _, Nat.zero_le _⟩ h
        · replace h := iN c33 h
          refine vi_aload_n C dX7_checkpointIfDue_201 rfl rfl ?_
          refine c_gets (f := 704) (k := 7) (i := a0) C dX7_checkpointIfDue_202 rfl fX7_50 rfl (by decide) rfl hR ha0 rfl ?_
          refine vi_aload_n C dX7_checkpointIfDue_205 rfl rfl ?_
          refine c_gets (f := 704) (k := 7) (i := a0) C dX7_checkpointIfDue_206 rfl fX7_50 rfl (by decide) rfl hR ha0 rfl ?_
          refine c_geti (f := 208) (k := 2) (i := a0) C dX7_checkpointIfDue_209 rfl fX7_219 rfl (by decide) rfl hR ha0 ?_
          refine vi_iconst (v := 1) C dX7_checkpointIfDue_212 rfl (by decide) ?_
          refine vi_iadd C dX7_checkpointIfDue_213 rfl ?_
          refine vi_iconst (v := 1) C dX7_checkpointIfDue_214 rfl (by decide) ?_
          refine vi_aload_n C dX7_checkpointIfDue_215 rfl rfl ?_
          refine c_gets (f := 704) (k := 7) (i := a0) C dX7_checkpointIfDue_216 rfl fX7_50 rfl (by decide) rfl hR ha0 rfl ?_
          refine c_geti (f := 209) (k := 2) (i := a0) C dX7_checkpointIfDue_219 rfl fX7_222 rfl (by decide) rfl hR ha0 ?_
          refine vi_isub C dX7_checkpointIfDue_222 rfl ?_
          refine c_cv0 (kc := 2) (a := (ad z x 2 (a0))) C [.int (((cI M25 208 (a0)) + (1 : Int32))), .int (((1 : Int32) - (cI M25 209 (a0))))] [] dX7_checkpointIfDue_223 rfl ivX7_225 imX2_makeHead rfl rfl (rcK hR ha0) hR hF h (fun _ e => p_X2_makeHead ha0 e hR) rfl (Nat.le_of_ble_eq_true rfl) ⟨by decide, by decide⟩ ⟨Nat.le_refl _, Nat.le_refl _⟩ (fun S M28 h hR hF => ?_)
          refine vi_aload_n C dX7_checkpointIfDue_226 rfl rfl ?_
          refine c_gets (f := 704) (k := 7) (i := a0) C dX7_checkpointIfDue_227 rfl fX7_50 rfl (by decide) rfl hR ha0 rfl ?_
          refine c_cv1 (kc := 2) (a := (ad z x 2 (a0))) C [] [] dX7_checkpointIfDue_230 rfl ivX7_229 imX2_writeHead rfl rfl (rcK hR ha0) hR hF h (fun _ e => p_X2_writeHead ha0 e hR) rfl (Nat.le_of_ble_eq_true rfl) ⟨by decide, by decide⟩ ⟨Nat.le_refl _, Nat.le_refl _⟩ (fun S M29 v30 h hR hF => ?_)
          refine vi_if_eq (t' := 238) C dX7_checkpointIfDue_233 rfl (by decide) (fun c32 => ?_) (fun c32 => ?_)
          · replace h := iT c32 h
            refine vi_aload_n C dX7_checkpointIfDue_238 rfl rfl ?_
            refine c_cv0 (kc := 7) (a := (ad z x 7 (a0))) C [] [] dX7_checkpointIfDue_239 rfl ivX7_196 imX7_goDown rfl rfl (rcK hR ha0) hR hF h (fun _ e => p_X7_goDown ha0 e hR) rfl (Nat.le_of_ble_eq_true rfl) ⟨by decide, by decide⟩ ⟨Nat.le_refl _, Nat.le_refl _⟩ (fun S M31 h hR hF => ?_)
            refine vi_iconst (v := 0) C dX7_checkpointIfDue_242 rfl (by decide) ?_
            exact c_retz C dX7_checkpointIfDue_243 rfl hR hF ⟨Nat.zero_le _, Nat.zero_le _⟩ h
          · replace h := iN c32 h
            refine vi_iconst (v := 1) C dX7_checkpointIfDue_236 rfl (by decide) ?_
            exact c_retz C dX7_checkpointIfDue_237 rfl hR hF ⟨Nat.zero_le _, Nat.zero_le _⟩ h
      · intro k164_11 h164_11 h
        rcases oco h with ⟨rfl, hh⟩ | ⟨o12, rfl, hh⟩
        · replace h := hh
          clear hh
          refine vi_ifnull (o := none) (t' := 164) C dX7_checkpointIfDue_107 rfl (by decide) (fun _ => ?_) (fun e => absurd rfl e)
          exact (vi_cut [(0, .ref (ad z x 7 (a0)))] ⟨rfl, trivial⟩ (h164_11 _ h _ hR hF))
        · replace h := hh
          clear hh
          refine vi_ifnull (o := (some (o12))) (t' := 164) C dX7_checkpointIfDue_107 rfl (by decide) (fun e => by cases e) (fun _ => ?_)
          refine vi_aload_n C dX7_checkpointIfDue_110 rfl rfl ?_
          refine vi_iconst (v := 2) C dX7_checkpointIfDue_111 rfl (by decide) ?_
          refine c_cv0 (kc := 7) (a := (ad z x 7 (a0))) C [.int ((2 : Int32))] [] dX7_checkpointIfDue_112 rfl ivX7_202 imX7_startPayload rfl rfl (rcK hR ha0) hR hF h (fun _ e => p_X7_startPayload ha0 e hR) rfl (Nat.le_of_ble_eq_true rfl) ⟨by decide, by decide⟩ ⟨Nat.le_refl _, Nat.le_refl _⟩ (fun S M13 h hR hF => ?_)
          refine vi_aload_n C dX7_checkpointIfDue_115 rfl rfl ?_
          refine c_gets (f := 710) (k := 7) (i := a0) C dX7_checkpointIfDue_116 rfl fX7_62 rfl (by decide) rfl hR ha0 rfl ?_
          refine vi_aload_n C dX7_checkpointIfDue_119 rfl rfl ?_
          refine c_geti (f := 714) (k := 7) (i := a0) C dX7_checkpointIfDue_120 rfl fX7_85 rfl (by decide) rfl hR ha0 ?_
          refine c_cv0 (kc := 0) (a := (ad z x 0 (1))) C [.int ((cI M13 714 (a0)))] [] dX7_checkpointIfDue_123 rfl ivX7_212 imX0_putU rfl rfl (rcK hR (show 1 < 3 from by decide)) hR hF h (fun _ e => p_X0_putU (show 1 < 3 from by decide) e hR) rfl (Nat.le_of_ble_eq_true rfl) ⟨by decide, by decide⟩ ⟨Nat.le_refl _, Nat.le_refl _⟩ (fun S M14 h hR hF => ?_)
          refine vi_aload_n C dX7_checkpointIfDue_126 rfl rfl ?_
          refine c_gets (f := 710) (k := 7) (i := a0) C dX7_checkpointIfDue_127 rfl fX7_62 rfl (by decide) rfl hR ha0 rfl ?_
          refine vi_aload_n C dX7_checkpointIfDue_130 rfl rfl ?_
          refine c_gets (f := 703) (k := 7) (i := a0) C dX7_checkpointIfDue_131 rfl fX7_46 rfl (by decide) rfl hR ha0 rfl ?_
          refine c_geti (f := 1007) (k := 10) (i := a0) C dX7_checkpointIfDue_134 rfl fX7_66 rfl (by decide) rfl hR ha0 ?_
          refine vi_iconst (v := 1) C dX7_checkpointIfDue_137 rfl (by decide) ?_
          refine vi_iadd C dX7_checkpointIfDue_138 rfl ?_
          refine c_cv0 (kc := 0) (a := (ad z x 0 (1))) C [.int (((cI M14 1007 (a0)) + (1 : Int32)))] [] dX7_checkpointIfDue_139 rfl ivX7_212 imX0_putU rfl rfl (rcK hR (show 1 < 3 from by decide)) hR hF h (fun _ e => p_X0_putU (show 1 < 3 from by decide) e hR) rfl (Nat.le_of_ble_eq_true rfl) ⟨by decide, by decide⟩ ⟨Nat.le_refl _, Nat.le_refl _⟩ (fun S M15 h hR hF => ?_)
          refine vi_aload_n C dX7_checkpointIfDue_142 rfl rfl ?_
          refine c_getpL (f := 713) (k := 7) (i := a0) C dX7_checkpointIfDue_143 rfl fX7_81 rfl (by decide) rfl hR ha0 rfl h (fun v16 h => ?_)
          refine vi_aload_n C dX7_checkpointIfDue_146 rfl rfl ?_
          refine c_gets (f := 710) (k := 7) (i := a0) C dX7_checkpointIfDue_147 rfl fX7_62 rfl (by decide) rfl hR ha0 rfl ?_
          obtain ⟨o17, rfl, hh⟩ := bdo h
          replace h := hh
          clear hh
          obtain ⟨c18, h⟩ := gdo h
          refine c_cv0 (kc := 8) (a := (o17)) C [.ref (ad z x 0 (1))] [] dX7_checkpointIfDue_150 rfl ivX7_215 imX8_writeTo rfl rfl (rcKD hR c18) hR hF h (fun _ e => p_X8_writeTo (show 1 < 3 from by decide) e hR) rfl (Nat.le_of_ble_eq_true rfl) ⟨by decide, by decide⟩ ⟨Nat.le_refl _, Nat.le_refl _⟩ (fun S M19 h hR hF => ?_)
          refine vi_aload_n C dX7_checkpointIfDue_153 rfl rfl ?_
          refine c_gets (f := 704) (k := 7) (i := a0) C dX7_checkpointIfDue_154 rfl fX7_50 rfl (by decide) rfl hR ha0 rfl ?_
          refine vi_aload_n C dX7_checkpointIfDue_157 rfl rfl ?_
          refine c_gets (f := 710) (k := 7) (i := a0) C dX7_checkpointIfDue_158 rfl fX7_62 rfl (by decide) rfl hR ha0 rfl ?_
          refine c_cv0 (kc := 2) (a := (ad z x 2 (a0))) C [.ref (ad z x 0 (1))] [] dX7_checkpointIfDue_161 rfl ivX7_190 imX2_addRecord rfl rfl (rcK hR ha0) hR hF h (fun _ e => p_X2_addRecord ha0 (show 1 < 3 from by decide) e hR) rfl (Nat.le_of_ble_eq_true rfl) ⟨by decide, by decide⟩ ⟨Nat.le_refl _, Nat.le_refl _⟩ (fun S M20 h hR hF => ?_)
          exact (vi_cut [(0, .ref (ad z x 7 (a0)))] ⟨rfl, trivial⟩ (h164_11 _ h _ hR hF))
  · replace h := iN c34 h
    refine vi_iconst (v := 1) C dX7_checkpointIfDue_12 rfl (by decide) ?_
    exact c_retz C dX7_checkpointIfDue_13 rfl hR hF ⟨Nat.zero_le _, Nat.zero_le _⟩ h

def L_X10_forget_17 {ρ : Type} (N : Nat) (l0 : Nat) (kx43 : vC → Option ρ) : Nat → vC → Int32 → Option ρ
  | 0, _, _ => none
  | f + 1, M, l1 => if (16 : Int32) ≤ l1 then (kx43 M ) else ((cS M 1002 (l0) (l1) ((0 : Int32))).bind fun M4 => (cS M4 1003 (l0) (l1) ((0 : Int32))).bind fun M5 => L_X10_forget_17 N l0 kx43 f M5 ((l1 + (1))))

def L_X10_forget_45 {ρ : Type} (N : Nat) (l0 : Nat) (kx64 : vC → Option ρ) : Nat → vC → Int32 → Option ρ
  | 0, _, _ => none
  | f + 1, M, l1 => if (16 : Int32) ≤ l1 then (kx64 M ) else ((cS M 1004 (l0) (l1) ((0 : Int32))).bind fun M8 => L_X10_forget_45 N l0 kx64 f M8 ((l1 + (1))))

def L_X10_forget_66 {ρ : Type} (N : Nat) (l0 : Nat) (kx85 : vC → Option ρ) : Nat → vC → Int32 → Option ρ
  | 0, _, _ => none
  | f + 1, M, l1 => if (16 : Int32) ≤ l1 then (kx85 M ) else ((cS M 1005 (l0) (l1) ((0 : Int32))).bind fun M11 => L_X10_forget_66 N l0 kx85 f M11 ((l1 + (1))))

def F_X10_forget (N : Nat) (M : vC) (a0 : Nat) : Option vC := lt1 (uI M 1007 (a0) ((0 : Int32))) fun M1 => lt1 (uI M1 1008 (a0) ((0 : Int32))) fun M2 => lt1 (uI M2 1009 (a0) ((0 : Int32))) fun M3 => L_X10_forget_17 N (a0) (fun (M7 : vC)  => L_X10_forget_45 N (a0) (fun (M10 : vC)  => L_X10_forget_66 N (a0) (fun (M13 : vC)  => some M13) fu M10 ((0 : Int32))) fu M7 ((0 : Int32))) fu M3 ((0 : Int32))

set_option maxRecDepth 100000 in
set_option maxHeartbeats 4000000 in
theorem w_X10_forget_17 {E : vE} {X : vX} {S0 : vS} {z x N d0 : Nat} {ρ : Type} {R : ρ} {Z : State → Prop} {l0 : Nat} {kx43 : vC → Option ρ} (hl0 : l0 < N) (C : vi_C E X yX10_forget cX10_forget 2 none 0 0 0 (45 * 0)) (hx43 : ∀ (M : vC) , kx43 M  = some R → ∀ S, RC S z x N d0 M → cF S0 S z x N d0 → vi_W E X 2 Z 43 [(0, .ref (ad z x 10 (l0)))] [] S (cz M) 0 0) : ∀ (f : Nat) (M : vC) (l1 : Int32), L_X10_forget_17 N l0 kx43 f M l1 = some R → ∀ S, RC S z x N d0 M → cF S0 S z x N d0 → vi_W E X 2 Z 17 [(0, .ref (ad z x 10 (l0))), (1, .int (l1))] [] S (cz M) 0 0 := by
  intro f
  induction f with
  | zero => intro M l1 h; cases h
  | succ f ih =>
    intro M l1 h S hR hF
    rw [L_X10_forget_17] at h
    refine vi_iload_n C dX10_forget_17 rfl rfl ?_
    refine vi_bipush (v := 16) C dX10_forget_18 rfl (by decide) ?_
    refine vi_icmp_ge (t' := 43) C dX10_forget_20 rfl (by decide) (fun c6 => ?_) (fun c6 => ?_)
    · replace h := iT c6 h
      exact (vi_cut [(0, .ref (ad z x 10 (l0)))] ⟨rfl, trivial⟩ (hx43 _  h _ hR hF))
    · replace h := iN c6 h
      refine vi_aload_n C dX10_forget_23 rfl rfl ?_
      refine c_gets (f := 1002) (k := 10) (i := l0) C dX10_forget_24 rfl fX10_9 rfl (by decide) rfl hR hl0 rfl ?_
      refine vi_iload_n C dX10_forget_27 rfl rfl ?_
      refine vi_iconst (v := 0) C dX10_forget_28 rfl (by decide) ?_
      refine c_iastore C dX10_forget_29 rfl rfl hR hF ⟨hl0, by decide⟩ h (fun S M4 h hR hF => ?_)
      refine vi_aload_n C dX10_forget_30 rfl rfl ?_
      refine c_gets (f := 1003) (k := 10) (i := l0) C dX10_forget_31 rfl fX10_15 rfl (by decide) rfl hR hl0 rfl ?_
      refine vi_iload_n C dX10_forget_34 rfl rfl ?_
      refine vi_iconst (v := 0) C dX10_forget_35 rfl (by decide) ?_
      refine c_iastore C dX10_forget_36 rfl rfl hR hF ⟨hl0, by decide⟩ h (fun S M5 h hR hF => ?_)
      refine vi_iincv (v := 1) C dX10_forget_37 rfl rfl (by decide) (by decide) ?_
      refine vi_goto (t' := 17) C dX10_forget_40 (by decide) ?_
      exact vi_cut [(0, .ref (ad z x 10 (l0))), (1, .int ((l1 + (1))))] ⟨rfl, rfl, trivial⟩ (ih _ _ h _ hR hF)

set_option maxRecDepth 100000 in
set_option maxHeartbeats 4000000 in
theorem w_X10_forget_45 {E : vE} {X : vX} {S0 : vS} {z x N d0 : Nat} {ρ : Type} {R : ρ} {Z : State → Prop} {l0 : Nat} {kx64 : vC → Option ρ} (hl0 : l0 < N) (C : vi_C E X yX10_forget cX10_forget 2 none 0 0 0 (45 * 0)) (hx64 : ∀ (M : vC) , kx64 M  = some R → ∀ S, RC S z x N d0 M → cF S0 S z x N d0 → vi_W E X 2 Z 64 [(0, .ref (ad z x 10 (l0)))] [] S (cz M) 0 0) : ∀ (f : Nat) (M : vC) (l1 : Int32), L_X10_forget_45 N l0 kx64 f M l1 = some R → ∀ S, RC S z x N d0 M → cF S0 S z x N d0 → vi_W E X 2 Z 45 [(0, .ref (ad z x 10 (l0))), (1, .int (l1))] [] S (cz M) 0 0 := by
  intro f
  induction f with
  | zero => intro M l1 h; cases h
  | succ f ih =>
    intro M l1 h S hR hF
    rw [L_X10_forget_45] at h
    refine vi_iload_n C dX10_forget_45 rfl rfl ?_
    refine vi_bipush (v := 16) C dX10_forget_46 rfl (by decide) ?_
    refine vi_icmp_ge (t' := 64) C dX10_forget_48 rfl (by decide) (fun c9 => ?_) (fun c9 => ?_)
    · replace h := iT c9 h
      exact (vi_cut [(0, .ref (ad z x 10 (l0)))] ⟨rfl, trivial⟩ (hx64 _  h _ hR hF))
    · replace h := iN c9 h
      refine vi_aload_n C dX10_forget_51 rfl rfl ?_
      refine c_gets (f := 1004) (k := 10) (i := l0) C dX10_forget_52 rfl fX10_18 rfl (by decide) rfl hR hl0 rfl ?_
      refine vi_iload_n C dX10_forget_55 rfl rfl ?_
      refine vi_iconst (v := 0) C dX10_forget_56 rfl (by decide) ?_
      refine c_iastore C dX10_forget_57 rfl rfl hR hF ⟨hl0, by decide⟩ h (fun S M8 h hR hF => ?_)
      refine vi_iincv (v := 1) C dX10_forget_58 rfl rfl (by decide) (by decide) ?_
      refine vi_goto (t' := 45) C dX10_forget_61 (by decide) ?_
      exact vi_cut [(0, .ref (ad z x 10 (l0))), (1, .int ((l1 + (1))))] ⟨rfl, rfl, trivial⟩ (ih _ _ h _ hR hF)

set_option maxRecDepth 100000 in
set_option maxHeartbeats 4000000 in
theorem w_X10_forget_66 {E : vE} {X : vX} {S0 : vS} {z x N d0 : Nat} {ρ : Type} {R : ρ} {Z : State → Prop} {l0 : Nat} {kx85 : vC → Option ρ} (hl0 : l0 < N) (C : vi_C E X yX10_forget cX10_forget 2 none 0 0 0 (45 * 0)) (hx85 : ∀ (M : vC) , kx85 M  = some R → ∀ S, RC S z x N d0 M → cF S0 S z x N d0 → vi_W E X 2 Z 85 [] [] S (cz M) 0 0) : ∀ (f : Nat) (M : vC) (l1 : Int32), L_X10_forget_66 N l0 kx85 f M l1 = some R → ∀ S, RC S z x N d0 M → cF S0 S z x N d0 → vi_W E X 2 Z 66 [(0, .ref (ad z x 10 (l0))), (1, .int (l1))] [] S (cz M) 0 0 := by
  intro f
  induction f with
  | zero => intro M l1 h; cases h
  | succ f ih =>
    intro M l1 h S hR hF
    rw [L_X10_forget_66] at h
    refine vi_iload_n C dX10_forget_66 rfl rfl ?_
    refine vi_bipush (v := 16) C dX10_forget_67 rfl (by decide) ?_
    refine vi_icmp_ge (t' := 85) C dX10_forget_69 rfl (by decide) (fun c12 => ?_) (fun c12 => ?_)
    · replace h := iT c12 h
      exact (vi_cut [] trivial (hx85 _  h _ hR hF))
    · replace h := iN c12 h
      refine vi_aload_n C dX10_forget_72 rfl rfl ?_
      refine c_gets (f := 1005) (k := 10) (i := l0) C dX10_forget_73 rfl fX10_21 rfl (by decide) rfl hR hl0 rfl ?_
      refine vi_iload_n C dX10_forget_76 rfl rfl ?_
      refine vi_iconst (v := 0) C dX10_forget_77 rfl (by decide) ?_
      refine c_iastore C dX10_forget_78 rfl rfl hR hF ⟨hl0, by decide⟩ h (fun S M11 h hR hF => ?_)
      refine vi_iincv (v := 1) C dX10_forget_79 rfl rfl (by decide) (by decide) ?_
      refine vi_goto (t' := 66) C dX10_forget_82 (by decide) ?_
      exact vi_cut [(0, .ref (ad z x 10 (l0))), (1, .int ((l1 + (1))))] ⟨rfl, rfl, trivial⟩ (ih _ _ h _ hR hF)

set_option maxRecDepth 100000 in
set_option maxHeartbeats 4000000 in
theorem p_X10_forget {N : Nat} {M : vC} {R : vC} {a0 : Nat} (ha0 : a0 < N) (h : F_X10_forget N M a0 = some R) {E : vE} {S0 : vS} {z x d0 : Nat} (hR : RC S0 z x N d0 M) : vi_Met E yX10_forget cX10_forget 2 none 0 0 0 [.ref (ad z x 10 (a0))] S0 (cz M) (D0 S0 z x N d0 R) := by
  refine vi_met (by decide) (Nat.le_of_ble_eq_true rfl) ?_
  intro X C
  have hF := cF.refl S0 z x N d0
  unfold F_X10_forget at h
  refine vi_aload_n C dX10_forget_0 rfl rfl ?_
  refine vi_iconst (v := 0) C dX10_forget_1 rfl (by decide) ?_
  refine c_puti (f := 1007) (k := 10) (i := a0) C dX10_forget_2 rfl (fpX10_37 _) rfl (by decide) rfl hR hF ha0 h (fun S M1 h hR hF => ?_)
  refine vi_aload_n C dX10_forget_5 rfl rfl ?_
  refine vi_iconst (v := 0) C dX10_forget_6 rfl (by decide) ?_
  refine c_puti (f := 1008) (k := 10) (i := a0) C dX10_forget_7 rfl (fpX10_40 _) rfl (by decide) rfl hR hF ha0 h (fun S M2 h hR hF => ?_)
  refine vi_aload_n C dX10_forget_10 rfl rfl ?_
  refine vi_iconst (v := 0) C dX10_forget_11 rfl (by decide) ?_
  refine c_puti (f := 1009) (k := 10) (i := a0) C dX10_forget_12 rfl (fpX10_43 _) rfl (by decide) rfl hR hF ha0 h (fun S M3 h hR hF => ?_)
  refine vi_iconst (v := 0) C dX10_forget_15 rfl (by decide) ?_
  refine vi_istore_n C dX10_forget_16 rfl (by decide) ?_
  refine vi_cut [(0, .ref (ad z x 10 (a0))), (1, .int ((0 : Int32)))] ⟨rfl, rfl, trivial⟩ (w_X10_forget_17 ha0 C ?_ _ _ _ h _ hR hF)
  · intro M7 h S hR hF
    refine vi_iconst (v := 0) C dX10_forget_43 rfl (by decide) ?_
    refine vi_istore_n C dX10_forget_44 rfl (by decide) ?_
    refine vi_cut [(0, .ref (ad z x 10 (a0))), (1, .int ((0 : Int32)))] ⟨rfl, rfl, trivial⟩ (w_X10_forget_45 ha0 C ?_ _ _ _ h _ hR hF)
    · intro M10 h S hR hF
      refine vi_iconst (v := 0) C dX10_forget_64 rfl (by decide) ?_
      refine vi_istore_n C dX10_forget_65 rfl (by decide) ?_
      refine vi_cut [(0, .ref (ad z x 10 (a0))), (1, .int ((0 : Int32)))] ⟨rfl, rfl, trivial⟩ (w_X10_forget_66 ha0 C ?_ _ _ _ h _ hR hF)
      · intro M13 h S hR hF
        exact c_ret0 C dX10_forget_85 rfl hR hF ⟨Nat.zero_le _, Nat.zero_le _⟩ h

def F_X7_forget (N : Nat) (M : vC) (a0 : Nat) : Option vC := (F_X10_forget N M (a0)).bind fun M1 => (F_X6_clear N M1 (a0)).bind fun M2 => (F_X5_drop N M2 (a0)).bind fun M3 => (F_X4_follow N M3 (a0)).bind fun M4 => lt1 (uI M4 712 (a0) ((0 : Int32))) fun M5 => lt1 (uP M5 713 (a0) none) fun M6 => lt1 (uI M6 714 (a0) ((0 : Int32))) fun M7 => lt1 (uI M7 716 (a0) ((0 : Int32))) fun M8 => some M8

set_option maxRecDepth 100000 in
set_option maxHeartbeats 4000000 in
theorem p_X7_forget {N : Nat} {M : vC} {R : vC} {a0 : Nat} (ha0 : a0 < N) (h : F_X7_forget N M a0 = some R) {E : vE} {S0 : vS} {z x d0 : Nat} (hR : RC S0 z x N d0 M) : vi_Met E yX7_forget cX7_forget 1 none 2 0 0 [.ref (ad z x 7 (a0))] S0 (cz M) (D0 S0 z x N d0 R) := by
  refine vi_met (by decide) (Nat.le_of_ble_eq_true rfl) ?_
  intro X C
  have hF := cF.refl S0 z x N d0
  unfold F_X7_forget at h
  refine vi_aload_n C dX7_forget_0 rfl rfl ?_
  refine c_gets (f := 703) (k := 7) (i := a0) C dX7_forget_1 rfl fX7_46 rfl (by decide) rfl hR ha0 rfl ?_
  refine c_cv0 (kc := 10) (a := (ad z x 10 (a0))) C [] [] dX7_forget_4 rfl ivX7_152 imX10_forget rfl rfl (rcK hR ha0) hR hF h (fun _ e => p_X10_forget ha0 e hR) rfl (Nat.le_of_ble_eq_true rfl) ⟨by decide, by decide⟩ ⟨Nat.le_refl _, Nat.le_refl _⟩ (fun S M1 h hR hF => ?_)
  refine vi_aload_n C dX7_forget_7 rfl rfl ?_
  refine c_gets (f := 705) (k := 7) (i := a0) C dX7_forget_8 rfl fX7_12 rfl (by decide) rfl hR ha0 rfl ?_
  refine c_cv0 (kc := 6) (a := (ad z x 6 (a0))) C [] [] dX7_forget_11 rfl ivX7_153 imX6_clear rfl rfl (rcK hR ha0) hR hF h (fun _ e => p_X6_clear ha0 e hR) rfl (Nat.le_of_ble_eq_true rfl) ⟨by decide, by decide⟩ ⟨Nat.le_refl _, Nat.le_refl _⟩ (fun S M2 h hR hF => ?_)
  refine vi_aload_n C dX7_forget_14 rfl rfl ?_
  refine c_gets (f := 706) (k := 7) (i := a0) C dX7_forget_15 rfl fX7_21 rfl (by decide) rfl hR ha0 rfl ?_
  refine c_cv0 (kc := 5) (a := (ad z x 5 (a0))) C [] [] dX7_forget_18 rfl ivX7_156 imX5_drop rfl rfl (rcK hR ha0) hR hF h (fun _ e => p_X5_drop ha0 e hR) rfl (Nat.le_of_ble_eq_true rfl) ⟨by decide, by decide⟩ ⟨Nat.le_refl _, Nat.le_refl _⟩ (fun S M3 h hR hF => ?_)
  refine vi_aload_n C dX7_forget_21 rfl rfl ?_
  refine c_gets (f := 707) (k := 7) (i := a0) C dX7_forget_22 rfl fX7_28 rfl (by decide) rfl hR ha0 rfl ?_
  refine c_cv0 (kc := 4) (a := (ad z x 4 (a0))) C [] [] dX7_forget_25 rfl ivX7_159 imX4_follow rfl rfl (rcK hR ha0) hR hF h (fun _ e => p_X4_follow ha0 e hR) rfl (Nat.le_of_ble_eq_true rfl) ⟨by decide, by decide⟩ ⟨Nat.le_refl _, Nat.le_refl _⟩ (fun S M4 h hR hF => ?_)
  refine vi_aload_n C dX7_forget_28 rfl rfl ?_
  refine vi_iconst (v := 0) C dX7_forget_29 rfl (by decide) ?_
  refine c_puti (f := 712) (k := 7) (i := a0) C dX7_forget_30 rfl (fpX7_78 _) rfl (by decide) rfl hR hF ha0 h (fun S M5 h hR hF => ?_)
  refine vi_aload_n C dX7_forget_33 rfl rfl ?_
  refine vi_null C dX7_forget_34 rfl ?_
  refine c_putp (f := 713) (k := 7) (i := a0) (v := none) C dX7_forget_35 rfl (fpX7_81 _) rfl (by decide) rfl hR hF ha0 rfl h (fun S M6 h hR hF => ?_)
  refine vi_aload_n C dX7_forget_38 rfl rfl ?_
  refine vi_iconst (v := 0) C dX7_forget_39 rfl (by decide) ?_
  refine c_puti (f := 714) (k := 7) (i := a0) C dX7_forget_40 rfl (fpX7_85 _) rfl (by decide) rfl hR hF ha0 h (fun S M7 h hR hF => ?_)
  refine vi_aload_n C dX7_forget_43 rfl rfl ?_
  refine vi_iconst (v := 0) C dX7_forget_44 rfl (by decide) ?_
  refine c_puti (f := 716) (k := 7) (i := a0) C dX7_forget_45 rfl (fpX7_111 _) rfl (by decide) rfl hR hF ha0 h (fun S M8 h hR hF => ?_)
  exact c_ret0 C dX7_forget_48 rfl hR hF ⟨Nat.zero_le _, Nat.zero_le _⟩ h

def L_X10_isBelated_20 {ρ : Type} (N : Nat) (l0 : Nat) (l1 : Nat) (kx55 : vC → Option ρ) (kx63 : vC → Option ρ) : Nat → vC → Int32 → Option ρ
  | 0, _, _ => none
  | f + 1, M, l2 => if (cI M 1000 (l0)) ≤ l2 then (kx63 M ) else (gd (cK M (l1) = 9) <| if ((cI M 1007 (l0)) - l2) ≤ (cI M 802 (l1)) then (L_X10_isBelated_20 N l0 l1 kx55 kx63 f M ((l2 + (1)))) else ((cG M 1004 (l0) (l2)).bind fun v4 => gd (cK M (l1) = 9) <| if (v4 &&& (cI M 803 (l1))) = 0 then (L_X10_isBelated_20 N l0 l1 kx55 kx63 f M ((l2 + (1)))) else (kx55 M )))

def F_X10_isBelated (N : Nat) (M : vC) (a0 : Nat) (a1 : Option Nat) : Option (vC × Int32) := (a1).bind fun o1 => gd (cK M (o1) = 9) <| if ((cI M 1007 (a0)) - (cI M 1000 (a0))) ≤ (cI M 802 (o1)) then (L_X10_isBelated_20 N (a0) (o1) (fun (M9 : vC)  => zb ((1 : Int32)) (some (M9, (1 : Int32)))) (fun (M10 : vC)  => zb ((0 : Int32)) (some (M10, (0 : Int32)))) fu M ((0 : Int32))) else (zb ((1 : Int32)) (some (M, (1 : Int32))))

set_option maxRecDepth 100000 in
set_option maxHeartbeats 4000000 in
theorem w_X10_isBelated_20 {E : vE} {X : vX} {S0 : vS} {z x N d0 : Nat} {ρ : Type} {R : ρ} {Z : State → Prop} {l0 : Nat} {l1 : Nat} {kx55 : vC → Option ρ} {kx63 : vC → Option ρ} (hl0 : l0 < N) (C : vi_C E X yX10_isBelated cX10_isBelated 3 (some .boolean) 0 0 0 (45 * 0)) (hx55 : ∀ (M : vC) , kx55 M  = some R → ∀ S, RC S z x N d0 M → cF S0 S z x N d0 → vi_W E X 3 Z 55 [] [] S (cz M) 0 0) (hx63 : ∀ (M : vC) , kx63 M  = some R → ∀ S, RC S z x N d0 M → cF S0 S z x N d0 → vi_W E X 3 Z 63 [] [] S (cz M) 0 0) : ∀ (f : Nat) (M : vC) (l2 : Int32), L_X10_isBelated_20 N l0 l1 kx55 kx63 f M l2 = some R → ∀ S, RC S z x N d0 M → cF S0 S z x N d0 → vi_W E X 3 Z 20 [(0, .ref (ad z x 10 (l0))), (1, .ref (l1)), (2, .int (l2))] [] S (cz M) 0 0 := by
  intro f
  induction f with
  | zero => intro M l2 h; cases h
  | succ f ih =>
    intro M l2 h S hR hF
    rw [L_X10_isBelated_20] at h
    refine vi_iload_n C dX10_isBelated_20 rfl rfl ?_
    refine vi_aload_n C dX10_isBelated_21 rfl rfl ?_
    refine c_geti (f := 1000) (k := 10) (i := l0) C dX10_isBelated_22 rfl fX10_30 rfl (by decide) rfl hR hl0 ?_
    refine vi_icmp_ge (t' := 63) C dX10_isBelated_25 rfl (by decide) (fun c8 => ?_) (fun c8 => ?_)
    · replace h := iT c8 h
      exact (vi_cut [] trivial (hx63 _  h _ hR hF))
    · replace h := iN c8 h
      refine vi_aload_n C dX10_isBelated_28 rfl rfl ?_
      refine c_geti (f := 1007) (k := 10) (i := l0) C dX10_isBelated_29 rfl fX10_37 rfl (by decide) rfl hR hl0 ?_
      refine vi_iload_n C dX10_isBelated_32 rfl rfl ?_
      refine vi_isub C dX10_isBelated_33 rfl ?_
      refine vi_aload_n C dX10_isBelated_34 rfl rfl ?_
      obtain ⟨c3, h⟩ := gdo h
      refine c_getiD (f := 802) C dX10_isBelated_35 rfl fX10_92 rfl (by decide) rfl hR c3 ?_
      refine vi_icmp_le (t' := 57) C dX10_isBelated_38 rfl (by decide) (fun c7 => ?_) (fun c7 => ?_)
      · replace h := iT c7 h
        refine vi_iincv (v := 1) C dX10_isBelated_57 rfl rfl (by decide) (by decide) ?_
        refine vi_goto (t' := 20) C dX10_isBelated_60 (by decide) ?_
        exact vi_cut [(0, .ref (ad z x 10 (l0))), (1, .ref (l1)), (2, .int ((l2 + (1))))] ⟨rfl, rfl, rfl, trivial⟩ (ih _ _ h _ hR hF)
      · replace h := iN c7 h
        refine vi_aload_n C dX10_isBelated_41 rfl rfl ?_
        refine c_gets (f := 1004) (k := 10) (i := l0) C dX10_isBelated_42 rfl fX10_18 rfl (by decide) rfl hR hl0 rfl ?_
        refine vi_iload_n C dX10_isBelated_45 rfl rfl ?_
        refine c_iaload C dX10_isBelated_46 rfl rfl hR ⟨hl0, by decide⟩ h (fun v4 h => ?_)
        refine vi_aload_n C dX10_isBelated_47 rfl rfl ?_
        obtain ⟨c5, h⟩ := gdo h
        refine c_getiD (f := 803) C dX10_isBelated_48 rfl fX10_95 rfl (by decide) rfl hR c5 ?_
        refine vi_iand C dX10_isBelated_51 rfl ?_
        refine vi_if_eq (t' := 57) C dX10_isBelated_52 rfl (by decide) (fun c6 => ?_) (fun c6 => ?_)
        · replace h := iT c6 h
          refine vi_iincv (v := 1) C dX10_isBelated_57 rfl rfl (by decide) (by decide) ?_
          refine vi_goto (t' := 20) C dX10_isBelated_60 (by decide) ?_
          exact vi_cut [(0, .ref (ad z x 10 (l0))), (1, .ref (l1)), (2, .int ((l2 + (1))))] ⟨rfl, rfl, rfl, trivial⟩ (ih _ _ h _ hR hF)
        · replace h := iN c6 h
          exact (vi_cut [] trivial (hx55 _  h _ hR hF))

set_option maxRecDepth 100000 in
set_option maxHeartbeats 4000000 in
theorem p_X10_isBelated {N : Nat} {M : vC} {R : (vC × Int32)} {a0 : Nat} {a1 : Option Nat} (ha0 : a0 < N) (h : F_X10_isBelated N M a0 a1 = some R) {E : vE} {S0 : vS} {z x d0 : Nat} (hR : RC S0 z x N d0 M) : vi_Met E yX10_isBelated cX10_isBelated 3 (some .boolean) 0 0 0 [.ref (ad z x 10 (a0)), va_rf (a1)] S0 (cz M) (D1 S0 z x N d0 R) := by
  refine vi_met (by decide) (by cases a1 <;> exact Nat.le_of_ble_eq_true rfl) ?_
  intro X C
  rw [show lv_args 0 [.ref (ad z x 10 (a0)), va_rf (a1)] = [(0, .ref (ad z x 10 (a0))), (1, va_rf (a1))] from by cases a1 <;> rfl]
  have hF := cF.refl S0 z x N d0
  unfold F_X10_isBelated at h
  refine vi_aload_nq (o := (a1)) C dX10_isBelated_0 rfl rfl ?_
  obtain ⟨o1, rfl, hh⟩ := bdo h
  replace h := hh
  clear hh
  obtain ⟨c2, h⟩ := gdo h
  refine c_getiD (f := 802) C dX10_isBelated_1 rfl fX10_92 rfl (by decide) rfl hR c2 ?_
  refine vi_aload_n C dX10_isBelated_4 rfl rfl ?_
  refine c_geti (f := 1007) (k := 10) (i := a0) C dX10_isBelated_5 rfl fX10_37 rfl (by decide) rfl hR ha0 ?_
  refine vi_aload_n C dX10_isBelated_8 rfl rfl ?_
  refine c_geti (f := 1000) (k := 10) (i := a0) C dX10_isBelated_9 rfl fX10_30 rfl (by decide) rfl hR ha0 ?_
  refine vi_isub C dX10_isBelated_12 rfl ?_
  refine vi_icmp_ge (t' := 18) C dX10_isBelated_13 rfl (by decide) (fun c11 => ?_) (fun c11 => ?_)
  · replace h := iT c11 h
    refine vi_iconst (v := 0) C dX10_isBelated_18 rfl (by decide) ?_
    refine vi_istore_n C dX10_isBelated_19 rfl (by decide) ?_
    refine vi_cut [(0, .ref (ad z x 10 (a0))), (1, .ref (o1)), (2, .int ((0 : Int32)))] ⟨rfl, rfl, rfl, trivial⟩ (w_X10_isBelated_20 ha0 C ?_ ?_ _ _ _ h _ hR hF)
    · intro M9 h S hR hF
      refine vi_iconst (v := 1) C dX10_isBelated_55 rfl (by decide) ?_
      exact c_retz C dX10_isBelated_56 rfl hR hF ⟨Nat.zero_le _, Nat.zero_le _⟩ h
    · intro M10 h S hR hF
      refine vi_iconst (v := 0) C dX10_isBelated_63 rfl (by decide) ?_
      exact c_retz C dX10_isBelated_64 rfl hR hF ⟨Nat.zero_le _, Nat.zero_le _⟩ h
  · replace h := iN c11 h
    refine vi_iconst (v := 1) C dX10_isBelated_16 rfl (by decide) ?_
    exact c_retz C dX10_isBelated_17 rfl hR hF ⟨Nat.zero_le _, Nat.zero_le _⟩ h

def L_X10_writeValues_11 {ρ : Type} (N : Nat) (l0 : Nat) (l1 : (Option Nat)) (l2 : Int32) (l3 : Int32) (kx49 : vC → Option ρ) : Nat → vC → Int32 → Option ρ
  | 0, _, _ => none
  | f + 1, M, l4 => if (16 : Int32) ≤ l4 then (kx49 M ) else (b2 (F_X11_isIn N M (l4) (l2)) fun M3 v4 => if v4 = 0 then (L_X10_writeValues_11 N l0 l1 l2 l3 kx49 f M3 ((l4 + (1)))) else ((l1).bind fun o5 => gd (cK M3 (o5) = 9) <| lt1 (cP M3 805 (o5)) fun v7 => (v7).bind fun o8 => (dG M3 21 (o8) (l4)).bind fun v9 => (cS M3 1005 (l0) ((l3 + l4)) (v9)).bind fun M10 => L_X10_writeValues_11 N l0 l1 l2 l3 kx49 f M10 ((l4 + (1)))))

def F_X10_writeValues (N : Nat) (M : vC) (a0 : Nat) (a1 : Option Nat) (a2 : Int32) : Option vC := b2 (F_X10_rowOf N M ((cI M 1007 (a0)))) fun M1 v2 => L_X10_writeValues_11 N (a0) ((a1)) (a2) (v2) (fun (M13 : vC)  => some M13) fu M1 ((0 : Int32))

set_option maxRecDepth 100000 in
set_option maxHeartbeats 4000000 in
theorem w_X10_writeValues_11 {E : vE} {X : vX} {S0 : vS} {z x N d0 : Nat} {ρ : Type} {R : ρ} {Z : State → Prop} {l0 : Nat} {l1 : (Option Nat)} {l2 : Int32} {l3 : Int32} {kx49 : vC → Option ρ} (hl0 : l0 < N) (C : vi_C E X yX10_writeValues cX10_writeValues 5 none 2 0 0 (45 * 2)) (hx49 : ∀ (M : vC) , kx49 M  = some R → ∀ S, RC S z x N d0 M → cF S0 S z x N d0 → vi_W E X 5 Z 49 [] [] S (cz M) 0 0) : ∀ (f : Nat) (M : vC) (l4 : Int32), L_X10_writeValues_11 N l0 l1 l2 l3 kx49 f M l4 = some R → ∀ S, RC S z x N d0 M → cF S0 S z x N d0 → vi_W E X 5 Z 11 [(0, .ref (ad z x 10 (l0))), (1, va_rf (l1)), (2, .int (l2)), (3, .int (l3)), (4, .int (l4))] [] S (cz M) 0 0 := by
  intro f
  induction f with
  | zero => intro M l4 h; cases h
  | succ f ih =>
    intro M l4 h S hR hF
    rw [L_X10_writeValues_11] at h
    refine vi_iload C dX10_writeValues_11 rfl rfl ?_
    refine vi_bipush (v := 16) C dX10_writeValues_13 rfl (by decide) ?_
    refine vi_icmp_ge (t' := 49) C dX10_writeValues_15 rfl (by decide) (fun c12 => ?_) (fun c12 => ?_)
    · replace h := iT c12 h
      exact (vi_cut [] trivial (hx49 _  h _ hR hF))
    · replace h := iN c12 h
      refine vi_iload C dX10_writeValues_18 rfl rfl ?_
      refine vi_iload_n C dX10_writeValues_20 rfl rfl ?_
      refine c_cs1 C [.int (l4), .int (l2)] [] dX10_writeValues_21 rfl ivX10_98 isX11_isIn hR hF h (fun _ e => p_X11_isIn  e hR) rfl (Nat.le_of_ble_eq_true rfl) ⟨by decide, by decide⟩ ⟨Nat.le_refl _, Nat.le_refl _⟩ (fun S M3 v4 h hR hF => ?_)
      refine vi_if_eq (t' := 43) C dX10_writeValues_24 rfl (by decide) (fun c11 => ?_) (fun c11 => ?_)
      · replace h := iT c11 h
        refine vi_iincv (v := 1) C dX10_writeValues_43 rfl rfl (by decide) (by decide) ?_
        refine vi_goto (t' := 11) C dX10_writeValues_46 (by decide) ?_
        exact vi_cut [(0, .ref (ad z x 10 (l0))), (1, va_rf (l1)), (2, .int (l2)), (3, .int (l3)), (4, .int ((l4 + (1))))] ⟨rfl, rfl, rfl, rfl, rfl, trivial⟩ (ih _ _ h _ hR hF)
      · replace h := iN c11 h
        refine vi_aload_n C dX10_writeValues_27 rfl rfl ?_
        refine c_gets (f := 1005) (k := 10) (i := l0) C dX10_writeValues_28 rfl fX10_21 rfl (by decide) rfl hR hl0 rfl ?_
        refine vi_iload_n C dX10_writeValues_31 rfl rfl ?_
        refine vi_iload C dX10_writeValues_32 rfl rfl ?_
        refine vi_iadd C dX10_writeValues_34 rfl ?_
        refine vi_aload_nq (o := (l1)) C dX10_writeValues_35 rfl rfl ?_
        obtain ⟨o5, rfl, hh⟩ := bdo h
        replace h := hh
        clear hh
        obtain ⟨c6, h⟩ := gdo h
        refine c_getpDL C dX10_writeValues_36 rfl fX10_102 hR c6 h (fun v7 h => ?_)
        refine vi_iload C dX10_writeValues_39 rfl rfl ?_
        obtain ⟨o8, rfl, hh⟩ := bdo h
        replace h := hh
        clear hh
        refine c_ialoadD C dX10_writeValues_41 rfl hR h (fun v9 h => ?_)
        refine c_iastore C dX10_writeValues_42 rfl rfl hR hF ⟨hl0, by decide⟩ h (fun S M10 h hR hF => ?_)
        refine vi_iincv (v := 1) C dX10_writeValues_43 rfl rfl (by decide) (by decide) ?_
        refine vi_goto (t' := 11) C dX10_writeValues_46 (by decide) ?_
        exact vi_cut [(0, .ref (ad z x 10 (l0))), (1, .ref (o5)), (2, .int (l2)), (3, .int (l3)), (4, .int ((l4 + (1))))] ⟨rfl, rfl, rfl, rfl, rfl, trivial⟩ (ih _ _ h _ hR hF)

set_option maxRecDepth 100000 in
set_option maxHeartbeats 4000000 in
theorem p_X10_writeValues {N : Nat} {M : vC} {R : vC} {a0 : Nat} {a1 : Option Nat} {a2 : Int32} (ha0 : a0 < N) (h : F_X10_writeValues N M a0 a1 a2 = some R) {E : vE} {S0 : vS} {z x d0 : Nat} (hR : RC S0 z x N d0 M) : vi_Met E yX10_writeValues cX10_writeValues 5 none 2 0 0 [.ref (ad z x 10 (a0)), va_rf (a1), .int (a2)] S0 (cz M) (D0 S0 z x N d0 R) := by
  refine vi_met (by decide) (by cases a1 <;> exact Nat.le_of_ble_eq_true rfl) ?_
  intro X C
  rw [show lv_args 0 [.ref (ad z x 10 (a0)), va_rf (a1), .int (a2)] = [(0, .ref (ad z x 10 (a0))), (1, va_rf (a1)), (2, .int (a2))] from by cases a1 <;> rfl]
  have hF := cF.refl S0 z x N d0
  unfold F_X10_writeValues at h
  refine vi_aload_n C dX10_writeValues_0 rfl rfl ?_
  refine c_geti (f := 1007) (k := 10) (i := a0) C dX10_writeValues_1 rfl fX10_37 rfl (by decide) rfl hR ha0 ?_
  refine c_cs1 C [.int ((cI M 1007 (a0)))] [] dX10_writeValues_4 rfl ivX10_52 isX10_rowOf hR hF h (fun _ e => p_X10_rowOf  e hR) rfl (Nat.le_of_ble_eq_true rfl) ⟨by decide, by decide⟩ ⟨Nat.le_refl _, Nat.le_refl _⟩ (fun S M1 v2 h hR hF => ?_)
  refine vi_istore_n C dX10_writeValues_7 rfl (by decide) ?_
  refine vi_iconst (v := 0) C dX10_writeValues_8 rfl (by decide) ?_
  refine vi_istore C dX10_writeValues_9 rfl (by decide) ?_
  refine vi_cut [(0, .ref (ad z x 10 (a0))), (1, va_rf (a1)), (2, .int (a2)), (3, .int (v2)), (4, .int ((0 : Int32)))] ⟨rfl, rfl, rfl, rfl, rfl, trivial⟩ (w_X10_writeValues_11 ha0 C ?_ _ _ _ h _ hR hF)
  · intro M13 h S hR hF
    exact c_ret0 C dX10_writeValues_49 rfl hR hF ⟨Nat.zero_le _, Nat.zero_le _⟩ h

def L_X10_learn_112 {ρ : Type} (N : Nat) (l0 : Nat) (l1 : (Option Nat)) (l2 : Int32) (kx136 : vC → Option ρ) : Nat → vC → Int32 → Option ρ
  | 0, _, _ => none
  | f + 1, M, l3 => if l3 ≤ 0 then (kx136 M ) else ((cG M 1004 (l0) ((l3 - (1 : Int32)))).bind fun v27 => (cS M 1004 (l0) (l3) (v27)).bind fun M28 => L_X10_learn_112 N l0 l1 l2 kx136 f M28 ((l3 + (-1))))

def F_X10_learn (N : Nat) (M : vC) (a0 : Nat) (a1 : Option Nat) : Option vC := b2 (F_X10_rowOf N M ((cI M 1007 (a0)))) fun M1 v2 => b2 (F_X10_rowOf N M1 (((cI M1 1007 (a0)) + (1 : Int32)))) fun M3 v4 => (cpH M3 (a0) (v2) (v4) ((16 : Int32))).bind fun M5 => b2 (F_X10_isNew N M5 (a0) (a1)) fun M6 v7 => jn (fun (M24 : vC) (l2_89 : Int32) => lt1 (uI M24 1007 (a0) (((cI M24 1007 (a0)) + (1 : Int32)))) fun M25 => (F_X10_writeValues N M25 (a0) (a1) (l2_89)).bind fun M26 => L_X10_learn_112 N (a0) ((a1)) (l2_89) (fun (M30 : vC)  => (cS M30 1004 (a0) ((0 : Int32)) (l2_89)).bind fun M31 => lt1 (uI M31 1008 (a0) ((mxI ((cI M31 1008 (a0))) (((cI M31 1007 (a0)) - (cI M31 1000 (a0))))))) fun M32 => (cSQ M32 1006 (a0) ((fmI ((cI M32 1007 (a0))) ((32 : Int32)))) (a1)).bind fun M33 => lt1 (uI M33 1009 (a0) ((mnI (((cI M33 1009 (a0)) + (1 : Int32))) ((cI M33 1001 (a0)))))) fun M34 => some M34) fu M26 (((cI M26 1000 (a0)) - (1 : Int32)))) (fun k89_8 => if v7 = 0 then ((k89_8 (M6) ((0 : Int32)))) else (b2 (F_X10_isBelated N M6 (a0) (a1)) fun M9 v10 => jn (fun (s0_57 : Int32) => (a1).bind fun o15 => gd (cK M9 (o15) = 9) <| gd (cK M9 (o15) = 9) <| (cS M9 1002 (a0) ((cI M9 800 (o15))) ((cI M9 801 (o15)))).bind fun M18 => gd (cK M18 (o15) = 9) <| if v10 = 0 then ((cS M18 1003 (a0) ((cI M18 800 (o15))) ((1 : Int32))).bind fun M20 => (k89_8 (M20) (s0_57))) else ((cS M18 1003 (a0) ((cI M18 800 (o15))) ((2 : Int32))).bind fun M21 => (k89_8 (M21) (s0_57)))) (fun k57_11 => if v10 = 0 then ((a1).bind fun o12 => gd (cK M9 (o12) = 9) <| (k57_11 ((cI M9 804 (o12))))) else ((k57_11 ((0 : Int32)))))))

set_option maxRecDepth 100000 in
set_option maxHeartbeats 4000000 in
theorem w_X10_learn_112 {E : vE} {X : vX} {S0 : vS} {z x N d0 : Nat} {ρ : Type} {R : ρ} {Z : State → Prop} {l0 : Nat} {l1 : (Option Nat)} {l2 : Int32} {kx136 : vC → Option ρ} (hl0 : l0 < N) (C : vi_C E X yX10_learn cX10_learn 4 none 3 0 0 (45 * 3)) (hx136 : ∀ (M : vC) , kx136 M  = some R → ∀ S, RC S z x N d0 M → cF S0 S z x N d0 → vi_W E X 4 Z 136 [(0, .ref (ad z x 10 (l0))), (1, va_rf (l1)), (2, .int (l2))] [] S (cz M) 0 0) : ∀ (f : Nat) (M : vC) (l3 : Int32), L_X10_learn_112 N l0 l1 l2 kx136 f M l3 = some R → ∀ S, RC S z x N d0 M → cF S0 S z x N d0 → vi_W E X 4 Z 112 [(0, .ref (ad z x 10 (l0))), (1, va_rf (l1)), (2, .int (l2)), (3, .int (l3))] [] S (cz M) 0 0 := by
  intro f
  induction f with
  | zero => intro M l3 h; cases h
  | succ f ih =>
    intro M l3 h S hR hF
    rw [L_X10_learn_112] at h
    refine vi_iload_n C dX10_learn_112 rfl rfl ?_
    refine vi_if_le (t' := 136) C dX10_learn_113 rfl (by decide) (fun c29 => ?_) (fun c29 => ?_)
    · replace h := iT c29 h
      exact (vi_cut [(0, .ref (ad z x 10 (l0))), (1, va_rf (l1)), (2, .int (l2))] ⟨rfl, rfl, rfl, trivial⟩ (hx136 _  h _ hR hF))
    · replace h := iN c29 h
      refine vi_aload_n C dX10_learn_116 rfl rfl ?_
      refine c_gets (f := 1004) (k := 10) (i := l0) C dX10_learn_117 rfl fX10_18 rfl (by decide) rfl hR hl0 rfl ?_
      refine vi_iload_n C dX10_learn_120 rfl rfl ?_
      refine vi_aload_n C dX10_learn_121 rfl rfl ?_
      refine c_gets (f := 1004) (k := 10) (i := l0) C dX10_learn_122 rfl fX10_18 rfl (by decide) rfl hR hl0 rfl ?_
      refine vi_iload_n C dX10_learn_125 rfl rfl ?_
      refine vi_iconst (v := 1) C dX10_learn_126 rfl (by decide) ?_
      refine vi_isub C dX10_learn_127 rfl ?_
      refine c_iaload C dX10_learn_128 rfl rfl hR ⟨hl0, by decide⟩ h (fun v27 h => ?_)
      refine c_iastore C dX10_learn_129 rfl rfl hR hF ⟨hl0, by decide⟩ h (fun S M28 h hR hF => ?_)
      refine vi_iincv (v := -1) C dX10_learn_130 rfl rfl (by decide) (by decide) ?_
      refine vi_goto (t' := 112) C dX10_learn_133 (by decide) ?_
      exact vi_cut [(0, .ref (ad z x 10 (l0))), (1, va_rf (l1)), (2, .int (l2)), (3, .int ((l3 + (-1))))] ⟨rfl, rfl, rfl, rfl, trivial⟩ (ih _ _ h _ hR hF)

set_option maxRecDepth 100000 in
set_option maxHeartbeats 4000000 in
theorem p_X10_learn {N : Nat} {M : vC} {R : vC} {a0 : Nat} {a1 : Option Nat} (ha0 : a0 < N) (h : F_X10_learn N M a0 a1 = some R) {E : vE} {S0 : vS} {z x d0 : Nat} (hR : RC S0 z x N d0 M) : vi_Met E yX10_learn cX10_learn 4 none 3 0 0 [.ref (ad z x 10 (a0)), va_rf (a1)] S0 (cz M) (D0 S0 z x N d0 R) := by
  refine vi_met (by decide) (by cases a1 <;> exact Nat.le_of_ble_eq_true rfl) ?_
  intro X C
  rw [show lv_args 0 [.ref (ad z x 10 (a0)), va_rf (a1)] = [(0, .ref (ad z x 10 (a0))), (1, va_rf (a1))] from by cases a1 <;> rfl]
  have hF := cF.refl S0 z x N d0
  unfold F_X10_learn at h
  refine vi_iconst (v := 0) C dX10_learn_0 rfl (by decide) ?_
  refine vi_istore_n C dX10_learn_1 rfl (by decide) ?_
  refine vi_cut [(0, .ref (ad z x 10 (a0))), (1, va_rf (a1)), (2, .int ((0 : Int32)))] (by cases a1 <;> exact ⟨rfl, rfl, rfl, trivial⟩) ?_
  refine vi_aload_n C dX10_learn_2 rfl rfl ?_
  refine c_gets (f := 1005) (k := 10) (i := a0) C dX10_learn_3 rfl fX10_21 rfl (by decide) rfl hR ha0 rfl ?_
  refine vi_aload_n C dX10_learn_6 rfl rfl ?_
  refine c_geti (f := 1007) (k := 10) (i := a0) C dX10_learn_7 rfl fX10_37 rfl (by decide) rfl hR ha0 ?_
  refine c_cs1 C [.int ((cI M 1007 (a0)))] [.ref (aa z x 1005 (a0))] dX10_learn_10 rfl ivX10_52 isX10_rowOf hR hF h (fun _ e => p_X10_rowOf  e hR) rfl (Nat.le_of_ble_eq_true rfl) ⟨by decide, by decide⟩ ⟨Nat.le_refl _, Nat.le_refl _⟩ (fun S M1 v2 h hR hF => ?_)
  refine vi_aload_n C dX10_learn_13 rfl rfl ?_
  refine c_gets (f := 1005) (k := 10) (i := a0) C dX10_learn_14 rfl fX10_21 rfl (by decide) rfl hR ha0 rfl ?_
  refine vi_aload_n C dX10_learn_17 rfl rfl ?_
  refine c_geti (f := 1007) (k := 10) (i := a0) C dX10_learn_18 rfl fX10_37 rfl (by decide) rfl hR ha0 ?_
  refine vi_iconst (v := 1) C dX10_learn_21 rfl (by decide) ?_
  refine vi_iadd C dX10_learn_22 rfl ?_
  refine c_cs1 C [.int (((cI M1 1007 (a0)) + (1 : Int32)))] [.ref (aa z x 1005 (a0)), .int (v2), .ref (aa z x 1005 (a0))] dX10_learn_23 rfl ivX10_52 isX10_rowOf hR hF h (fun _ e => p_X10_rowOf  e hR) rfl (Nat.le_of_ble_eq_true rfl) ⟨by decide, by decide⟩ ⟨Nat.le_refl _, Nat.le_refl _⟩ (fun S M3 v4 h hR hF => ?_)
  refine vi_bipush (v := 16) C dX10_learn_26 rfl (by decide) ?_
  refine c_copyH C dX10_learn_28 rfl acX10_66 ha0 (by decide) (Nat.le_of_ble_eq_true rfl) hR hF h (fun S M5 h hR hF => ?_)
  refine vi_aload_n C dX10_learn_31 rfl rfl ?_
  refine vi_aload_nq (o := (a1)) C dX10_learn_32 rfl rfl ?_
  refine c_cv1 (kc := 10) (a := (ad z x 10 (a0))) C [va_rf (a1)] [] dX10_learn_33 rfl ivX10_72 imX10_isNew rfl rfl (rcK hR ha0) hR hF h (fun _ e => p_X10_isNew ha0 e hR) rfl (Nat.le_of_ble_eq_true rfl) ⟨by decide, by decide⟩ ⟨Nat.le_refl _, Nat.le_refl _⟩ (fun S M6 v7 h hR hF => ?_)
  refine r_jn h (fun k => ∀ (M24 : vC) (l2_89 : Int32), k M24 l2_89 = some R → ∀ S, RC S z x N d0 M24 → cF S0 S z x N d0 → vi_W E X 4 (vi_Z E X (D0 S0 z x N d0 R) 0 0) 89 [(0, .ref (ad z x 10 (a0))), (1, va_rf (a1)), (2, .int (l2_89))] [] S (cz M24) 0 0) ?_ ?_
  · intro M24 l2_89 h S hR hF
    refine vi_aload_n C dX10_learn_89 rfl rfl ?_
    refine vi_dup C dX10_learn_90 rfl rfl ?_
    refine c_geti (f := 1007) (k := 10) (i := a0) C dX10_learn_91 rfl fX10_37 rfl (by decide) rfl hR ha0 ?_
    refine vi_iconst (v := 1) C dX10_learn_94 rfl (by decide) ?_
    refine vi_iadd C dX10_learn_95 rfl ?_
    refine c_puti (f := 1007) (k := 10) (i := a0) C dX10_learn_96 rfl (fpX10_37 _) rfl (by decide) rfl hR hF ha0 h (fun S M25 h hR hF => ?_)
    refine vi_aload_n C dX10_learn_99 rfl rfl ?_
    refine vi_aload_nq (o := (a1)) C dX10_learn_100 rfl rfl ?_
    refine vi_iload_n C dX10_learn_101 rfl rfl ?_
    refine c_cv0 (kc := 10) (a := (ad z x 10 (a0))) C [va_rf (a1), .int (l2_89)] [] dX10_learn_102 rfl ivX10_82 imX10_writeValues rfl rfl (rcK hR ha0) hR hF h (fun _ e => p_X10_writeValues ha0 e hR) rfl (Nat.le_of_ble_eq_true rfl) ⟨by decide, by decide⟩ ⟨Nat.le_refl _, Nat.le_refl _⟩ (fun S M26 h hR hF => ?_)
    refine vi_aload_n C dX10_learn_105 rfl rfl ?_
    refine c_geti (f := 1000) (k := 10) (i := a0) C dX10_learn_106 rfl fX10_30 rfl (by decide) rfl hR ha0 ?_
    refine vi_iconst (v := 1) C dX10_learn_109 rfl (by decide) ?_
    refine vi_isub C dX10_learn_110 rfl ?_
    refine vi_istore_n C dX10_learn_111 rfl (by decide) ?_
    refine vi_cut [(0, .ref (ad z x 10 (a0))), (1, va_rf (a1)), (2, .int (l2_89)), (3, .int (((cI M26 1000 (a0)) - (1 : Int32))))] ⟨rfl, rfl, rfl, rfl, trivial⟩ (w_X10_learn_112 ha0 C ?_ _ _ _ h _ hR hF)
    · intro M30 h S hR hF
      refine vi_aload_n C dX10_learn_136 rfl rfl ?_
      refine c_gets (f := 1004) (k := 10) (i := a0) C dX10_learn_137 rfl fX10_18 rfl (by decide) rfl hR ha0 rfl ?_
      refine vi_iconst (v := 0) C dX10_learn_140 rfl (by decide) ?_
      refine vi_iload_n C dX10_learn_141 rfl rfl ?_
      refine c_iastore C dX10_learn_142 rfl rfl hR hF ⟨ha0, by decide⟩ h (fun S M31 h hR hF => ?_)
      refine vi_aload_n C dX10_learn_143 rfl rfl ?_
      refine vi_aload_n C dX10_learn_144 rfl rfl ?_
      refine c_geti (f := 1008) (k := 10) (i := a0) C dX10_learn_145 rfl fX10_40 rfl (by decide) rfl hR ha0 ?_
      refine vi_aload_n C dX10_learn_148 rfl rfl ?_
      refine c_geti (f := 1007) (k := 10) (i := a0) C dX10_learn_149 rfl fX10_37 rfl (by decide) rfl hR ha0 ?_
      refine vi_aload_n C dX10_learn_152 rfl rfl ?_
      refine c_geti (f := 1000) (k := 10) (i := a0) C dX10_learn_153 rfl fX10_30 rfl (by decide) rfl hR ha0 ?_
      refine vi_isub C dX10_learn_156 rfl ?_
      refine vi_mmax C dX10_learn_157 rfl ivX10_86 mlX10_86 (by decide) (Nat.le_of_ble_eq_true rfl) (Nat.zero_le _) (Nat.zero_le _) ?_
      refine c_puti (f := 1008) (k := 10) (i := a0) C dX10_learn_160 rfl (fpX10_40 _) rfl (by decide) rfl hR hF ha0 h (fun S M32 h hR hF => ?_)
      refine vi_aload_n C dX10_learn_163 rfl rfl ?_
      refine c_gets (f := 1006) (k := 10) (i := a0) C dX10_learn_164 rfl fX10_26 rfl (by decide) rfl hR ha0 rfl ?_
      refine vi_aload_n C dX10_learn_167 rfl rfl ?_
      refine c_geti (f := 1007) (k := 10) (i := a0) C dX10_learn_168 rfl fX10_37 rfl (by decide) rfl hR ha0 ?_
      refine vi_bipush (v := 32) C dX10_learn_171 rfl (by decide) ?_
      refine vi_fmod C dX10_learn_173 rfl mlX10_46 (by decide) (by decide) (Nat.le_of_ble_eq_true rfl) (Nat.zero_le _) (Nat.zero_le _) ?_
      refine vi_aload_nq (o := (a1)) C dX10_learn_176 rfl rfl ?_
      refine c_aastoreQ (v := (a1)) C dX10_learn_177 rfl rfl hR hF ⟨ha0, by decide⟩ h (fun S M33 h hR hF => ?_)
      refine vi_aload_n C dX10_learn_178 rfl rfl ?_
      refine vi_aload_n C dX10_learn_179 rfl rfl ?_
      refine c_geti (f := 1009) (k := 10) (i := a0) C dX10_learn_180 rfl fX10_43 rfl (by decide) rfl hR ha0 ?_
      refine vi_iconst (v := 1) C dX10_learn_183 rfl (by decide) ?_
      refine vi_iadd C dX10_learn_184 rfl ?_
      refine vi_aload_n C dX10_learn_185 rfl rfl ?_
      refine c_geti (f := 1001) (k := 10) (i := a0) C dX10_learn_186 rfl fX10_34 rfl (by decide) rfl hR ha0 ?_
      refine vi_mmin C dX10_learn_189 rfl ivX10_89 mlX10_89 (by decide) (Nat.le_of_ble_eq_true rfl) (Nat.zero_le _) (Nat.zero_le _) ?_
      refine c_puti (f := 1009) (k := 10) (i := a0) C dX10_learn_192 rfl (fpX10_43 _) rfl (by decide) rfl hR hF ha0 h (fun S M34 h hR hF => ?_)
      exact c_ret0 C dX10_learn_195 rfl hR hF ⟨Nat.zero_le _, Nat.zero_le _⟩ h
  · intro k89_8 h89_8 h
    refine vi_if_eq (t' := 89) C dX10_learn_36 rfl (by decide) (fun c23 => ?_) (fun c23 => ?_)
    · replace h := iT c23 h
      exact (vi_cut [(0, .ref (ad z x 10 (a0))), (1, va_rf (a1)), (2, .int ((0 : Int32)))] ⟨rfl, rfl, rfl, trivial⟩ (h89_8 _ _ h _ hR hF))
    · replace h := iN c23 h
      refine vi_aload_n C dX10_learn_39 rfl rfl ?_
      refine vi_aload_nq (o := (a1)) C dX10_learn_40 rfl rfl ?_
      refine c_cv1 (kc := 10) (a := (ad z x 10 (a0))) C [va_rf (a1)] [] dX10_learn_41 rfl ivX10_76 imX10_isBelated rfl rfl (rcK hR ha0) hR hF h (fun _ e => p_X10_isBelated ha0 e hR) rfl (Nat.le_of_ble_eq_true rfl) ⟨by decide, by decide⟩ ⟨Nat.le_refl _, Nat.le_refl _⟩ (fun S M9 v10 h hR hF => ?_)
      refine vi_istore_n C dX10_learn_44 rfl (by decide) ?_
      refine vi_iload_n C dX10_learn_45 rfl rfl ?_
      refine r_jn h (fun k => ∀ (s0_57 : Int32), k s0_57 = some R → ∀ S, RC S z x N d0 M9 → cF S0 S z x N d0 → vi_W E X 4 (vi_Z E X (D0 S0 z x N d0 R) 0 0) 57 [(0, .ref (ad z x 10 (a0))), (1, va_rf (a1)), (3, .int (v10))] [.int (s0_57)] S (cz M9) 0 0) ?_ ?_
      · intro s0_57 h S hR hF
        refine vi_istore_n C dX10_learn_57 rfl (by decide) ?_
        refine vi_cut [(0, .ref (ad z x 10 (a0))), (1, va_rf (a1)), (2, .int (s0_57)), (3, .int (v10))] (by cases a1 <;> exact ⟨rfl, rfl, rfl, rfl, trivial⟩) ?_
        refine vi_aload_n C dX10_learn_58 rfl rfl ?_
        refine c_gets (f := 1002) (k := 10) (i := a0) C dX10_learn_59 rfl fX10_9 rfl (by decide) rfl hR ha0 rfl ?_
        refine vi_aload_nq (o := (a1)) C dX10_learn_62 rfl rfl ?_
        obtain ⟨o15, rfl, hh⟩ := bdo h
        replace h := hh
        clear hh
        obtain ⟨c16, h⟩ := gdo h
        refine c_getiD (f := 800) C dX10_learn_63 rfl fX10_63 rfl (by decide) rfl hR c16 ?_
        refine vi_aload_n C dX10_learn_66 rfl rfl ?_
        obtain ⟨c17, h⟩ := gdo h
        refine c_getiD (f := 801) C dX10_learn_67 rfl fX10_60 rfl (by decide) rfl hR c17 ?_
        refine c_iastore C dX10_learn_70 rfl rfl hR hF ⟨ha0, by decide⟩ h (fun S M18 h hR hF => ?_)
        refine vi_aload_n C dX10_learn_71 rfl rfl ?_
        refine c_gets (f := 1003) (k := 10) (i := a0) C dX10_learn_72 rfl fX10_15 rfl (by decide) rfl hR ha0 rfl ?_
        refine vi_aload_n C dX10_learn_75 rfl rfl ?_
        obtain ⟨c19, h⟩ := gdo h
        refine c_getiD (f := 800) C dX10_learn_76 rfl fX10_63 rfl (by decide) rfl hR c19 ?_
        refine vi_iload_n C dX10_learn_79 rfl rfl ?_
        refine vi_if_eq (t' := 87) C dX10_learn_80 rfl (by decide) (fun c22 => ?_) (fun c22 => ?_)
        · replace h := iT c22 h
          refine vi_iconst (v := 1) C dX10_learn_87 rfl (by decide) ?_
          refine c_iastore C dX10_learn_88 rfl rfl hR hF ⟨ha0, by decide⟩ h (fun S M20 h hR hF => ?_)
          exact (vi_cut [(0, .ref (ad z x 10 (a0))), (1, .ref (o15)), (2, .int (s0_57))] ⟨rfl, rfl, rfl, trivial⟩ (h89_8 _ _ h _ hR hF))
        · replace h := iN c22 h
          refine vi_iconst (v := 2) C dX10_learn_83 rfl (by decide) ?_
          refine vi_goto (t' := 88) C dX10_learn_84 (by decide) ?_
          refine c_iastore C dX10_learn_88 rfl rfl hR hF ⟨ha0, by decide⟩ h (fun S M21 h hR hF => ?_)
          exact (vi_cut [(0, .ref (ad z x 10 (a0))), (1, .ref (o15)), (2, .int (s0_57))] ⟨rfl, rfl, rfl, trivial⟩ (h89_8 _ _ h _ hR hF))
      · intro k57_11 h57_11 h
        refine vi_if_eq (t' := 53) C dX10_learn_46 rfl (by decide) (fun c14 => ?_) (fun c14 => ?_)
        · replace h := iT c14 h
          refine vi_aload_nq (o := (a1)) C dX10_learn_53 rfl rfl ?_
          obtain ⟨o12, rfl, hh⟩ := bdo h
          replace h := hh
          clear hh
          obtain ⟨c13, h⟩ := gdo h
          refine c_getiD (f := 804) C dX10_learn_54 rfl fX10_79 rfl (by decide) rfl hR c13 ?_
          exact (vi_cut [(0, .ref (ad z x 10 (a0))), (1, .ref (o12)), (3, .int (v10))] ⟨rfl, rfl, rfl, trivial⟩ (h57_11 _ h _ hR hF))
        · replace h := iN c14 h
          refine vi_iconst (v := 0) C dX10_learn_49 rfl (by decide) ?_
          refine vi_goto (t' := 57) C dX10_learn_50 (by decide) ?_
          exact (vi_cut [(0, .ref (ad z x 10 (a0))), (1, va_rf (a1)), (3, .int (v10))] ⟨rfl, rfl, rfl, trivial⟩ (h57_11 _ h _ hR hF))

def L_X10_takeValuesFrom_10 {ρ : Type} (N : Nat) (l0 : Nat) (l1 : Nat) (l2 : Int32) (kx34 : vC → Option ρ) : Nat → vC → Int32 → Option ρ
  | 0, _, _ => none
  | f + 1, M, l3 => if (16 : Int32) ≤ l3 then (kx34 M ) else (b2 (F_X0_takeFour N M (l1)) fun M3 v4 => (cS M3 1005 (l0) ((l2 + l3)) (v4)).bind fun M5 => L_X10_takeValuesFrom_10 N l0 l1 l2 kx34 f M5 ((l3 + (1))))

def F_X10_takeValuesFrom (N : Nat) (M : vC) (a0 : Nat) (a1 : Nat) : Option vC := b2 (F_X10_rowOf N M ((cI M 1008 (a0)))) fun M1 v2 => L_X10_takeValuesFrom_10 N (a0) (a1) (v2) (fun (M7 : vC)  => some M7) fu M1 ((0 : Int32))

set_option maxRecDepth 100000 in
set_option maxHeartbeats 4000000 in
theorem w_X10_takeValuesFrom_10 {E : vE} {X : vX} {S0 : vS} {z x N d0 : Nat} {ρ : Type} {R : ρ} {Z : State → Prop} {l0 : Nat} {l1 : Nat} {l2 : Int32} {kx34 : vC → Option ρ} (hl0 : l0 < N) (hl1 : l1 < 3) (C : vi_C E X yX10_takeValuesFrom cX10_takeValuesFrom 4 none 3 0 0 (45 * 3)) (hx34 : ∀ (M : vC) , kx34 M  = some R → ∀ S, RC S z x N d0 M → cF S0 S z x N d0 → vi_W E X 4 Z 34 [] [] S (cz M) 0 0) : ∀ (f : Nat) (M : vC) (l3 : Int32), L_X10_takeValuesFrom_10 N l0 l1 l2 kx34 f M l3 = some R → ∀ S, RC S z x N d0 M → cF S0 S z x N d0 → vi_W E X 4 Z 10 [(0, .ref (ad z x 10 (l0))), (1, .ref (ad z x 0 (l1))), (2, .int (l2)), (3, .int (l3))] [] S (cz M) 0 0 := by
  intro f
  induction f with
  | zero => intro M l3 h; cases h
  | succ f ih =>
    intro M l3 h S hR hF
    rw [L_X10_takeValuesFrom_10] at h
    refine vi_iload_n C dX10_takeValuesFrom_10 rfl rfl ?_
    refine vi_bipush (v := 16) C dX10_takeValuesFrom_11 rfl (by decide) ?_
    refine vi_icmp_ge (t' := 34) C dX10_takeValuesFrom_13 rfl (by decide) (fun c6 => ?_) (fun c6 => ?_)
    · replace h := iT c6 h
      exact (vi_cut [] trivial (hx34 _  h _ hR hF))
    · replace h := iN c6 h
      refine vi_aload_n C dX10_takeValuesFrom_16 rfl rfl ?_
      refine c_gets (f := 1005) (k := 10) (i := l0) C dX10_takeValuesFrom_17 rfl fX10_21 rfl (by decide) rfl hR hl0 rfl ?_
      refine vi_iload_n C dX10_takeValuesFrom_20 rfl rfl ?_
      refine vi_iload_n C dX10_takeValuesFrom_21 rfl rfl ?_
      refine vi_iadd C dX10_takeValuesFrom_22 rfl ?_
      refine vi_aload_n C dX10_takeValuesFrom_23 rfl rfl ?_
      refine c_cv1 (kc := 0) (a := (ad z x 0 (l1))) C [] [.int ((l2 + l3)), .ref (aa z x 1005 (l0))] dX10_takeValuesFrom_24 rfl ivX10_133 imX0_takeFour rfl rfl (rcK hR hl1) hR hF h (fun _ e => p_X0_takeFour hl1 e hR) rfl (Nat.le_of_ble_eq_true rfl) ⟨by decide, by decide⟩ ⟨Nat.le_refl _, Nat.le_refl _⟩ (fun S M3 v4 h hR hF => ?_)
      refine c_iastore C dX10_takeValuesFrom_27 rfl rfl hR hF ⟨hl0, by decide⟩ h (fun S M5 h hR hF => ?_)
      refine vi_iincv (v := 1) C dX10_takeValuesFrom_28 rfl rfl (by decide) (by decide) ?_
      refine vi_goto (t' := 10) C dX10_takeValuesFrom_31 (by decide) ?_
      exact vi_cut [(0, .ref (ad z x 10 (l0))), (1, .ref (ad z x 0 (l1))), (2, .int (l2)), (3, .int ((l3 + (1))))] ⟨rfl, rfl, rfl, rfl, trivial⟩ (ih _ _ h _ hR hF)

set_option maxRecDepth 100000 in
set_option maxHeartbeats 4000000 in
theorem p_X10_takeValuesFrom {N : Nat} {M : vC} {R : vC} {a0 : Nat} {a1 : Nat} (ha0 : a0 < N) (ha1 : a1 < 3) (h : F_X10_takeValuesFrom N M a0 a1 = some R) {E : vE} {S0 : vS} {z x d0 : Nat} (hR : RC S0 z x N d0 M) : vi_Met E yX10_takeValuesFrom cX10_takeValuesFrom 4 none 3 0 0 [.ref (ad z x 10 (a0)), .ref (ad z x 0 (a1))] S0 (cz M) (D0 S0 z x N d0 R) := by
  refine vi_met (by decide) (Nat.le_of_ble_eq_true rfl) ?_
  intro X C
  have hF := cF.refl S0 z x N d0
  unfold F_X10_takeValuesFrom at h
  refine vi_aload_n C dX10_takeValuesFrom_0 rfl rfl ?_
  refine c_geti (f := 1008) (k := 10) (i := a0) C dX10_takeValuesFrom_1 rfl fX10_40 rfl (by decide) rfl hR ha0 ?_
  refine c_cs1 C [.int ((cI M 1008 (a0)))] [] dX10_takeValuesFrom_4 rfl ivX10_52 isX10_rowOf hR hF h (fun _ e => p_X10_rowOf  e hR) rfl (Nat.le_of_ble_eq_true rfl) ⟨by decide, by decide⟩ ⟨Nat.le_refl _, Nat.le_refl _⟩ (fun S M1 v2 h hR hF => ?_)
  refine vi_istore_n C dX10_takeValuesFrom_7 rfl (by decide) ?_
  refine vi_iconst (v := 0) C dX10_takeValuesFrom_8 rfl (by decide) ?_
  refine vi_istore_n C dX10_takeValuesFrom_9 rfl (by decide) ?_
  refine vi_cut [(0, .ref (ad z x 10 (a0))), (1, .ref (ad z x 0 (a1))), (2, .int (v2)), (3, .int ((0 : Int32)))] ⟨rfl, rfl, rfl, rfl, trivial⟩ (w_X10_takeValuesFrom_10 ha0 ha1 C ?_ _ _ _ h _ hR hF)
  · intro M7 h S hR hF
    exact c_ret0 C dX10_takeValuesFrom_34 rfl hR hF ⟨Nat.zero_le _, Nat.zero_le _⟩ h

def L_X10_takeFrom_28 {ρ : Type} (N : Nat) (l0 : Nat) (l1 : Nat) (kx60 : vC → Option ρ) : Nat → vC → Int32 → Option ρ
  | 0, _, _ => none
  | f + 1, M, l2 => if (16 : Int32) ≤ l2 then (kx60 M ) else (b2 (F_X0_takeU N M (l1)) fun M7 v8 => (cS M7 1002 (l0) (l2) (v8)).bind fun M9 => b2 (F_X0_take N M9 (l1)) fun M10 v11 => (cS M10 1003 (l0) (l2) (v11)).bind fun M12 => L_X10_takeFrom_28 N l0 l1 kx60 f M12 ((l2 + (1))))

def L_X10_takeFrom_62 {ρ : Type} (N : Nat) (l0 : Nat) (l1 : Nat) (kx86 : vC → Option ρ) : Nat → vC → Int32 → Option ρ
  | 0, _, _ => none
  | f + 1, M, l2 => if (cI M 1000 (l0)) ≤ l2 then (kx86 M ) else (b2 (F_X0_takeTwo N M (l1)) fun M15 v16 => (cS M15 1004 (l0) (l2) (v16)).bind fun M17 => L_X10_takeFrom_62 N l0 l1 kx86 f M17 ((l2 + (1))))

def F_X10_takeFrom (N : Nat) (M : vC) (a0 : Nat) (a1 : Nat) : Option vC := b2 (F_X0_takeU N M (a1)) fun M1 v2 => lt1 (uI M1 1007 (a0) (v2)) fun M3 => lt1 (uI M3 1008 (a0) ((cI M3 1007 (a0)))) fun M4 => lt1 (uI M4 1009 (a0) ((0 : Int32))) fun M5 => (F_X10_takeValuesFrom N M5 (a0) (a1)).bind fun M6 => L_X10_takeFrom_28 N (a0) (a1) (fun (M14 : vC)  => L_X10_takeFrom_62 N (a0) (a1) (fun (M19 : vC)  => some M19) fu M14 ((0 : Int32))) fu M6 ((0 : Int32))

set_option maxRecDepth 100000 in
set_option maxHeartbeats 4000000 in
theorem w_X10_takeFrom_28 {E : vE} {X : vX} {S0 : vS} {z x N d0 : Nat} {ρ : Type} {R : ρ} {Z : State → Prop} {l0 : Nat} {l1 : Nat} {kx60 : vC → Option ρ} (hl0 : l0 < N) (hl1 : l1 < 3) (C : vi_C E X yX10_takeFrom cX10_takeFrom 3 none 4 0 0 (45 * 4)) (hx60 : ∀ (M : vC) , kx60 M  = some R → ∀ S, RC S z x N d0 M → cF S0 S z x N d0 → vi_W E X 3 Z 60 [(0, .ref (ad z x 10 (l0))), (1, .ref (ad z x 0 (l1)))] [] S (cz M) 0 0) : ∀ (f : Nat) (M : vC) (l2 : Int32), L_X10_takeFrom_28 N l0 l1 kx60 f M l2 = some R → ∀ S, RC S z x N d0 M → cF S0 S z x N d0 → vi_W E X 3 Z 28 [(0, .ref (ad z x 10 (l0))), (1, .ref (ad z x 0 (l1))), (2, .int (l2))] [] S (cz M) 0 0 := by
  intro f
  induction f with
  | zero => intro M l2 h; cases h
  | succ f ih =>
    intro M l2 h S hR hF
    rw [L_X10_takeFrom_28] at h
    refine vi_iload_n C dX10_takeFrom_28 rfl rfl ?_
    refine vi_bipush (v := 16) C dX10_takeFrom_29 rfl (by decide) ?_
    refine vi_icmp_ge (t' := 60) C dX10_takeFrom_31 rfl (by decide) (fun c13 => ?_) (fun c13 => ?_)
    · replace h := iT c13 h
      exact (vi_cut [(0, .ref (ad z x 10 (l0))), (1, .ref (ad z x 0 (l1)))] ⟨rfl, rfl, trivial⟩ (hx60 _  h _ hR hF))
    · replace h := iN c13 h
      refine vi_aload_n C dX10_takeFrom_34 rfl rfl ?_
      refine c_gets (f := 1002) (k := 10) (i := l0) C dX10_takeFrom_35 rfl fX10_9 rfl (by decide) rfl hR hl0 rfl ?_
      refine vi_iload_n C dX10_takeFrom_38 rfl rfl ?_
      refine vi_aload_n C dX10_takeFrom_39 rfl rfl ?_
      refine c_cv1 (kc := 0) (a := (ad z x 0 (l1))) C [] [.int (l2), .ref (aa z x 1002 (l0))] dX10_takeFrom_40 rfl ivX10_120 imX0_takeU rfl rfl (rcK hR hl1) hR hF h (fun _ e => p_X0_takeU hl1 e hR) rfl (Nat.le_of_ble_eq_true rfl) ⟨by decide, by decide⟩ ⟨Nat.le_refl _, Nat.le_refl _⟩ (fun S M7 v8 h hR hF => ?_)
      refine c_iastore C dX10_takeFrom_43 rfl rfl hR hF ⟨hl0, by decide⟩ h (fun S M9 h hR hF => ?_)
      refine vi_aload_n C dX10_takeFrom_44 rfl rfl ?_
      refine c_gets (f := 1003) (k := 10) (i := l0) C dX10_takeFrom_45 rfl fX10_15 rfl (by decide) rfl hR hl0 rfl ?_
      refine vi_iload_n C dX10_takeFrom_48 rfl rfl ?_
      refine vi_aload_n C dX10_takeFrom_49 rfl rfl ?_
      refine c_cv1 (kc := 0) (a := (ad z x 0 (l1))) C [] [.int (l2), .ref (aa z x 1003 (l0))] dX10_takeFrom_50 rfl ivX10_127 imX0_take rfl rfl (rcK hR hl1) hR hF h (fun _ e => p_X0_take hl1 e hR) rfl (Nat.le_of_ble_eq_true rfl) ⟨by decide, by decide⟩ ⟨Nat.le_refl _, Nat.le_refl _⟩ (fun S M10 v11 h hR hF => ?_)
      refine c_iastore C dX10_takeFrom_53 rfl rfl hR hF ⟨hl0, by decide⟩ h (fun S M12 h hR hF => ?_)
      refine vi_iincv (v := 1) C dX10_takeFrom_54 rfl rfl (by decide) (by decide) ?_
      refine vi_goto (t' := 28) C dX10_takeFrom_57 (by decide) ?_
      exact vi_cut [(0, .ref (ad z x 10 (l0))), (1, .ref (ad z x 0 (l1))), (2, .int ((l2 + (1))))] ⟨rfl, rfl, rfl, trivial⟩ (ih _ _ h _ hR hF)

set_option maxRecDepth 100000 in
set_option maxHeartbeats 4000000 in
theorem w_X10_takeFrom_62 {E : vE} {X : vX} {S0 : vS} {z x N d0 : Nat} {ρ : Type} {R : ρ} {Z : State → Prop} {l0 : Nat} {l1 : Nat} {kx86 : vC → Option ρ} (hl0 : l0 < N) (hl1 : l1 < 3) (C : vi_C E X yX10_takeFrom cX10_takeFrom 3 none 4 0 0 (45 * 4)) (hx86 : ∀ (M : vC) , kx86 M  = some R → ∀ S, RC S z x N d0 M → cF S0 S z x N d0 → vi_W E X 3 Z 86 [] [] S (cz M) 0 0) : ∀ (f : Nat) (M : vC) (l2 : Int32), L_X10_takeFrom_62 N l0 l1 kx86 f M l2 = some R → ∀ S, RC S z x N d0 M → cF S0 S z x N d0 → vi_W E X 3 Z 62 [(0, .ref (ad z x 10 (l0))), (1, .ref (ad z x 0 (l1))), (2, .int (l2))] [] S (cz M) 0 0 := by
  intro f
  induction f with
  | zero => intro M l2 h; cases h
  | succ f ih =>
    intro M l2 h S hR hF
    rw [L_X10_takeFrom_62] at h
    refine vi_iload_n C dX10_takeFrom_62 rfl rfl ?_
    refine vi_aload_n C dX10_takeFrom_63 rfl rfl ?_
    refine c_geti (f := 1000) (k := 10) (i := l0) C dX10_takeFrom_64 rfl fX10_30 rfl (by decide) rfl hR hl0 ?_
    refine vi_icmp_ge (t' := 86) C dX10_takeFrom_67 rfl (by decide) (fun c18 => ?_) (fun c18 => ?_)
    · replace h := iT c18 h
      exact (vi_cut [] trivial (hx86 _  h _ hR hF))
    · replace h := iN c18 h
      refine vi_aload_n C dX10_takeFrom_70 rfl rfl ?_
      refine c_gets (f := 1004) (k := 10) (i := l0) C dX10_takeFrom_71 rfl fX10_18 rfl (by decide) rfl hR hl0 rfl ?_
      refine vi_iload_n C dX10_takeFrom_74 rfl rfl ?_
      refine vi_aload_n C dX10_takeFrom_75 rfl rfl ?_
      refine c_cv1 (kc := 0) (a := (ad z x 0 (l1))) C [] [.int (l2), .ref (aa z x 1004 (l0))] dX10_takeFrom_76 rfl ivX10_130 imX0_takeTwo rfl rfl (rcK hR hl1) hR hF h (fun _ e => p_X0_takeTwo hl1 e hR) rfl (Nat.le_of_ble_eq_true rfl) ⟨by decide, by decide⟩ ⟨Nat.le_refl _, Nat.le_refl _⟩ (fun S M15 v16 h hR hF => ?_)
      refine c_iastore C dX10_takeFrom_79 rfl rfl hR hF ⟨hl0, by decide⟩ h (fun S M17 h hR hF => ?_)
      refine vi_iincv (v := 1) C dX10_takeFrom_80 rfl rfl (by decide) (by decide) ?_
      refine vi_goto (t' := 62) C dX10_takeFrom_83 (by decide) ?_
      exact vi_cut [(0, .ref (ad z x 10 (l0))), (1, .ref (ad z x 0 (l1))), (2, .int ((l2 + (1))))] ⟨rfl, rfl, rfl, trivial⟩ (ih _ _ h _ hR hF)

set_option maxRecDepth 100000 in
set_option maxHeartbeats 4000000 in
theorem p_X10_takeFrom {N : Nat} {M : vC} {R : vC} {a0 : Nat} {a1 : Nat} (ha0 : a0 < N) (ha1 : a1 < 3) (h : F_X10_takeFrom N M a0 a1 = some R) {E : vE} {S0 : vS} {z x d0 : Nat} (hR : RC S0 z x N d0 M) : vi_Met E yX10_takeFrom cX10_takeFrom 3 none 4 0 0 [.ref (ad z x 10 (a0)), .ref (ad z x 0 (a1))] S0 (cz M) (D0 S0 z x N d0 R) := by
  refine vi_met (by decide) (Nat.le_of_ble_eq_true rfl) ?_
  intro X C
  have hF := cF.refl S0 z x N d0
  unfold F_X10_takeFrom at h
  refine vi_aload_n C dX10_takeFrom_0 rfl rfl ?_
  refine vi_aload_n C dX10_takeFrom_1 rfl rfl ?_
  refine c_cv1 (kc := 0) (a := (ad z x 0 (a1))) C [] [.ref (ad z x 10 (a0))] dX10_takeFrom_2 rfl ivX10_120 imX0_takeU rfl rfl (rcK hR ha1) hR hF h (fun _ e => p_X0_takeU ha1 e hR) rfl (Nat.le_of_ble_eq_true rfl) ⟨by decide, by decide⟩ ⟨Nat.le_refl _, Nat.le_refl _⟩ (fun S M1 v2 h hR hF => ?_)
  refine c_puti (f := 1007) (k := 10) (i := a0) C dX10_takeFrom_5 rfl (fpX10_37 _) rfl (by decide) rfl hR hF ha0 h (fun S M3 h hR hF => ?_)
  refine vi_aload_n C dX10_takeFrom_8 rfl rfl ?_
  refine vi_aload_n C dX10_takeFrom_9 rfl rfl ?_
  refine c_geti (f := 1007) (k := 10) (i := a0) C dX10_takeFrom_10 rfl fX10_37 rfl (by decide) rfl hR ha0 ?_
  refine c_puti (f := 1008) (k := 10) (i := a0) C dX10_takeFrom_13 rfl (fpX10_40 _) rfl (by decide) rfl hR hF ha0 h (fun S M4 h hR hF => ?_)
  refine vi_aload_n C dX10_takeFrom_16 rfl rfl ?_
  refine vi_iconst (v := 0) C dX10_takeFrom_17 rfl (by decide) ?_
  refine c_puti (f := 1009) (k := 10) (i := a0) C dX10_takeFrom_18 rfl (fpX10_43 _) rfl (by decide) rfl hR hF ha0 h (fun S M5 h hR hF => ?_)
  refine vi_aload_n C dX10_takeFrom_21 rfl rfl ?_
  refine vi_aload_n C dX10_takeFrom_22 rfl rfl ?_
  refine c_cv0 (kc := 10) (a := (ad z x 10 (a0))) C [.ref (ad z x 0 (a1))] [] dX10_takeFrom_23 rfl ivX10_123 imX10_takeValuesFrom rfl rfl (rcK hR ha0) hR hF h (fun _ e => p_X10_takeValuesFrom ha0 ha1 e hR) rfl (Nat.le_of_ble_eq_true rfl) ⟨by decide, by decide⟩ ⟨Nat.le_refl _, Nat.le_refl _⟩ (fun S M6 h hR hF => ?_)
  refine vi_iconst (v := 0) C dX10_takeFrom_26 rfl (by decide) ?_
  refine vi_istore_n C dX10_takeFrom_27 rfl (by decide) ?_
  refine vi_cut [(0, .ref (ad z x 10 (a0))), (1, .ref (ad z x 0 (a1))), (2, .int ((0 : Int32)))] ⟨rfl, rfl, rfl, trivial⟩ (w_X10_takeFrom_28 ha0 ha1 C ?_ _ _ _ h _ hR hF)
  · intro M14 h S hR hF
    refine vi_iconst (v := 0) C dX10_takeFrom_60 rfl (by decide) ?_
    refine vi_istore_n C dX10_takeFrom_61 rfl (by decide) ?_
    refine vi_cut [(0, .ref (ad z x 10 (a0))), (1, .ref (ad z x 0 (a1))), (2, .int ((0 : Int32)))] ⟨rfl, rfl, rfl, trivial⟩ (w_X10_takeFrom_62 ha0 ha1 C ?_ _ _ _ h _ hR hF)
    · intro M19 h S hR hF
      exact c_ret0 C dX10_takeFrom_86 rfl hR hF ⟨Nat.zero_le _, Nat.zero_le _⟩ h

def F_X10_takeOlderFrom (N : Nat) (M : vC) (a0 : Nat) (a1 : Nat) : Option vC := if (cI M 1000 (a0)) ≤ ((cI M 1007 (a0)) - (cI M 1008 (a0))) then (some M) else (lt1 (uI M 1008 (a0) (((cI M 1008 (a0)) - (1 : Int32)))) fun M1 => (F_X10_takeValuesFrom N M1 (a0) (a1)).bind fun M2 => some M2)

set_option maxRecDepth 100000 in
set_option maxHeartbeats 4000000 in
theorem p_X10_takeOlderFrom {N : Nat} {M : vC} {R : vC} {a0 : Nat} {a1 : Nat} (ha0 : a0 < N) (ha1 : a1 < 3) (h : F_X10_takeOlderFrom N M a0 a1 = some R) {E : vE} {S0 : vS} {z x d0 : Nat} (hR : RC S0 z x N d0 M) : vi_Met E yX10_takeOlderFrom cX10_takeOlderFrom 2 none 4 0 0 [.ref (ad z x 10 (a0)), .ref (ad z x 0 (a1))] S0 (cz M) (D0 S0 z x N d0 R) := by
  refine vi_met (by decide) (Nat.le_of_ble_eq_true rfl) ?_
  intro X C
  have hF := cF.refl S0 z x N d0
  unfold F_X10_takeOlderFrom at h
  refine vi_aload_n C dX10_takeOlderFrom_0 rfl rfl ?_
  refine c_geti (f := 1007) (k := 10) (i := a0) C dX10_takeOlderFrom_1 rfl fX10_37 rfl (by decide) rfl hR ha0 ?_
  refine vi_aload_n C dX10_takeOlderFrom_4 rfl rfl ?_
  refine c_geti (f := 1008) (k := 10) (i := a0) C dX10_takeOlderFrom_5 rfl fX10_40 rfl (by decide) rfl hR ha0 ?_
  refine vi_isub C dX10_takeOlderFrom_8 rfl ?_
  refine vi_aload_n C dX10_takeOlderFrom_9 rfl rfl ?_
  refine c_geti (f := 1000) (k := 10) (i := a0) C dX10_takeOlderFrom_10 rfl fX10_30 rfl (by decide) rfl hR ha0 ?_
  refine vi_icmp_ge (t' := 31) C dX10_takeOlderFrom_13 rfl (by decide) (fun c3 => ?_) (fun c3 => ?_)
  · replace h := iT c3 h
    exact c_ret0 C dX10_takeOlderFrom_31 rfl hR hF ⟨Nat.zero_le _, Nat.zero_le _⟩ h
  · replace h := iN c3 h
    refine vi_aload_n C dX10_takeOlderFrom_16 rfl rfl ?_
    refine vi_dup C dX10_takeOlderFrom_17 rfl rfl ?_
    refine c_geti (f := 1008) (k := 10) (i := a0) C dX10_takeOlderFrom_18 rfl fX10_40 rfl (by decide) rfl hR ha0 ?_
    refine vi_iconst (v := 1) C dX10_takeOlderFrom_21 rfl (by decide) ?_
    refine vi_isub C dX10_takeOlderFrom_22 rfl ?_
    refine c_puti (f := 1008) (k := 10) (i := a0) C dX10_takeOlderFrom_23 rfl (fpX10_40 _) rfl (by decide) rfl hR hF ha0 h (fun S M1 h hR hF => ?_)
    refine vi_aload_n C dX10_takeOlderFrom_26 rfl rfl ?_
    refine vi_aload_n C dX10_takeOlderFrom_27 rfl rfl ?_
    refine c_cv0 (kc := 10) (a := (ad z x 10 (a0))) C [.ref (ad z x 0 (a1))] [] dX10_takeOlderFrom_28 rfl ivX10_123 imX10_takeValuesFrom rfl rfl (rcK hR ha0) hR hF h (fun _ e => p_X10_takeValuesFrom ha0 ha1 e hR) rfl (Nat.le_of_ble_eq_true rfl) ⟨by decide, by decide⟩ ⟨Nat.le_refl _, Nat.le_refl _⟩ (fun S M2 h hR hF => ?_)
    exact c_ret0 C dX10_takeOlderFrom_31 rfl hR hF ⟨Nat.zero_le _, Nat.zero_le _⟩ h

def F_X8_init (N : Nat) (M : vC) (a0 : Nat) (a1 : Int32) (a2 : Int32) (a3 : Int32) (a4 : Int32) (a5 : Int32) (a6 : Option Nat) : Option vC := gd (cK M (a0) = 9) <| lt1 (uI M 800 (a0) (a1)) fun M1 => gd (cK M1 (a0) = 9) <| lt1 (uI M1 801 (a0) (a2)) fun M3 => gd (cK M3 (a0) = 9) <| lt1 (uI M3 802 (a0) (a3)) fun M5 => gd (cK M5 (a0) = 9) <| lt1 (uI M5 803 (a0) (a4)) fun M7 => gd (cK M7 (a0) = 9) <| lt1 (uI M7 804 (a0) (a5)) fun M9 => gd (cK M9 (a0) = 9) <| lt1 (uP M9 805 (a0) (a6)) fun M11 => some M11

set_option maxRecDepth 100000 in
set_option maxHeartbeats 4000000 in
theorem p_X8_init {N : Nat} {M : vC} {R : vC} {a0 : Nat} {a1 : Int32} {a2 : Int32} {a3 : Int32} {a4 : Int32} {a5 : Int32} {a6 : Option Nat}  (h : F_X8_init N M a0 a1 a2 a3 a4 a5 a6 = some R) {E : vE} {S0 : vS} {z x d0 : Nat} (hR : RC S0 z x N d0 M) : vi_Met E yX8_init cX8_init 7 none 1 0 0 [.ref (a0), .int (a1), .int (a2), .int (a3), .int (a4), .int (a5), va_rf (a6)] S0 (cz M) (D0 S0 z x N d0 R) := by
  refine vi_met (by decide) (by cases a6 <;> exact Nat.le_of_ble_eq_true rfl) ?_
  intro X C
  rw [show lv_args 0 [.ref (a0), .int (a1), .int (a2), .int (a3), .int (a4), .int (a5), va_rf (a6)] = [(0, .ref (a0)), (1, .int (a1)), (2, .int (a2)), (3, .int (a3)), (4, .int (a4)), (5, .int (a5)), (6, va_rf (a6))] from by cases a6 <;> rfl]
  have hF := cF.refl S0 z x N d0
  unfold F_X8_init at h
  refine vi_aload_n C dX8_init_0 rfl rfl ?_
  refine vi_objInit C dX8_init_1 rfl oiX8_3 oi_i oi_c (by decide) (Nat.le_of_ble_eq_true rfl) ?_
  refine vi_aload_n C dX8_init_4 rfl rfl ?_
  refine vi_iload_n C dX8_init_5 rfl rfl ?_
  obtain ⟨c2, h⟩ := gdo h
  refine c_putiD (f := 800) C dX8_init_6 rfl fpX8_9 rfl (by decide) rfl hR hF c2 h (fun S M1 h hR hF => ?_)
  refine vi_aload_n C dX8_init_9 rfl rfl ?_
  refine vi_iload_n C dX8_init_10 rfl rfl ?_
  obtain ⟨c4, h⟩ := gdo h
  refine c_putiD (f := 801) C dX8_init_11 rfl fpX8_15 rfl (by decide) rfl hR hF c4 h (fun S M3 h hR hF => ?_)
  refine vi_aload_n C dX8_init_14 rfl rfl ?_
  refine vi_iload_n C dX8_init_15 rfl rfl ?_
  obtain ⟨c6, h⟩ := gdo h
  refine c_putiD (f := 802) C dX8_init_16 rfl fpX8_18 rfl (by decide) rfl hR hF c6 h (fun S M5 h hR hF => ?_)
  refine vi_aload_n C dX8_init_19 rfl rfl ?_
  refine vi_iload C dX8_init_20 rfl rfl ?_
  obtain ⟨c8, h⟩ := gdo h
  refine c_putiD (f := 803) C dX8_init_22 rfl fpX8_21 rfl (by decide) rfl hR hF c8 h (fun S M7 h hR hF => ?_)
  refine vi_aload_n C dX8_init_25 rfl rfl ?_
  refine vi_iload C dX8_init_26 rfl rfl ?_
  obtain ⟨c10, h⟩ := gdo h
  refine c_putiD (f := 804) C dX8_init_28 rfl fpX8_24 rfl (by decide) rfl hR hF c10 h (fun S M9 h hR hF => ?_)
  refine vi_aload_n C dX8_init_31 rfl rfl ?_
  refine vi_aloadq (o := (a6)) C dX8_init_32 rfl rfl ?_
  obtain ⟨c12, h⟩ := gdo h
  refine c_putpD (v := (a6)) C dX8_init_34 rfl fpX8_27 hR hF c12 h (fun S M11 h hR hF => ?_)
  exact c_ret0 C dX8_init_37 rfl hR hF ⟨Nat.zero_le _, Nat.zero_le _⟩ h

def L_X8_takeFrom_39 {ρ : Type} (N : Nat) (l0 : Nat) (l1 : Int32) (l2 : Int32) (l3 : Int32) (l4 : Int32) (l5 : Int32) (l6 : Nat) (kx71 : vC → Option ρ) : Nat → vC → Int32 → Option ρ
  | 0, _, _ => none
  | f + 1, M, l7 => if (16 : Int32) ≤ l7 then (kx71 M ) else (b2 (F_X11_isIn N M (l7) (l5)) fun M13 v14 => if v14 = 0 then (L_X8_takeFrom_39 N l0 l1 l2 l3 l4 l5 l6 kx71 f M13 ((l7 + (1)))) else (b2 (F_X0_takeFour N M13 (l0)) fun M15 v16 => (dS M15 (l6) (l7) (v16)).bind fun M17 => L_X8_takeFrom_39 N l0 l1 l2 l3 l4 l5 l6 kx71 f M17 ((l7 + (1)))))

def F_X8_takeFrom (N : Nat) (M : vC) (a0 : Nat) : Option (vC × Option Nat) := b2 (F_X0_take N M (a0)) fun M1 v2 => b2 (F_X0_takeU N M1 (a0)) fun M3 v4 => b2 (F_X0_takeU N M3 (a0)) fun M5 v6 => b2 (F_X0_takeTwo N M5 (a0)) fun M7 v8 => b2 (F_X0_takeTwo N M7 (a0)) fun M9 v10 => lt1 (nD M9 21 16) fun M11 => L_X8_takeFrom_39 N (a0) ((v2 &&& (15 : Int32))) (v4) (v6) (v8) (v10) (cz M9) (fun (M20 : vC)  => lt1 (nQ M20) fun M21 => gd (cK M21 (cz M20) = 9) <| (F_X8_init N M21 (cz M20) ((v2 &&& (15 : Int32))) (v4) (v6) (v8) (v10) (some (cz M9))).bind fun M24 => some (M24, (some (cz M20)))) fu M11 ((0 : Int32))

set_option maxRecDepth 100000 in
set_option maxHeartbeats 4000000 in
theorem w_X8_takeFrom_39 {E : vE} {X : vX} {S0 : vS} {z x N d0 : Nat} {ρ : Type} {R : ρ} {Z : State → Prop} {l0 : Nat} {l1 : Int32} {l2 : Int32} {l3 : Int32} {l4 : Int32} {l5 : Int32} {l6 : Nat} {kx71 : vC → Option ρ} (hl0 : l0 < 3) {q n : Nat} (hqn : q ≤ 2 ∧ n ≤ 22) (C : vi_C E X yX8_takeFrom cX8_takeFrom 8 (some (.object "SnapCluster$Request")) 3 2 22 (45 * 3)) (hx71 : ∀ (M : vC) , kx71 M  = some R → ∀ S, RC S z x N d0 M → cF S0 S z x N d0 → vi_W E X 8 Z 71 [(1, .int (l1)), (2, .int (l2)), (3, .int (l3)), (4, .int (l4)), (5, .int (l5)), (6, .ref (l6))] [] S (cz M) q n) : ∀ (f : Nat) (M : vC) (l7 : Int32), L_X8_takeFrom_39 N l0 l1 l2 l3 l4 l5 l6 kx71 f M l7 = some R → ∀ S, RC S z x N d0 M → cF S0 S z x N d0 → vi_W E X 8 Z 39 [(0, .ref (ad z x 0 (l0))), (1, .int (l1)), (2, .int (l2)), (3, .int (l3)), (4, .int (l4)), (5, .int (l5)), (6, .ref (l6)), (7, .int (l7))] [] S (cz M) q n := by
  intro f
  induction f with
  | zero => intro M l7 h; cases h
  | succ f ih =>
    intro M l7 h S hR hF
    rw [L_X8_takeFrom_39] at h
    refine vi_iload C dX8_takeFrom_39 rfl rfl ?_
    refine vi_bipush (v := 16) C dX8_takeFrom_41 rfl (by decide) ?_
    refine vi_icmp_ge (t' := 71) C dX8_takeFrom_43 rfl (by decide) (fun c19 => ?_) (fun c19 => ?_)
    · replace h := iT c19 h
      exact (vi_cut [(1, .int (l1)), (2, .int (l2)), (3, .int (l3)), (4, .int (l4)), (5, .int (l5)), (6, .ref (l6))] ⟨rfl, rfl, rfl, rfl, rfl, rfl, trivial⟩ (hx71 _  h _ hR hF))
    · replace h := iN c19 h
      refine vi_iload C dX8_takeFrom_46 rfl rfl ?_
      refine vi_iload C dX8_takeFrom_48 rfl rfl ?_
      refine c_cs1 C [.int (l7), .int (l5)] [] dX8_takeFrom_50 rfl ivX8_43 isX11_isIn hR hF h (fun _ e => p_X11_isIn  e hR) rfl (Nat.le_of_ble_eq_true rfl) ⟨by decide, by decide⟩ ⟨by omega, by omega⟩ (fun S M13 v14 h hR hF => ?_)
      refine vi_if_eq (t' := 65) C dX8_takeFrom_53 rfl (by decide) (fun c18 => ?_) (fun c18 => ?_)
      · replace h := iT c18 h
        refine vi_iincv (v := 1) C dX8_takeFrom_65 rfl rfl (by decide) (by decide) ?_
        refine vi_goto (t' := 39) C dX8_takeFrom_68 (by decide) ?_
        exact vi_cut [(0, .ref (ad z x 0 (l0))), (1, .int (l1)), (2, .int (l2)), (3, .int (l3)), (4, .int (l4)), (5, .int (l5)), (6, .ref (l6)), (7, .int ((l7 + (1))))] ⟨rfl, rfl, rfl, rfl, rfl, rfl, rfl, rfl, trivial⟩ (ih _ _ h _ hR hF)
      · replace h := iN c18 h
        refine vi_aload C dX8_takeFrom_56 rfl rfl ?_
        refine vi_iload C dX8_takeFrom_58 rfl rfl ?_
        refine vi_aload_n C dX8_takeFrom_60 rfl rfl ?_
        refine c_cv1 (kc := 0) (a := (ad z x 0 (l0))) C [] [.int (l7), .ref (l6)] dX8_takeFrom_61 rfl ivX8_47 imX0_takeFour rfl rfl (rcK hR hl0) hR hF h (fun _ e => p_X0_takeFour hl0 e hR) rfl (Nat.le_of_ble_eq_true rfl) ⟨by decide, by decide⟩ ⟨by omega, by omega⟩ (fun S M15 v16 h hR hF => ?_)
        refine c_iastoreD C dX8_takeFrom_64 rfl hR hF h (fun S M17 h hR hF => ?_)
        refine vi_iincv (v := 1) C dX8_takeFrom_65 rfl rfl (by decide) (by decide) ?_
        refine vi_goto (t' := 39) C dX8_takeFrom_68 (by decide) ?_
        exact vi_cut [(0, .ref (ad z x 0 (l0))), (1, .int (l1)), (2, .int (l2)), (3, .int (l3)), (4, .int (l4)), (5, .int (l5)), (6, .ref (l6)), (7, .int ((l7 + (1))))] ⟨rfl, rfl, rfl, rfl, rfl, rfl, rfl, rfl, trivial⟩ (ih _ _ h _ hR hF)

set_option maxRecDepth 100000 in
set_option maxHeartbeats 4000000 in
theorem p_X8_takeFrom {N : Nat} {M : vC} {R : (vC × Option Nat)} {a0 : Nat} (ha0 : a0 < 3) (h : F_X8_takeFrom N M a0 = some R) {E : vE} {S0 : vS} {z x d0 : Nat} (hR : RC S0 z x N d0 M) : vi_Met E yX8_takeFrom cX8_takeFrom 8 (some (.object "SnapCluster$Request")) 3 2 22 [.ref (ad z x 0 (a0))] S0 (cz M) (D4 S0 z x N d0 R) := by
  refine vi_met (by decide) (Nat.le_of_ble_eq_true rfl) ?_
  intro X C
  have hF := cF.refl S0 z x N d0
  unfold F_X8_takeFrom at h
  refine vi_aload_n C dX8_takeFrom_0 rfl rfl ?_
  refine c_cv1 (kc := 0) (a := (ad z x 0 (a0))) C [] [] dX8_takeFrom_1 rfl ivX8_31 imX0_take rfl rfl (rcK hR ha0) hR hF h (fun _ e => p_X0_take ha0 e hR) rfl (Nat.le_of_ble_eq_true rfl) ⟨by decide, by decide⟩ ⟨by omega, by omega⟩ (fun S M1 v2 h hR hF => ?_)
  refine vi_bipush (v := 15) C dX8_takeFrom_4 rfl (by decide) ?_
  refine vi_iand C dX8_takeFrom_6 rfl ?_
  refine vi_istore_n C dX8_takeFrom_7 rfl (by decide) ?_
  refine vi_aload_n C dX8_takeFrom_8 rfl rfl ?_
  refine c_cv1 (kc := 0) (a := (ad z x 0 (a0))) C [] [] dX8_takeFrom_9 rfl ivX8_37 imX0_takeU rfl rfl (rcK hR ha0) hR hF h (fun _ e => p_X0_takeU ha0 e hR) rfl (Nat.le_of_ble_eq_true rfl) ⟨by decide, by decide⟩ ⟨by omega, by omega⟩ (fun S M3 v4 h hR hF => ?_)
  refine vi_istore_n C dX8_takeFrom_12 rfl (by decide) ?_
  refine vi_aload_n C dX8_takeFrom_13 rfl rfl ?_
  refine c_cv1 (kc := 0) (a := (ad z x 0 (a0))) C [] [] dX8_takeFrom_14 rfl ivX8_37 imX0_takeU rfl rfl (rcK hR ha0) hR hF h (fun _ e => p_X0_takeU ha0 e hR) rfl (Nat.le_of_ble_eq_true rfl) ⟨by decide, by decide⟩ ⟨by omega, by omega⟩ (fun S M5 v6 h hR hF => ?_)
  refine vi_istore_n C dX8_takeFrom_17 rfl (by decide) ?_
  refine vi_aload_n C dX8_takeFrom_18 rfl rfl ?_
  refine c_cv1 (kc := 0) (a := (ad z x 0 (a0))) C [] [] dX8_takeFrom_19 rfl ivX8_40 imX0_takeTwo rfl rfl (rcK hR ha0) hR hF h (fun _ e => p_X0_takeTwo ha0 e hR) rfl (Nat.le_of_ble_eq_true rfl) ⟨by decide, by decide⟩ ⟨by omega, by omega⟩ (fun S M7 v8 h hR hF => ?_)
  refine vi_istore C dX8_takeFrom_22 rfl (by decide) ?_
  refine vi_aload_n C dX8_takeFrom_24 rfl rfl ?_
  refine c_cv1 (kc := 0) (a := (ad z x 0 (a0))) C [] [] dX8_takeFrom_25 rfl ivX8_40 imX0_takeTwo rfl rfl (rcK hR ha0) hR hF h (fun _ e => p_X0_takeTwo ha0 e hR) rfl (Nat.le_of_ble_eq_true rfl) ⟨by decide, by decide⟩ ⟨by omega, by omega⟩ (fun S M9 v10 h hR hF => ?_)
  refine vi_istore C dX8_takeFrom_28 rfl (by decide) ?_
  refine vi_bipush (v := 16) C dX8_takeFrom_30 rfl (by decide) ?_
  refine c_newI (M := 16) C dX8_takeFrom_32 rfl (by decide) (by decide) (by decide) (by omega) (by omega) hR hF h (fun S M11 e12 h hR hF => ?_)
  refine vi_astore C dX8_takeFrom_34 rfl (by decide) ?_
  refine vi_iconst (v := 0) C dX8_takeFrom_36 rfl (by decide) ?_
  refine vi_istore C dX8_takeFrom_37 rfl (by decide) ?_
  refine vi_cut [(0, .ref (ad z x 0 (a0))), (1, .int ((v2 &&& (15 : Int32)))), (2, .int (v4)), (3, .int (v6)), (4, .int (v8)), (5, .int (v10)), (6, .ref (cz M9)), (7, .int ((0 : Int32)))] ⟨rfl, rfl, rfl, rfl, rfl, rfl, rfl, rfl, trivial⟩ (w_X8_takeFrom_39 (q := 1) (n := 16) ha0 ⟨by omega, by omega⟩ C ?_ _ _ _ h _ hR hF)
  · intro M20 h S hR hF
    refine c_new C dX8_takeFrom_71 rfl nlX8_10 (by omega) (by omega) hR hF h (fun S M21 e22 h hR hF => ?_)
    refine vi_dup C dX8_takeFrom_74 rfl rfl ?_
    refine vi_iload_n C dX8_takeFrom_75 rfl rfl ?_
    refine vi_iload_n C dX8_takeFrom_76 rfl rfl ?_
    refine vi_iload_n C dX8_takeFrom_77 rfl rfl ?_
    refine vi_iload C dX8_takeFrom_78 rfl rfl ?_
    refine vi_iload C dX8_takeFrom_80 rfl rfl ?_
    refine vi_aload C dX8_takeFrom_82 rfl rfl ?_
    obtain ⟨c23, h⟩ := gdo h
    refine c_ci (ret' := none) (a := (cz M20)) C [.int ((v2 &&& (15 : Int32))), .int (v4), .int (v6), .int (v8), .int (v10), .ref (cz M9)] [.ref (cz M20)] dX8_takeFrom_84 rfl ivX8_50 iiX8_init hR hF h (fun _ e => p_X8_init  e hR) rfl (Nat.le_of_ble_eq_true rfl) ⟨by decide, by decide⟩ ⟨by omega, by omega⟩ (fun S M24 h hR hF => ?_)
    exact c_ret4 (v := (some (cz M20))) C dX8_takeFrom_87 rfl (Or.inl ⟨_, rfl⟩) hR hF ⟨by omega, by omega⟩ h

def F_X7_replayAccepted (N : Nat) (M : vC) (a0 : Nat) : Option vC := b2 (F_X0_takeU N M (1)) fun M1 v2 => lt1 (uI M1 712 (a0) (v2)) fun M3 => b2 (F_X0_takeU N M3 (1)) fun M4 v5 => if v5 = ((cI M4 1007 (a0)) + (1 : Int32)) then (b2 (F_X8_takeFrom N M4 (1)) fun M6 v7 => lt1 (uP M6 713 (a0) (v7)) fun M8 => lt1 (uI M8 714 (a0) ((cI M8 712 (a0)))) fun M9 => some M9) else (some M4)

set_option maxRecDepth 100000 in
set_option maxHeartbeats 4000000 in
theorem p_X7_replayAccepted {N : Nat} {M : vC} {R : vC} {a0 : Nat} (ha0 : a0 < N) (h : F_X7_replayAccepted N M a0 = some R) {E : vE} {S0 : vS} {z x d0 : Nat} (hR : RC S0 z x N d0 M) : vi_Met E yX7_replayAccepted cX7_replayAccepted 2 none 4 2 22 [.ref (ad z x 7 (a0))] S0 (cz M) (D0 S0 z x N d0 R) := by
  refine vi_met (by decide) (Nat.le_of_ble_eq_true rfl) ?_
  intro X C
  have hF := cF.refl S0 z x N d0
  unfold F_X7_replayAccepted at h
  refine vi_aload_n C dX7_replayAccepted_0 rfl rfl ?_
  refine vi_aload_n C dX7_replayAccepted_1 rfl rfl ?_
  refine c_gets (f := 710) (k := 7) (i := a0) C dX7_replayAccepted_2 rfl fX7_62 rfl (by decide) rfl hR ha0 rfl ?_
  refine c_cv1 (kc := 0) (a := (ad z x 0 (1))) C [] [.ref (ad z x 7 (a0))] dX7_replayAccepted_5 rfl ivX7_167 imX0_takeU rfl rfl (rcK hR (show 1 < 3 from by decide)) hR hF h (fun _ e => p_X0_takeU (show 1 < 3 from by decide) e hR) rfl (Nat.le_of_ble_eq_true rfl) ⟨by decide, by decide⟩ ⟨by omega, by omega⟩ (fun S M1 v2 h hR hF => ?_)
  refine c_puti (f := 712) (k := 7) (i := a0) C dX7_replayAccepted_8 rfl (fpX7_78 _) rfl (by decide) rfl hR hF ha0 h (fun S M3 h hR hF => ?_)
  refine vi_aload_n C dX7_replayAccepted_11 rfl rfl ?_
  refine c_gets (f := 710) (k := 7) (i := a0) C dX7_replayAccepted_12 rfl fX7_62 rfl (by decide) rfl hR ha0 rfl ?_
  refine c_cv1 (kc := 0) (a := (ad z x 0 (1))) C [] [] dX7_replayAccepted_15 rfl ivX7_167 imX0_takeU rfl rfl (rcK hR (show 1 < 3 from by decide)) hR hF h (fun _ e => p_X0_takeU (show 1 < 3 from by decide) e hR) rfl (Nat.le_of_ble_eq_true rfl) ⟨by decide, by decide⟩ ⟨by omega, by omega⟩ (fun S M4 v5 h hR hF => ?_)
  refine vi_istore_n C dX7_replayAccepted_18 rfl (by decide) ?_
  refine vi_iload_n C dX7_replayAccepted_19 rfl rfl ?_
  refine vi_aload_n C dX7_replayAccepted_20 rfl rfl ?_
  refine c_gets (f := 703) (k := 7) (i := a0) C dX7_replayAccepted_21 rfl fX7_46 rfl (by decide) rfl hR ha0 rfl ?_
  refine c_geti (f := 1007) (k := 10) (i := a0) C dX7_replayAccepted_24 rfl fX7_66 rfl (by decide) rfl hR ha0 ?_
  refine vi_iconst (v := 1) C dX7_replayAccepted_27 rfl (by decide) ?_
  refine vi_iadd C dX7_replayAccepted_28 rfl ?_
  refine vi_icmp_ne (t' := 51) C dX7_replayAccepted_29 rfl (by decide) (fun c10 => ?_) (fun c10 => ?_)
  · replace h := iN c10 h
    exact c_ret0 C dX7_replayAccepted_51 rfl hR hF ⟨Nat.zero_le _, Nat.zero_le _⟩ h
  · replace h := iT c10 h
    refine vi_aload_n C dX7_replayAccepted_32 rfl rfl ?_
    refine vi_aload_n C dX7_replayAccepted_33 rfl rfl ?_
    refine c_gets (f := 710) (k := 7) (i := a0) C dX7_replayAccepted_34 rfl fX7_62 rfl (by decide) rfl hR ha0 rfl ?_
    refine c_cs4 C [.ref (ad z x 0 (1))] [.ref (ad z x 7 (a0))] dX7_replayAccepted_37 rfl ivX7_173 isX8_takeFrom hR hF h (fun _ e => p_X8_takeFrom (show 1 < 3 from by decide) e hR) rfl (Nat.le_of_ble_eq_true rfl) ⟨by decide, by decide⟩ ⟨by omega, by omega⟩ (fun S M6 v7 h hR hF => ?_)
    refine c_putp (f := 713) (k := 7) (i := a0) (v := (v7)) C dX7_replayAccepted_40 rfl (fpX7_81 _) rfl (by decide) rfl hR hF ha0 rfl h (fun S M8 h hR hF => ?_)
    refine vi_aload_n C dX7_replayAccepted_43 rfl rfl ?_
    refine vi_aload_n C dX7_replayAccepted_44 rfl rfl ?_
    refine c_geti (f := 712) (k := 7) (i := a0) C dX7_replayAccepted_45 rfl fX7_78 rfl (by decide) rfl hR ha0 ?_
    refine c_puti (f := 714) (k := 7) (i := a0) C dX7_replayAccepted_48 rfl (fpX7_85 _) rfl (by decide) rfl hR hF ha0 h (fun S M9 h hR hF => ?_)
    exact c_ret0 C dX7_replayAccepted_51 rfl hR hF ⟨by omega, by omega⟩ h

def F_X7_replay (N : Nat) (M : vC) (a0 : Nat) : Option vC := b2 (F_X0_take N M (1)) fun M1 v2 => if v2 = 1 then (b2 (F_X0_takeU N M1 (1)) fun M4 v5 => lt1 (uI M4 712 (a0) (v5)) fun M6 => some M6) else if v2 = 2 then ((F_X7_replayAccepted N M1 (a0)).bind fun M8 => some M8) else if v2 = 3 then (b2 (F_X8_takeFrom N M1 (1)) fun M10 v11 => (F_X10_learn N M10 (a0) (v11)).bind fun M12 => lt1 (uP M12 713 (a0) none) fun M13 => some M13) else if v2 = 4 then ((F_X10_takeFrom N M1 (a0) (1)).bind fun M15 => lt1 (uP M15 713 (a0) none) fun M16 => some M16) else if v2 = 5 then ((F_X10_takeOlderFrom N M1 (a0) (1)).bind fun M18 => some M18) else (some M1)

set_option maxRecDepth 100000 in
set_option maxHeartbeats 4000000 in
theorem p_X7_replay {N : Nat} {M : vC} {R : vC} {a0 : Nat} (ha0 : a0 < N) (h : F_X7_replay N M a0 = some R) {E : vE} {S0 : vS} {z x d0 : Nat} (hR : RC S0 z x N d0 M) : vi_Met E yX7_replay cX7_replay 1 none 5 2 22 [.ref (ad z x 7 (a0))] S0 (cz M) (D0 S0 z x N d0 R) := by
  refine vi_met (by decide) (Nat.le_of_ble_eq_true rfl) ?_
  intro X C
  have hF := cF.refl S0 z x N d0
  unfold F_X7_replay at h
  refine vi_aload_n C dX7_replay_0 rfl rfl ?_
  refine c_gets (f := 710) (k := 7) (i := a0) C dX7_replay_1 rfl fX7_62 rfl (by decide) rfl hR ha0 rfl ?_
  refine c_cv1 (kc := 0) (a := (ad z x 0 (1))) C [] [] dX7_replay_4 rfl ivX7_162 imX0_take rfl rfl (rcK hR (show 1 < 3 from by decide)) hR hF h (fun _ e => p_X0_take (show 1 < 3 from by decide) e hR) rfl (Nat.le_of_ble_eq_true rfl) ⟨by decide, by decide⟩ ⟨by omega, by omega⟩ (fun S M1 v2 h hR hF => ?_)
  by_cases c7 : v2 = 1
  · replace h := iT c7 h
    refine vi_tswI (v := 1) (t' := 40) C c7 dX7_replay_7 (by decide) (by decide) rfl (by decide) ?_
    refine vi_aload_n C dX7_replay_40 rfl rfl ?_
    refine vi_aload_n C dX7_replay_41 rfl rfl ?_
    refine c_gets (f := 710) (k := 7) (i := a0) C dX7_replay_42 rfl fX7_62 rfl (by decide) rfl hR ha0 rfl ?_
    refine c_cv1 (kc := 0) (a := (ad z x 0 (1))) C [] [.ref (ad z x 7 (a0))] dX7_replay_45 rfl ivX7_167 imX0_takeU rfl rfl (rcK hR (show 1 < 3 from by decide)) hR hF h (fun _ e => p_X0_takeU (show 1 < 3 from by decide) e hR) rfl (Nat.le_of_ble_eq_true rfl) ⟨by decide, by decide⟩ ⟨by omega, by omega⟩ (fun S M4 v5 h hR hF => ?_)
    refine c_puti (f := 712) (k := 7) (i := a0) C dX7_replay_48 rfl (fpX7_78 _) rfl (by decide) rfl hR hF ha0 h (fun S M6 h hR hF => ?_)
    refine vi_goto (t' := 116) C dX7_replay_51 (by decide) ?_
    exact c_ret0 C dX7_replay_116 rfl hR hF ⟨Nat.zero_le _, Nat.zero_le _⟩ h
  replace h := iN c7 h
  by_cases c9 : v2 = 2
  · replace h := iT c9 h
    refine vi_tswI (v := 2) (t' := 54) C c9 dX7_replay_7 (by decide) (by decide) rfl (by decide) ?_
    refine vi_aload_n C dX7_replay_54 rfl rfl ?_
    refine c_cv0 (kc := 7) (a := (ad z x 7 (a0))) C [] [] dX7_replay_55 rfl ivX7_170 imX7_replayAccepted rfl rfl (rcK hR ha0) hR hF h (fun _ e => p_X7_replayAccepted ha0 e hR) rfl (Nat.le_of_ble_eq_true rfl) ⟨by decide, by decide⟩ ⟨by omega, by omega⟩ (fun S M8 h hR hF => ?_)
    refine vi_goto (t' := 116) C dX7_replay_58 (by decide) ?_
    exact c_ret0 C dX7_replay_116 rfl hR hF ⟨by omega, by omega⟩ h
  replace h := iN c9 h
  by_cases c14 : v2 = 3
  · replace h := iT c14 h
    refine vi_tswI (v := 3) (t' := 61) C c14 dX7_replay_7 (by decide) (by decide) rfl (by decide) ?_
    refine vi_aload_n C dX7_replay_61 rfl rfl ?_
    refine c_gets (f := 703) (k := 7) (i := a0) C dX7_replay_62 rfl fX7_46 rfl (by decide) rfl hR ha0 rfl ?_
    refine vi_aload_n C dX7_replay_65 rfl rfl ?_
    refine c_gets (f := 710) (k := 7) (i := a0) C dX7_replay_66 rfl fX7_62 rfl (by decide) rfl hR ha0 rfl ?_
    refine c_cs4 C [.ref (ad z x 0 (1))] [.ref (ad z x 10 (a0))] dX7_replay_69 rfl ivX7_173 isX8_takeFrom hR hF h (fun _ e => p_X8_takeFrom (show 1 < 3 from by decide) e hR) rfl (Nat.le_of_ble_eq_true rfl) ⟨by decide, by decide⟩ ⟨by omega, by omega⟩ (fun S M10 v11 h hR hF => ?_)
    refine c_cv0 (kc := 10) (a := (ad z x 10 (a0))) C [va_rf (v11)] [] dX7_replay_72 rfl ivX7_177 imX10_learn rfl rfl (rcK hR ha0) hR hF h (fun _ e => p_X10_learn ha0 e hR) rfl (Nat.le_of_ble_eq_true rfl) ⟨by decide, by decide⟩ ⟨by omega, by omega⟩ (fun S M12 h hR hF => ?_)
    refine vi_aload_n C dX7_replay_75 rfl rfl ?_
    refine vi_null C dX7_replay_76 rfl ?_
    refine c_putp (f := 713) (k := 7) (i := a0) (v := none) C dX7_replay_77 rfl (fpX7_81 _) rfl (by decide) rfl hR hF ha0 rfl h (fun S M13 h hR hF => ?_)
    refine vi_goto (t' := 116) C dX7_replay_80 (by decide) ?_
    exact c_ret0 C dX7_replay_116 rfl hR hF ⟨by omega, by omega⟩ h
  replace h := iN c14 h
  by_cases c17 : v2 = 4
  · replace h := iT c17 h
    refine vi_tswI (v := 4) (t' := 83) C c17 dX7_replay_7 (by decide) (by decide) rfl (by decide) ?_
    refine vi_aload_n C dX7_replay_83 rfl rfl ?_
    refine c_gets (f := 703) (k := 7) (i := a0) C dX7_replay_84 rfl fX7_46 rfl (by decide) rfl hR ha0 rfl ?_
    refine vi_aload_n C dX7_replay_87 rfl rfl ?_
    refine c_gets (f := 710) (k := 7) (i := a0) C dX7_replay_88 rfl fX7_62 rfl (by decide) rfl hR ha0 rfl ?_
    refine c_cv0 (kc := 10) (a := (ad z x 10 (a0))) C [.ref (ad z x 0 (1))] [] dX7_replay_91 rfl ivX7_181 imX10_takeFrom rfl rfl (rcK hR ha0) hR hF h (fun _ e => p_X10_takeFrom ha0 (show 1 < 3 from by decide) e hR) rfl (Nat.le_of_ble_eq_true rfl) ⟨by decide, by decide⟩ ⟨by omega, by omega⟩ (fun S M15 h hR hF => ?_)
    refine vi_aload_n C dX7_replay_94 rfl rfl ?_
    refine vi_null C dX7_replay_95 rfl ?_
    refine c_putp (f := 713) (k := 7) (i := a0) (v := none) C dX7_replay_96 rfl (fpX7_81 _) rfl (by decide) rfl hR hF ha0 rfl h (fun S M16 h hR hF => ?_)
    refine vi_goto (t' := 116) C dX7_replay_99 (by decide) ?_
    exact c_ret0 C dX7_replay_116 rfl hR hF ⟨Nat.zero_le _, Nat.zero_le _⟩ h
  replace h := iN c17 h
  by_cases c19 : v2 = 5
  · replace h := iT c19 h
    refine vi_tswI (v := 5) (t' := 102) C c19 dX7_replay_7 (by decide) (by decide) rfl (by decide) ?_
    refine vi_aload_n C dX7_replay_102 rfl rfl ?_
    refine c_gets (f := 703) (k := 7) (i := a0) C dX7_replay_103 rfl fX7_46 rfl (by decide) rfl hR ha0 rfl ?_
    refine vi_aload_n C dX7_replay_106 rfl rfl ?_
    refine c_gets (f := 710) (k := 7) (i := a0) C dX7_replay_107 rfl fX7_62 rfl (by decide) rfl hR ha0 rfl ?_
    refine c_cv0 (kc := 10) (a := (ad z x 10 (a0))) C [.ref (ad z x 0 (1))] [] dX7_replay_110 rfl ivX7_184 imX10_takeOlderFrom rfl rfl (rcK hR ha0) hR hF h (fun _ e => p_X10_takeOlderFrom ha0 (show 1 < 3 from by decide) e hR) rfl (Nat.le_of_ble_eq_true rfl) ⟨by decide, by decide⟩ ⟨by omega, by omega⟩ (fun S M18 h hR hF => ?_)
    refine vi_goto (t' := 116) C dX7_replay_113 (by decide) ?_
    exact c_ret0 C dX7_replay_116 rfl hR hF ⟨Nat.zero_le _, Nat.zero_le _⟩ h
  replace h := iN c19 h
  have tc7 := tne (w := 1) c7 (by decide)
  have tc9 := tne (w := 2) c9 (by decide)
  have tc14 := tne (w := 3) c14 (by decide)
  have tc17 := tne (w := 4) c17 (by decide)
  have tc19 := tne (w := 5) c19 (by decide)
  refine vi_tswO (t' := 116) C dX7_replay_7 (by omega) (by decide) ?_
  exact c_ret0 C dX7_replay_116 rfl hR hF ⟨Nat.zero_le _, Nat.zero_le _⟩ h

def L_X7_comeUp_13 {ρ : Type} (N : Nat) (l0 : Nat) (kx44 : vC → Option ρ) : Nat → vC → Int32 → Option ρ
  | 0, _, _ => none
  | f + 1, M, l1 => if (15872 : Int32) ≤ l1 then (kx44 M ) else (b2 (F_X2_readNext N M (l0) (1)) fun M3 v4 => if v4 = 0 then (kx44 M3 ) else ((F_X7_replay N M3 (l0)).bind fun M5 => L_X7_comeUp_13 N l0 kx44 f M5 ((l1 + (1)))))

def F_X7_comeUp (N : Nat) (M : vC) (a0 : Nat) : Option vC := (F_X7_forget N M (a0)).bind fun M1 => (F_X2_open N M1 (a0)).bind fun M2 => L_X7_comeUp_13 N (a0) (fun (M8 : vC)  => lt1 (uI M8 715 (a0) ((cI M8 712 (a0)))) fun M9 => lt1 (uI M9 205 (a0) ((-1 : Int32))) fun M10 => zb ((1 : Int32)) <| lt1 (uI M10 711 (a0) ((1 : Int32))) fun M11 => b2 (F_X7_checkpointIfDue N M11 (a0)) fun M12 v13 => some M12) 128 M2 ((0 : Int32))

set_option maxRecDepth 100000 in
set_option maxHeartbeats 4000000 in
theorem w_X7_comeUp_13 {E : vE} {X : vX} {S0 : vS} {z x N d0 : Nat} {ρ : Type} {R : ρ} {Z : State → Prop} {l0 : Nat} {kx44 : vC → Option ρ} (hl0 : l0 < N) (C : vi_C E X yX7_comeUp cX7_comeUp 2 none 6 256 2816 (45 * 6)) (hx44 : ∀ (M : vC) , kx44 M  = some R → ∀ S, RC S z x N d0 M → cF S0 S z x N d0 → vi_W E X 2 Z 44 [(0, .ref (ad z x 7 (l0)))] [] S (cz M) 256 2816) : ∀ (f : Nat) (M : vC) (l1 : Int32), L_X7_comeUp_13 N l0 kx44 f M l1 = some R → ∀ q n, q + 2 * f ≤ 256 → n + 22 * f ≤ 2816 → ∀ S, RC S z x N d0 M → cF S0 S z x N d0 → vi_W E X 2 Z 13 [(0, .ref (ad z x 7 (l0))), (1, .int (l1))] [] S (cz M) q n := by
  intro f
  induction f with
  | zero => intro M l1 h; cases h
  | succ f ih =>
    intro M l1 h q n hq1 hq2 S hR hF
    rw [L_X7_comeUp_13] at h
    refine vi_iload_n C dX7_comeUp_13 rfl rfl ?_
    refine vi_sipush (v := 15872) C dX7_comeUp_14 rfl (by decide) ?_
    refine vi_icmp_ge (t' := 44) C dX7_comeUp_17 rfl (by decide) (fun c7 => ?_) (fun c7 => ?_)
    · replace h := iT c7 h
      exact (vi_widen (by omega) (by omega) (vi_cut [(0, .ref (ad z x 7 (l0)))] ⟨rfl, trivial⟩ (hx44 _  h _ hR hF)))
    · replace h := iN c7 h
      refine vi_aload_n C dX7_comeUp_20 rfl rfl ?_
      refine c_gets (f := 704) (k := 7) (i := l0) C dX7_comeUp_21 rfl fX7_50 rfl (by decide) rfl hR hl0 rfl ?_
      refine vi_aload_n C dX7_comeUp_24 rfl rfl ?_
      refine c_gets (f := 710) (k := 7) (i := l0) C dX7_comeUp_25 rfl fX7_62 rfl (by decide) rfl hR hl0 rfl ?_
      refine c_cv1 (kc := 2) (a := (ad z x 2 (l0))) C [.ref (ad z x 0 (1))] [] dX7_comeUp_28 rfl ivX7_138 imX2_readNext rfl rfl (rcK hR hl0) hR hF h (fun _ e => p_X2_readNext hl0 (show 1 < 3 from by decide) e hR) rfl (Nat.le_of_ble_eq_true rfl) ⟨by decide, by decide⟩ ⟨by omega, by omega⟩ (fun S M3 v4 h hR hF => ?_)
      refine vi_if_eq (t' := 44) C dX7_comeUp_31 rfl (by decide) (fun c6 => ?_) (fun c6 => ?_)
      · replace h := iT c6 h
        exact (vi_widen (by omega) (by omega) (vi_cut [(0, .ref (ad z x 7 (l0)))] ⟨rfl, trivial⟩ (hx44 _  h _ hR hF)))
      · replace h := iN c6 h
        refine vi_aload_n C dX7_comeUp_34 rfl rfl ?_
        refine c_cv0 (kc := 7) (a := (ad z x 7 (l0))) C [] [] dX7_comeUp_35 rfl ivX7_142 imX7_replay rfl rfl (rcK hR hl0) hR hF h (fun _ e => p_X7_replay hl0 e hR) rfl (Nat.le_of_ble_eq_true rfl) ⟨by decide, by decide⟩ ⟨by omega, by omega⟩ (fun S M5 h hR hF => ?_)
        refine vi_iincv (v := 1) C dX7_comeUp_38 rfl rfl (by decide) (by decide) ?_
        refine vi_goto (t' := 13) C dX7_comeUp_41 (by decide) ?_
        exact vi_cut [(0, .ref (ad z x 7 (l0))), (1, .int ((l1 + (1))))] ⟨rfl, rfl, trivial⟩ (ih _ _ h _ _ (by omega) (by omega) _ hR hF)

set_option maxRecDepth 100000 in
set_option maxHeartbeats 4000000 in
theorem p_X7_comeUp {N : Nat} {M : vC} {R : vC} {a0 : Nat} (ha0 : a0 < N) (h : F_X7_comeUp N M a0 = some R) {E : vE} {S0 : vS} {z x d0 : Nat} (hR : RC S0 z x N d0 M) : vi_Met E yX7_comeUp cX7_comeUp 2 none 6 256 2816 [.ref (ad z x 7 (a0))] S0 (cz M) (D0 S0 z x N d0 R) := by
  refine vi_met (by decide) (Nat.le_of_ble_eq_true rfl) ?_
  intro X C
  have hF := cF.refl S0 z x N d0
  unfold F_X7_comeUp at h
  refine vi_aload_n C dX7_comeUp_0 rfl rfl ?_
  refine c_cv0 (kc := 7) (a := (ad z x 7 (a0))) C [] [] dX7_comeUp_1 rfl ivX7_130 imX7_forget rfl rfl (rcK hR ha0) hR hF h (fun _ e => p_X7_forget ha0 e hR) rfl (Nat.le_of_ble_eq_true rfl) ⟨by decide, by decide⟩ ⟨by omega, by omega⟩ (fun S M1 h hR hF => ?_)
  refine vi_aload_n C dX7_comeUp_4 rfl rfl ?_
  refine c_gets (f := 704) (k := 7) (i := a0) C dX7_comeUp_5 rfl fX7_50 rfl (by decide) rfl hR ha0 rfl ?_
  refine c_cv0 (kc := 2) (a := (ad z x 2 (a0))) C [] [] dX7_comeUp_8 rfl ivX7_133 imX2_open rfl rfl (rcK hR ha0) hR hF h (fun _ e => p_X2_open ha0 e hR) rfl (Nat.le_of_ble_eq_true rfl) ⟨by decide, by decide⟩ ⟨by omega, by omega⟩ (fun S M2 h hR hF => ?_)
  refine vi_iconst (v := 0) C dX7_comeUp_11 rfl (by decide) ?_
  refine vi_istore_n C dX7_comeUp_12 rfl (by decide) ?_
  refine vi_cut [(0, .ref (ad z x 7 (a0))), (1, .int ((0 : Int32)))] ⟨rfl, rfl, trivial⟩ (w_X7_comeUp_13 ha0 C ?_ _ _ _ h _ _ (by omega) (by omega) _ hR hF)
  · intro M8 h S hR hF
    refine vi_aload_n C dX7_comeUp_44 rfl rfl ?_
    refine vi_aload_n C dX7_comeUp_45 rfl rfl ?_
    refine c_geti (f := 712) (k := 7) (i := a0) C dX7_comeUp_46 rfl fX7_78 rfl (by decide) rfl hR ha0 ?_
    refine c_puti (f := 715) (k := 7) (i := a0) C dX7_comeUp_49 rfl (fpX7_97 _) rfl (by decide) rfl hR hF ha0 h (fun S M9 h hR hF => ?_)
    refine vi_aload_n C dX7_comeUp_52 rfl rfl ?_
    refine c_gets (f := 704) (k := 7) (i := a0) C dX7_comeUp_53 rfl fX7_50 rfl (by decide) rfl hR ha0 rfl ?_
    refine vi_iconst (v := -1) C dX7_comeUp_56 rfl (by decide) ?_
    refine c_puti (f := 205) (k := 2) (i := a0) C dX7_comeUp_57 rfl (fpX7_145 _) rfl (by decide) rfl hR hF ha0 h (fun S M10 h hR hF => ?_)
    refine vi_aload_n C dX7_comeUp_60 rfl rfl ?_
    refine vi_iconst (v := 1) C dX7_comeUp_61 rfl (by decide) ?_
    refine c_putz (f := 711) (k := 7) (i := a0) C dX7_comeUp_62 rfl (fpX7_32 _) rfl (by decide) rfl hR hF ha0 h (fun S M11 h hR hF => ?_)
    refine vi_aload_n C dX7_comeUp_65 rfl rfl ?_
    refine c_cv1 (kc := 7) (a := (ad z x 7 (a0))) C [] [] dX7_comeUp_66 rfl ivX7_148 imX7_checkpointIfDue rfl rfl (rcK hR ha0) hR hF h (fun _ e => p_X7_checkpointIfDue ha0 e hR) rfl (Nat.le_of_ble_eq_true rfl) ⟨by decide, by decide⟩ ⟨by omega, by omega⟩ (fun S M12 v13 h hR hF => ?_)
    refine vi_pop C dX7_comeUp_69 rfl rfl ?_
    exact c_ret0 C dX7_comeUp_70 rfl hR hF ⟨by omega, by omega⟩ h

def F_X7_note (N : Nat) (M : vC) (a0 : Nat) : Option (vC × Int32) := (F_X2_startImage N M (a0)).bind fun M1 => (F_X2_addRecord N M1 (a0) (1)).bind fun M2 => b2 (F_X2_writeNote N M2 (a0)) fun M3 v4 => if v4 = 0 then ((F_X7_goDown N M3 (a0)).bind fun M5 => zb ((0 : Int32)) (some (M5, (0 : Int32)))) else (zb ((1 : Int32)) (some (M3, (1 : Int32))))

set_option maxRecDepth 100000 in
set_option maxHeartbeats 4000000 in
theorem p_X7_note {N : Nat} {M : vC} {R : (vC × Int32)} {a0 : Nat} (ha0 : a0 < N) (h : F_X7_note N M a0 = some R) {E : vE} {S0 : vS} {z x d0 : Nat} (hR : RC S0 z x N d0 M) : vi_Met E yX7_note cX7_note 1 (some .boolean) 3 0 0 [.ref (ad z x 7 (a0))] S0 (cz M) (D1 S0 z x N d0 R) := by
  refine vi_met (by decide) (Nat.le_of_ble_eq_true rfl) ?_
  intro X C
  have hF := cF.refl S0 z x N d0
  unfold F_X7_note at h
  refine vi_aload_n C dX7_note_0 rfl rfl ?_
  refine c_gets (f := 704) (k := 7) (i := a0) C dX7_note_1 rfl fX7_50 rfl (by decide) rfl hR ha0 rfl ?_
  refine c_cv0 (kc := 2) (a := (ad z x 2 (a0))) C [] [] dX7_note_4 rfl ivX7_187 imX2_startImage rfl rfl (rcK hR ha0) hR hF h (fun _ e => p_X2_startImage ha0 e hR) rfl (Nat.le_of_ble_eq_true rfl) ⟨by decide, by decide⟩ ⟨Nat.le_refl _, Nat.le_refl _⟩ (fun S M1 h hR hF => ?_)
  refine vi_aload_n C dX7_note_7 rfl rfl ?_
  refine c_gets (f := 704) (k := 7) (i := a0) C dX7_note_8 rfl fX7_50 rfl (by decide) rfl hR ha0 rfl ?_
  refine vi_aload_n C dX7_note_11 rfl rfl ?_
  refine c_gets (f := 710) (k := 7) (i := a0) C dX7_note_12 rfl fX7_62 rfl (by decide) rfl hR ha0 rfl ?_
  refine c_cv0 (kc := 2) (a := (ad z x 2 (a0))) C [.ref (ad z x 0 (1))] [] dX7_note_15 rfl ivX7_190 imX2_addRecord rfl rfl (rcK hR ha0) hR hF h (fun _ e => p_X2_addRecord ha0 (show 1 < 3 from by decide) e hR) rfl (Nat.le_of_ble_eq_true rfl) ⟨by decide, by decide⟩ ⟨Nat.le_refl _, Nat.le_refl _⟩ (fun S M2 h hR hF => ?_)
  refine vi_aload_n C dX7_note_18 rfl rfl ?_
  refine c_gets (f := 704) (k := 7) (i := a0) C dX7_note_19 rfl fX7_50 rfl (by decide) rfl hR ha0 rfl ?_
  refine c_cv1 (kc := 2) (a := (ad z x 2 (a0))) C [] [] dX7_note_22 rfl ivX7_193 imX2_writeNote rfl rfl (rcK hR ha0) hR hF h (fun _ e => p_X2_writeNote ha0 e hR) rfl (Nat.le_of_ble_eq_true rfl) ⟨by decide, by decide⟩ ⟨Nat.le_refl _, Nat.le_refl _⟩ (fun S M3 v4 h hR hF => ?_)
  refine vi_if_eq (t' := 30) C dX7_note_25 rfl (by decide) (fun c6 => ?_) (fun c6 => ?_)
  · replace h := iT c6 h
    refine vi_aload_n C dX7_note_30 rfl rfl ?_
    refine c_cv0 (kc := 7) (a := (ad z x 7 (a0))) C [] [] dX7_note_31 rfl ivX7_196 imX7_goDown rfl rfl (rcK hR ha0) hR hF h (fun _ e => p_X7_goDown ha0 e hR) rfl (Nat.le_of_ble_eq_true rfl) ⟨by decide, by decide⟩ ⟨Nat.le_refl _, Nat.le_refl _⟩ (fun S M5 h hR hF => ?_)
    refine vi_iconst (v := 0) C dX7_note_34 rfl (by decide) ?_
    exact c_retz C dX7_note_35 rfl hR hF ⟨Nat.zero_le _, Nat.zero_le _⟩ h
  · replace h := iN c6 h
    refine vi_iconst (v := 1) C dX7_note_28 rfl (by decide) ?_
    exact c_retz C dX7_note_29 rfl hR hF ⟨Nat.zero_le _, Nat.zero_le _⟩ h

def F_X7_promise (N : Nat) (M : vC) (a0 : Nat) (a1 : Int32) : Option (vC × Int32) := (F_X7_startPayload N M (a0) ((1 : Int32))).bind fun M1 => (F_X0_putU N M1 (1) (a1)).bind fun M2 => b2 (F_X7_note N M2 (a0)) fun M3 v4 => if v4 = 0 then (zb ((0 : Int32)) (some (M3, (0 : Int32)))) else (lt1 (uI M3 712 (a0) (a1)) fun M5 => b2 (F_X7_checkpointIfDue N M5 (a0)) fun M6 v7 => zb (v7) (some (M6, v7)))

set_option maxRecDepth 100000 in
set_option maxHeartbeats 4000000 in
theorem p_X7_promise {N : Nat} {M : vC} {R : (vC × Int32)} {a0 : Nat} {a1 : Int32} (ha0 : a0 < N) (h : F_X7_promise N M a0 a1 = some R) {E : vE} {S0 : vS} {z x d0 : Nat} (hR : RC S0 z x N d0 M) : vi_Met E yX7_promise cX7_promise 2 (some .boolean) 4 0 0 [.ref (ad z x 7 (a0)), .int (a1)] S0 (cz M) (D1 S0 z x N d0 R) := by
  refine vi_met (by decide) (Nat.le_of_ble_eq_true rfl) ?_
  intro X C
  have hF := cF.refl S0 z x N d0
  unfold F_X7_promise at h
  refine vi_aload_n C dX7_promise_0 rfl rfl ?_
  refine vi_iconst (v := 1) C dX7_promise_1 rfl (by decide) ?_
  refine c_cv0 (kc := 7) (a := (ad z x 7 (a0))) C [.int ((1 : Int32))] [] dX7_promise_2 rfl ivX7_202 imX7_startPayload rfl rfl (rcK hR ha0) hR hF h (fun _ e => p_X7_startPayload ha0 e hR) rfl (Nat.le_of_ble_eq_true rfl) ⟨by decide, by decide⟩ ⟨Nat.le_refl _, Nat.le_refl _⟩ (fun S M1 h hR hF => ?_)
  refine vi_aload_n C dX7_promise_5 rfl rfl ?_
  refine c_gets (f := 710) (k := 7) (i := a0) C dX7_promise_6 rfl fX7_62 rfl (by decide) rfl hR ha0 rfl ?_
  refine vi_iload_n C dX7_promise_9 rfl rfl ?_
  refine c_cv0 (kc := 0) (a := (ad z x 0 (1))) C [.int (a1)] [] dX7_promise_10 rfl ivX7_212 imX0_putU rfl rfl (rcK hR (show 1 < 3 from by decide)) hR hF h (fun _ e => p_X0_putU (show 1 < 3 from by decide) e hR) rfl (Nat.le_of_ble_eq_true rfl) ⟨by decide, by decide⟩ ⟨Nat.le_refl _, Nat.le_refl _⟩ (fun S M2 h hR hF => ?_)
  refine vi_aload_n C dX7_promise_13 rfl rfl ?_
  refine c_cv1 (kc := 7) (a := (ad z x 7 (a0))) C [] [] dX7_promise_14 rfl ivX7_236 imX7_note rfl rfl (rcK hR ha0) hR hF h (fun _ e => p_X7_note ha0 e hR) rfl (Nat.le_of_ble_eq_true rfl) ⟨by decide, by decide⟩ ⟨Nat.le_refl _, Nat.le_refl _⟩ (fun S M3 v4 h hR hF => ?_)
  refine vi_if_ne (t' := 22) C dX7_promise_17 rfl (by decide) (fun c8 => ?_) (fun c8 => ?_)
  · replace h := iN c8 h
    refine vi_aload_n C dX7_promise_22 rfl rfl ?_
    refine vi_iload_n C dX7_promise_23 rfl rfl ?_
    refine c_puti (f := 712) (k := 7) (i := a0) C dX7_promise_24 rfl (fpX7_78 _) rfl (by decide) rfl hR hF ha0 h (fun S M5 h hR hF => ?_)
    refine vi_aload_n C dX7_promise_27 rfl rfl ?_
    refine c_cv1 (kc := 7) (a := (ad z x 7 (a0))) C [] [] dX7_promise_28 rfl ivX7_148 imX7_checkpointIfDue rfl rfl (rcK hR ha0) hR hF h (fun _ e => p_X7_checkpointIfDue ha0 e hR) rfl (Nat.le_of_ble_eq_true rfl) ⟨by decide, by decide⟩ ⟨Nat.le_refl _, Nat.le_refl _⟩ (fun S M6 v7 h hR hF => ?_)
    exact c_retz C dX7_promise_31 rfl hR hF ⟨Nat.zero_le _, Nat.zero_le _⟩ h
  · replace h := iT c8 h
    refine vi_iconst (v := 0) C dX7_promise_20 rfl (by decide) ?_
    exact c_retz C dX7_promise_21 rfl hR hF ⟨Nat.zero_le _, Nat.zero_le _⟩ h

def F_X7_accept (N : Nat) (M : vC) (a0 : Nat) (a1 : Option Nat) (a2 : Int32) : Option (vC × Int32) := (F_X7_startPayload N M (a0) ((2 : Int32))).bind fun M1 => (F_X0_putU N M1 (1) (a2)).bind fun M2 => (F_X0_putU N M2 (1) (((cI M2 1007 (a0)) + (1 : Int32)))).bind fun M3 => (a1).bind fun o4 => gd (cK M3 (o4) = 9) <| (F_X8_writeTo N M3 (o4) (1)).bind fun M6 => b2 (F_X7_note N M6 (a0)) fun M7 v8 => if v8 = 0 then (zb ((0 : Int32)) (some (M7, (0 : Int32)))) else (lt1 (uI M7 712 (a0) (a2)) fun M9 => lt1 (uP M9 713 (a0) (some (o4))) fun M10 => lt1 (uI M10 714 (a0) (a2)) fun M11 => b2 (F_X7_checkpointIfDue N M11 (a0)) fun M12 v13 => zb (v13) (some (M12, v13)))

set_option maxRecDepth 100000 in
set_option maxHeartbeats 4000000 in
theorem p_X7_accept {N : Nat} {M : vC} {R : (vC × Int32)} {a0 : Nat} {a1 : Option Nat} {a2 : Int32} (ha0 : a0 < N) (h : F_X7_accept N M a0 a1 a2 = some R) {E : vE} {S0 : vS} {z x d0 : Nat} (hR : RC S0 z x N d0 M) : vi_Met E yX7_accept cX7_accept 3 (some .boolean) 4 0 0 [.ref (ad z x 7 (a0)), va_rf (a1), .int (a2)] S0 (cz M) (D1 S0 z x N d0 R) := by
  refine vi_met (by decide) (by cases a1 <;> exact Nat.le_of_ble_eq_true rfl) ?_
  intro X C
  rw [show lv_args 0 [.ref (ad z x 7 (a0)), va_rf (a1), .int (a2)] = [(0, .ref (ad z x 7 (a0))), (1, va_rf (a1)), (2, .int (a2))] from by cases a1 <;> rfl]
  have hF := cF.refl S0 z x N d0
  unfold F_X7_accept at h
  refine vi_aload_n C dX7_accept_0 rfl rfl ?_
  refine vi_iconst (v := 2) C dX7_accept_1 rfl (by decide) ?_
  refine c_cv0 (kc := 7) (a := (ad z x 7 (a0))) C [.int ((2 : Int32))] [] dX7_accept_2 rfl ivX7_202 imX7_startPayload rfl rfl (rcK hR ha0) hR hF h (fun _ e => p_X7_startPayload ha0 e hR) rfl (Nat.le_of_ble_eq_true rfl) ⟨by decide, by decide⟩ ⟨Nat.le_refl _, Nat.le_refl _⟩ (fun S M1 h hR hF => ?_)
  refine vi_aload_n C dX7_accept_5 rfl rfl ?_
  refine c_gets (f := 710) (k := 7) (i := a0) C dX7_accept_6 rfl fX7_62 rfl (by decide) rfl hR ha0 rfl ?_
  refine vi_iload_n C dX7_accept_9 rfl rfl ?_
  refine c_cv0 (kc := 0) (a := (ad z x 0 (1))) C [.int (a2)] [] dX7_accept_10 rfl ivX7_212 imX0_putU rfl rfl (rcK hR (show 1 < 3 from by decide)) hR hF h (fun _ e => p_X0_putU (show 1 < 3 from by decide) e hR) rfl (Nat.le_of_ble_eq_true rfl) ⟨by decide, by decide⟩ ⟨Nat.le_refl _, Nat.le_refl _⟩ (fun S M2 h hR hF => ?_)
  refine vi_aload_n C dX7_accept_13 rfl rfl ?_
  refine c_gets (f := 710) (k := 7) (i := a0) C dX7_accept_14 rfl fX7_62 rfl (by decide) rfl hR ha0 rfl ?_
  refine vi_aload_n C dX7_accept_17 rfl rfl ?_
  refine c_gets (f := 703) (k := 7) (i := a0) C dX7_accept_18 rfl fX7_46 rfl (by decide) rfl hR ha0 rfl ?_
  refine c_geti (f := 1007) (k := 10) (i := a0) C dX7_accept_21 rfl fX7_66 rfl (by decide) rfl hR ha0 ?_
  refine vi_iconst (v := 1) C dX7_accept_24 rfl (by decide) ?_
  refine vi_iadd C dX7_accept_25 rfl ?_
  refine c_cv0 (kc := 0) (a := (ad z x 0 (1))) C [.int (((cI M2 1007 (a0)) + (1 : Int32)))] [] dX7_accept_26 rfl ivX7_212 imX0_putU rfl rfl (rcK hR (show 1 < 3 from by decide)) hR hF h (fun _ e => p_X0_putU (show 1 < 3 from by decide) e hR) rfl (Nat.le_of_ble_eq_true rfl) ⟨by decide, by decide⟩ ⟨Nat.le_refl _, Nat.le_refl _⟩ (fun S M3 h hR hF => ?_)
  refine vi_aload_nq (o := (a1)) C dX7_accept_29 rfl rfl ?_
  refine vi_aload_n C dX7_accept_30 rfl rfl ?_
  refine c_gets (f := 710) (k := 7) (i := a0) C dX7_accept_31 rfl fX7_62 rfl (by decide) rfl hR ha0 rfl ?_
  obtain ⟨o4, rfl, hh⟩ := bdo h
  replace h := hh
  clear hh
  obtain ⟨c5, h⟩ := gdo h
  refine c_cv0 (kc := 8) (a := (o4)) C [.ref (ad z x 0 (1))] [] dX7_accept_34 rfl ivX7_215 imX8_writeTo rfl rfl (rcKD hR c5) hR hF h (fun _ e => p_X8_writeTo (show 1 < 3 from by decide) e hR) rfl (Nat.le_of_ble_eq_true rfl) ⟨by decide, by decide⟩ ⟨Nat.le_refl _, Nat.le_refl _⟩ (fun S M6 h hR hF => ?_)
  refine vi_aload_n C dX7_accept_37 rfl rfl ?_
  refine c_cv1 (kc := 7) (a := (ad z x 7 (a0))) C [] [] dX7_accept_38 rfl ivX7_236 imX7_note rfl rfl (rcK hR ha0) hR hF h (fun _ e => p_X7_note ha0 e hR) rfl (Nat.le_of_ble_eq_true rfl) ⟨by decide, by decide⟩ ⟨Nat.le_refl _, Nat.le_refl _⟩ (fun S M7 v8 h hR hF => ?_)
  refine vi_if_ne (t' := 46) C dX7_accept_41 rfl (by decide) (fun c14 => ?_) (fun c14 => ?_)
  · replace h := iN c14 h
    refine vi_aload_n C dX7_accept_46 rfl rfl ?_
    refine vi_iload_n C dX7_accept_47 rfl rfl ?_
    refine c_puti (f := 712) (k := 7) (i := a0) C dX7_accept_48 rfl (fpX7_78 _) rfl (by decide) rfl hR hF ha0 h (fun S M9 h hR hF => ?_)
    refine vi_aload_n C dX7_accept_51 rfl rfl ?_
    refine vi_aload_n C dX7_accept_52 rfl rfl ?_
    refine c_putp (f := 713) (k := 7) (i := a0) (v := (some (o4))) C dX7_accept_53 rfl (fpX7_81 _) rfl (by decide) rfl hR hF ha0 rfl h (fun S M10 h hR hF => ?_)
    refine vi_aload_n C dX7_accept_56 rfl rfl ?_
    refine vi_iload_n C dX7_accept_57 rfl rfl ?_
    refine c_puti (f := 714) (k := 7) (i := a0) C dX7_accept_58 rfl (fpX7_85 _) rfl (by decide) rfl hR hF ha0 h (fun S M11 h hR hF => ?_)
    refine vi_aload_n C dX7_accept_61 rfl rfl ?_
    refine c_cv1 (kc := 7) (a := (ad z x 7 (a0))) C [] [] dX7_accept_62 rfl ivX7_148 imX7_checkpointIfDue rfl rfl (rcK hR ha0) hR hF h (fun _ e => p_X7_checkpointIfDue ha0 e hR) rfl (Nat.le_of_ble_eq_true rfl) ⟨by decide, by decide⟩ ⟨Nat.le_refl _, Nat.le_refl _⟩ (fun S M12 v13 h hR hF => ?_)
    exact c_retz C dX7_accept_65 rfl hR hF ⟨Nat.zero_le _, Nat.zero_le _⟩ h
  · replace h := iT c14 h
    refine vi_iconst (v := 0) C dX7_accept_44 rfl (by decide) ?_
    exact c_retz C dX7_accept_45 rfl hR hF ⟨Nat.zero_le _, Nat.zero_le _⟩ h

def F_X9_endBy (N : Nat) (M : vC) (a0 : Nat) (a1 : Int32) : Option vC := if a1 = (1 : Int32) then ((F_X9_end N M (a0) ((3 : Int32))).bind fun M2 => some M2) else ((F_X9_end N M (a0) ((4 : Int32))).bind fun M1 => some M1)

set_option maxRecDepth 100000 in
set_option maxHeartbeats 4000000 in
theorem p_X9_endBy {N : Nat} {M : vC} {R : vC} {a0 : Nat} {a1 : Int32} (ha0 : a0 < 16) (h : F_X9_endBy N M a0 a1 = some R) {E : vE} {S0 : vS} {z x d0 : Nat} (hR : RC S0 z x N d0 M) : vi_Met E yX9_endBy cX9_endBy 2 none 1 0 0 [.ref (ad z x 9 (a0)), .int (a1)] S0 (cz M) (D0 S0 z x N d0 R) := by
  refine vi_met (by decide) (Nat.le_of_ble_eq_true rfl) ?_
  intro X C
  have hF := cF.refl S0 z x N d0
  unfold F_X9_endBy at h
  refine vi_aload_n C dX9_endBy_0 rfl rfl ?_
  refine vi_iload_n C dX9_endBy_1 rfl rfl ?_
  refine vi_iconst (v := 1) C dX9_endBy_2 rfl (by decide) ?_
  refine vi_icmp_ne (t' := 10) C dX9_endBy_3 rfl (by decide) (fun c3 => ?_) (fun c3 => ?_)
  · replace h := iN c3 h
    refine vi_iconst (v := 4) C dX9_endBy_10 rfl (by decide) ?_
    refine c_cv0 (kc := 9) (a := (ad z x 9 (a0))) C [.int ((4 : Int32))] [] dX9_endBy_11 rfl ivX9_62 imX9_end rfl rfl (rcK hR ha0) hR hF h (fun _ e => p_X9_end ha0 e hR) rfl (Nat.le_of_ble_eq_true rfl) ⟨by decide, by decide⟩ ⟨Nat.le_refl _, Nat.le_refl _⟩ (fun S M1 h hR hF => ?_)
    exact c_ret0 C dX9_endBy_14 rfl hR hF ⟨Nat.zero_le _, Nat.zero_le _⟩ h
  · replace h := iT c3 h
    refine vi_iconst (v := 3) C dX9_endBy_6 rfl (by decide) ?_
    refine vi_goto (t' := 11) C dX9_endBy_7 (by decide) ?_
    refine c_cv0 (kc := 9) (a := (ad z x 9 (a0))) C [.int ((3 : Int32))] [] dX9_endBy_11 rfl ivX9_62 imX9_end rfl rfl (rcK hR ha0) hR hF h (fun _ e => p_X9_end ha0 e hR) rfl (Nat.le_of_ble_eq_true rfl) ⟨by decide, by decide⟩ ⟨Nat.le_refl _, Nat.le_refl _⟩ (fun S M2 h hR hF => ?_)
    exact c_ret0 C dX9_endBy_14 rfl hR hF ⟨Nat.zero_le _, Nat.zero_le _⟩ h

def L_X7_tellAll_31 {ρ : Type} (N : Nat) (l0 : Nat) (kx98 : vC → Option ρ) : Nat → vC → Int32 → Option ρ
  | 0, _, _ => none
  | f + 1, M, l1 => if (16 : Int32) ≤ l1 then (kx98 M ) else ((ix 16 (l1)).bind fun v6 => if (cI M 901 (v6)) = (2 : Int32) then (if (cI M 903 (v6)) = (cI M 700 (l0)) then ((cG M 1002 (l0) (l1)).bind fun v8 => if (cI M 902 (v6)) = v8 then ((cG M 1003 (l0) (l1)).bind fun v9 => (F_X9_endBy N M (v6) (v9)).bind fun M10 => L_X7_tellAll_31 N l0 kx98 f M10 ((l1 + (1)))) else (L_X7_tellAll_31 N l0 kx98 f M ((l1 + (1))))) else (L_X7_tellAll_31 N l0 kx98 f M ((l1 + (1))))) else (L_X7_tellAll_31 N l0 kx98 f M ((l1 + (1)))))

def F_X7_tellAll (N : Nat) (M : vC) (a0 : Nat) : Option vC := lt1 (uI M 716 (a0) ((0 : Int32))) fun M1 => jn (fun (M5 : vC) => L_X7_tellAll_31 N (a0) (fun (M15 : vC)  => (F_X6_dropDecided N M15 (a0) (a0)).bind fun M16 => some M16) fu M5 ((0 : Int32))) (fun k29_2 => if (cI M1 1007 (a0)) < (cI M1 501 (a0)) then ((k29_2 (M1))) else ((F_X5_drop N M1 (a0)).bind fun M3 => (k29_2 (M3))))

set_option maxRecDepth 100000 in
set_option maxHeartbeats 4000000 in
theorem w_X7_tellAll_31 {E : vE} {X : vX} {S0 : vS} {z x N d0 : Nat} {ρ : Type} {R : ρ} {Z : State → Prop} {l0 : Nat} {kx98 : vC → Option ρ} (hl0 : l0 < N) (C : vi_C E X yX7_tellAll cX7_tellAll 3 none 2 0 0 (45 * 2)) (hx98 : ∀ (M : vC) , kx98 M  = some R → ∀ S, RC S z x N d0 M → cF S0 S z x N d0 → vi_W E X 3 Z 98 [(0, .ref (ad z x 7 (l0)))] [] S (cz M) 0 0) : ∀ (f : Nat) (M : vC) (l1 : Int32), L_X7_tellAll_31 N l0 kx98 f M l1 = some R → ∀ S, RC S z x N d0 M → cF S0 S z x N d0 → vi_W E X 3 Z 31 [(0, .ref (ad z x 7 (l0))), (1, .int (l1))] [] S (cz M) 0 0 := by
  intro f
  induction f with
  | zero => intro M l1 h; cases h
  | succ f ih =>
    intro M l1 h S hR hF
    rw [L_X7_tellAll_31] at h
    refine vi_iload_n C dX7_tellAll_31 rfl rfl ?_
    refine vi_bipush (v := 16) C dX7_tellAll_32 rfl (by decide) ?_
    refine vi_icmp_ge (t' := 98) C dX7_tellAll_34 rfl (by decide) (fun c14 => ?_) (fun c14 => ?_)
    · replace h := iT c14 h
      exact (vi_cut [(0, .ref (ad z x 7 (l0)))] ⟨rfl, trivial⟩ (hx98 _  h _ hR hF))
    · replace h := iN c14 h
      refine vi_aload_n C dX7_tellAll_37 rfl rfl ?_
      refine c_gets (f := 709) (k := 7) (i := l0) C dX7_tellAll_38 rfl fX7_58 rfl (by decide) rfl hR hl0 rfl ?_
      refine vi_iload_n C dX7_tellAll_41 rfl rfl ?_
      refine c_aaloadS C dX7_tellAll_42 rfl hR h (fun v6 c7 h => ?_)
      refine vi_astore_n C dX7_tellAll_43 rfl (by decide) ?_
      refine vi_aload_n C dX7_tellAll_44 rfl rfl ?_
      refine c_geti (f := 901) (k := 9) (i := v6) C dX7_tellAll_45 rfl fX7_118 rfl (by decide) rfl hR c7 ?_
      refine vi_iconst (v := 2) C dX7_tellAll_48 rfl (by decide) ?_
      refine vi_icmp_ne (t' := 92) C dX7_tellAll_49 rfl (by decide) (fun c13 => ?_) (fun c13 => ?_)
      · replace h := iN c13 h
        refine vi_iincv (v := 1) C dX7_tellAll_92 rfl rfl (by decide) (by decide) ?_
        refine vi_goto (t' := 31) C dX7_tellAll_95 (by decide) ?_
        exact vi_cut [(0, .ref (ad z x 7 (l0))), (1, .int ((l1 + (1))))] ⟨rfl, rfl, trivial⟩ (ih _ _ h _ hR hF)
      · replace h := iT c13 h
        refine vi_aload_n C dX7_tellAll_52 rfl rfl ?_
        refine c_geti (f := 903) (k := 9) (i := v6) C dX7_tellAll_53 rfl fX7_123 rfl (by decide) rfl hR c7 ?_
        refine vi_aload_n C dX7_tellAll_56 rfl rfl ?_
        refine c_geti (f := 700) (k := 7) (i := l0) C dX7_tellAll_57 rfl fX7_36 rfl (by decide) rfl hR hl0 ?_
        refine vi_icmp_ne (t' := 92) C dX7_tellAll_60 rfl (by decide) (fun c12 => ?_) (fun c12 => ?_)
        · replace h := iN c12 h
          refine vi_iincv (v := 1) C dX7_tellAll_92 rfl rfl (by decide) (by decide) ?_
          refine vi_goto (t' := 31) C dX7_tellAll_95 (by decide) ?_
          exact vi_cut [(0, .ref (ad z x 7 (l0))), (1, .int ((l1 + (1))))] ⟨rfl, rfl, trivial⟩ (ih _ _ h _ hR hF)
        · replace h := iT c12 h
          refine vi_aload_n C dX7_tellAll_63 rfl rfl ?_
          refine c_geti (f := 902) (k := 9) (i := v6) C dX7_tellAll_64 rfl fX7_245 rfl (by decide) rfl hR c7 ?_
          refine vi_aload_n C dX7_tellAll_67 rfl rfl ?_
          refine c_gets (f := 703) (k := 7) (i := l0) C dX7_tellAll_68 rfl fX7_46 rfl (by decide) rfl hR hl0 rfl ?_
          refine c_gets (f := 1002) (k := 10) (i := l0) C dX7_tellAll_71 rfl fX7_248 rfl (by decide) rfl hR hl0 rfl ?_
          refine vi_iload_n C dX7_tellAll_74 rfl rfl ?_
          refine c_iaload C dX7_tellAll_75 rfl rfl hR ⟨hl0, by decide⟩ h (fun v8 h => ?_)
          refine vi_icmp_ne (t' := 92) C dX7_tellAll_76 rfl (by decide) (fun c11 => ?_) (fun c11 => ?_)
          · replace h := iN c11 h
            refine vi_iincv (v := 1) C dX7_tellAll_92 rfl rfl (by decide) (by decide) ?_
            refine vi_goto (t' := 31) C dX7_tellAll_95 (by decide) ?_
            exact vi_cut [(0, .ref (ad z x 7 (l0))), (1, .int ((l1 + (1))))] ⟨rfl, rfl, trivial⟩ (ih _ _ h _ hR hF)
          · replace h := iT c11 h
            refine vi_aload_n C dX7_tellAll_79 rfl rfl ?_
            refine vi_aload_n C dX7_tellAll_80 rfl rfl ?_
            refine c_gets (f := 703) (k := 7) (i := l0) C dX7_tellAll_81 rfl fX7_46 rfl (by decide) rfl hR hl0 rfl ?_
            refine c_gets (f := 1003) (k := 10) (i := l0) C dX7_tellAll_84 rfl fX7_252 rfl (by decide) rfl hR hl0 rfl ?_
            refine vi_iload_n C dX7_tellAll_87 rfl rfl ?_
            refine c_iaload C dX7_tellAll_88 rfl rfl hR ⟨hl0, by decide⟩ h (fun v9 h => ?_)
            refine c_cv0 (kc := 9) (a := (ad z x 9 (v6))) C [.int (v9)] [] dX7_tellAll_89 rfl ivX7_255 imX9_endBy rfl rfl (rcK hR c7) hR hF h (fun _ e => p_X9_endBy c7 e hR) rfl (Nat.le_of_ble_eq_true rfl) ⟨by decide, by decide⟩ ⟨Nat.le_refl _, Nat.le_refl _⟩ (fun S M10 h hR hF => ?_)
            refine vi_iincv (v := 1) C dX7_tellAll_92 rfl rfl (by decide) (by decide) ?_
            refine vi_goto (t' := 31) C dX7_tellAll_95 (by decide) ?_
            exact vi_cut [(0, .ref (ad z x 7 (l0))), (1, .int ((l1 + (1))))] ⟨rfl, rfl, trivial⟩ (ih _ _ h _ hR hF)

set_option maxRecDepth 100000 in
set_option maxHeartbeats 4000000 in
theorem p_X7_tellAll {N : Nat} {M : vC} {R : vC} {a0 : Nat} (ha0 : a0 < N) (h : F_X7_tellAll N M a0 = some R) {E : vE} {S0 : vS} {z x d0 : Nat} (hR : RC S0 z x N d0 M) : vi_Met E yX7_tellAll cX7_tellAll 3 none 2 0 0 [.ref (ad z x 7 (a0))] S0 (cz M) (D0 S0 z x N d0 R) := by
  refine vi_met (by decide) (Nat.le_of_ble_eq_true rfl) ?_
  intro X C
  have hF := cF.refl S0 z x N d0
  unfold F_X7_tellAll at h
  refine vi_aload_n C dX7_tellAll_0 rfl rfl ?_
  refine vi_iconst (v := 0) C dX7_tellAll_1 rfl (by decide) ?_
  refine c_puti (f := 716) (k := 7) (i := a0) C dX7_tellAll_2 rfl (fpX7_111 _) rfl (by decide) rfl hR hF ha0 h (fun S M1 h hR hF => ?_)
  refine vi_aload_n C dX7_tellAll_5 rfl rfl ?_
  refine c_gets (f := 706) (k := 7) (i := a0) C dX7_tellAll_6 rfl fX7_21 rfl (by decide) rfl hR ha0 rfl ?_
  refine c_geti (f := 501) (k := 5) (i := a0) C dX7_tellAll_9 rfl fX7_114 rfl (by decide) rfl hR ha0 ?_
  refine vi_aload_n C dX7_tellAll_12 rfl rfl ?_
  refine c_gets (f := 703) (k := 7) (i := a0) C dX7_tellAll_13 rfl fX7_46 rfl (by decide) rfl hR ha0 rfl ?_
  refine c_geti (f := 1007) (k := 10) (i := a0) C dX7_tellAll_16 rfl fX7_66 rfl (by decide) rfl hR ha0 ?_
  refine r_jn h (fun k => ∀ (M5 : vC), k M5 = some R → ∀ S, RC S z x N d0 M5 → cF S0 S z x N d0 → vi_W E X 3 (vi_Z E X (D0 S0 z x N d0 R) 0 0) 29 [(0, .ref (ad z x 7 (a0)))] [] S (cz M5) 0 0) ?_ ?_
  · intro M5 h S hR hF
    refine vi_iconst (v := 0) C dX7_tellAll_29 rfl (by decide) ?_
    refine vi_istore_n C dX7_tellAll_30 rfl (by decide) ?_
    refine vi_cut [(0, .ref (ad z x 7 (a0))), (1, .int ((0 : Int32)))] ⟨rfl, rfl, trivial⟩ (w_X7_tellAll_31 ha0 C ?_ _ _ _ h _ hR hF)
    · intro M15 h S hR hF
      refine vi_aload_n C dX7_tellAll_98 rfl rfl ?_
      refine c_gets (f := 705) (k := 7) (i := a0) C dX7_tellAll_99 rfl fX7_12 rfl (by decide) rfl hR ha0 rfl ?_
      refine vi_aload_n C dX7_tellAll_102 rfl rfl ?_
      refine c_gets (f := 703) (k := 7) (i := a0) C dX7_tellAll_103 rfl fX7_46 rfl (by decide) rfl hR ha0 rfl ?_
      refine c_cv0 (kc := 6) (a := (ad z x 6 (a0))) C [.ref (ad z x 10 (a0))] [] dX7_tellAll_106 rfl ivX7_258 imX6_dropDecided rfl rfl (rcK hR ha0) hR hF h (fun _ e => p_X6_dropDecided ha0 ha0 e hR) rfl (Nat.le_of_ble_eq_true rfl) ⟨by decide, by decide⟩ ⟨Nat.le_refl _, Nat.le_refl _⟩ (fun S M16 h hR hF => ?_)
      exact c_ret0 C dX7_tellAll_109 rfl hR hF ⟨Nat.zero_le _, Nat.zero_le _⟩ h
  · intro k29_2 h29_2 h
    refine vi_icmp_gt (t' := 29) C dX7_tellAll_19 rfl (by decide) (fun c4 => ?_) (fun c4 => ?_)
    · replace h := iT c4 h
      exact (vi_cut [(0, .ref (ad z x 7 (a0)))] ⟨rfl, trivial⟩ (h29_2 _ h _ hR hF))
    · replace h := iN c4 h
      refine vi_aload_n C dX7_tellAll_22 rfl rfl ?_
      refine c_gets (f := 706) (k := 7) (i := a0) C dX7_tellAll_23 rfl fX7_21 rfl (by decide) rfl hR ha0 rfl ?_
      refine c_cv0 (kc := 5) (a := (ad z x 5 (a0))) C [] [] dX7_tellAll_26 rfl ivX7_156 imX5_drop rfl rfl (rcK hR ha0) hR hF h (fun _ e => p_X5_drop ha0 e hR) rfl (Nat.le_of_ble_eq_true rfl) ⟨by decide, by decide⟩ ⟨Nat.le_refl _, Nat.le_refl _⟩ (fun S M3 h hR hF => ?_)
      exact (vi_cut [(0, .ref (ad z x 7 (a0)))] ⟨rfl, trivial⟩ (h29_2 _ h _ hR hF))

def F_X7_learn (N : Nat) (M : vC) (a0 : Nat) (a1 : Option Nat) : Option (vC × Int32) := (F_X7_startPayload N M (a0) ((3 : Int32))).bind fun M1 => (a1).bind fun o2 => gd (cK M1 (o2) = 9) <| (F_X8_writeTo N M1 (o2) (1)).bind fun M4 => b2 (F_X7_note N M4 (a0)) fun M5 v6 => if v6 = 0 then (zb ((0 : Int32)) (some (M5, (0 : Int32)))) else ((F_X10_learn N M5 (a0) (some (o2))).bind fun M7 => lt1 (uP M7 713 (a0) none) fun M8 => b2 (F_X7_checkpointIfDue N M8 (a0)) fun M9 v10 => if v10 = 0 then (zb ((0 : Int32)) (some (M9, (0 : Int32)))) else (if (cI M9 400 (a0)) = (1 : Int32) then ((F_X4_follow N M9 (a0)).bind fun M13 => (F_X7_tellAll N M13 (a0)).bind fun M14 => zb ((1 : Int32)) (some (M14, (1 : Int32)))) else ((F_X4_dropProposed N M9 (a0)).bind fun M11 => (F_X7_tellAll N M11 (a0)).bind fun M12 => zb ((1 : Int32)) (some (M12, (1 : Int32))))))

set_option maxRecDepth 100000 in
set_option maxHeartbeats 4000000 in
theorem p_X7_learn {N : Nat} {M : vC} {R : (vC × Int32)} {a0 : Nat} {a1 : Option Nat} (ha0 : a0 < N) (h : F_X7_learn N M a0 a1 = some R) {E : vE} {S0 : vS} {z x d0 : Nat} (hR : RC S0 z x N d0 M) : vi_Met E yX7_learn cX7_learn 2 (some .boolean) 4 0 0 [.ref (ad z x 7 (a0)), va_rf (a1)] S0 (cz M) (D1 S0 z x N d0 R) := by
  refine vi_met (by decide) (by cases a1 <;> exact Nat.le_of_ble_eq_true rfl) ?_
  intro X C
  rw [show lv_args 0 [.ref (ad z x 7 (a0)), va_rf (a1)] = [(0, .ref (ad z x 7 (a0))), (1, va_rf (a1))] from by cases a1 <;> rfl]
  have hF := cF.refl S0 z x N d0
  unfold F_X7_learn at h
  refine vi_aload_n C dX7_learn_0 rfl rfl ?_
  refine vi_iconst (v := 3) C dX7_learn_1 rfl (by decide) ?_
  refine c_cv0 (kc := 7) (a := (ad z x 7 (a0))) C [.int ((3 : Int32))] [] dX7_learn_2 rfl ivX7_202 imX7_startPayload rfl rfl (rcK hR ha0) hR hF h (fun _ e => p_X7_startPayload ha0 e hR) rfl (Nat.le_of_ble_eq_true rfl) ⟨by decide, by decide⟩ ⟨Nat.le_refl _, Nat.le_refl _⟩ (fun S M1 h hR hF => ?_)
  refine vi_aload_nq (o := (a1)) C dX7_learn_5 rfl rfl ?_
  refine vi_aload_n C dX7_learn_6 rfl rfl ?_
  refine c_gets (f := 710) (k := 7) (i := a0) C dX7_learn_7 rfl fX7_62 rfl (by decide) rfl hR ha0 rfl ?_
  obtain ⟨o2, rfl, hh⟩ := bdo h
  replace h := hh
  clear hh
  obtain ⟨c3, h⟩ := gdo h
  refine c_cv0 (kc := 8) (a := (o2)) C [.ref (ad z x 0 (1))] [] dX7_learn_10 rfl ivX7_215 imX8_writeTo rfl rfl (rcKD hR c3) hR hF h (fun _ e => p_X8_writeTo (show 1 < 3 from by decide) e hR) rfl (Nat.le_of_ble_eq_true rfl) ⟨by decide, by decide⟩ ⟨Nat.le_refl _, Nat.le_refl _⟩ (fun S M4 h hR hF => ?_)
  refine vi_aload_n C dX7_learn_13 rfl rfl ?_
  refine c_cv1 (kc := 7) (a := (ad z x 7 (a0))) C [] [] dX7_learn_14 rfl ivX7_236 imX7_note rfl rfl (rcK hR ha0) hR hF h (fun _ e => p_X7_note ha0 e hR) rfl (Nat.le_of_ble_eq_true rfl) ⟨by decide, by decide⟩ ⟨Nat.le_refl _, Nat.le_refl _⟩ (fun S M5 v6 h hR hF => ?_)
  refine vi_if_ne (t' := 22) C dX7_learn_17 rfl (by decide) (fun c17 => ?_) (fun c17 => ?_)
  · replace h := iN c17 h
    refine vi_aload_n C dX7_learn_22 rfl rfl ?_
    refine c_gets (f := 703) (k := 7) (i := a0) C dX7_learn_23 rfl fX7_46 rfl (by decide) rfl hR ha0 rfl ?_
    refine vi_aload_n C dX7_learn_26 rfl rfl ?_
    refine c_cv0 (kc := 10) (a := (ad z x 10 (a0))) C [.ref (o2)] [] dX7_learn_27 rfl ivX7_177 imX10_learn rfl rfl (rcK hR ha0) hR hF h (fun _ e => p_X10_learn ha0 e hR) rfl (Nat.le_of_ble_eq_true rfl) ⟨by decide, by decide⟩ ⟨Nat.le_refl _, Nat.le_refl _⟩ (fun S M7 h hR hF => ?_)
    refine vi_aload_n C dX7_learn_30 rfl rfl ?_
    refine vi_null C dX7_learn_31 rfl ?_
    refine c_putp (f := 713) (k := 7) (i := a0) (v := none) C dX7_learn_32 rfl (fpX7_81 _) rfl (by decide) rfl hR hF ha0 rfl h (fun S M8 h hR hF => ?_)
    refine vi_aload_n C dX7_learn_35 rfl rfl ?_
    refine c_cv1 (kc := 7) (a := (ad z x 7 (a0))) C [] [] dX7_learn_36 rfl ivX7_148 imX7_checkpointIfDue rfl rfl (rcK hR ha0) hR hF h (fun _ e => p_X7_checkpointIfDue ha0 e hR) rfl (Nat.le_of_ble_eq_true rfl) ⟨by decide, by decide⟩ ⟨Nat.le_refl _, Nat.le_refl _⟩ (fun S M9 v10 h hR hF => ?_)
    refine vi_if_ne (t' := 44) C dX7_learn_39 rfl (by decide) (fun c16 => ?_) (fun c16 => ?_)
    · replace h := iN c16 h
      refine vi_aload_n C dX7_learn_44 rfl rfl ?_
      refine c_gets (f := 707) (k := 7) (i := a0) C dX7_learn_45 rfl fX7_28 rfl (by decide) rfl hR ha0 rfl ?_
      refine c_geti (f := 400) (k := 4) (i := a0) C dX7_learn_48 rfl fX7_88 rfl (by decide) rfl hR ha0 ?_
      refine vi_iconst (v := 1) C dX7_learn_51 rfl (by decide) ?_
      refine vi_icmp_ne (t' := 65) C dX7_learn_52 rfl (by decide) (fun c15 => ?_) (fun c15 => ?_)
      · replace h := iN c15 h
        refine vi_aload_n C dX7_learn_65 rfl rfl ?_
        refine c_gets (f := 707) (k := 7) (i := a0) C dX7_learn_66 rfl fX7_28 rfl (by decide) rfl hR ha0 rfl ?_
        refine c_cv0 (kc := 4) (a := (ad z x 4 (a0))) C [] [] dX7_learn_69 rfl ivX7_239 imX4_dropProposed rfl rfl (rcK hR ha0) hR hF h (fun _ e => p_X4_dropProposed ha0 e hR) rfl (Nat.le_of_ble_eq_true rfl) ⟨by decide, by decide⟩ ⟨Nat.le_refl _, Nat.le_refl _⟩ (fun S M11 h hR hF => ?_)
        refine vi_aload_n C dX7_learn_72 rfl rfl ?_
        refine c_cv0 (kc := 7) (a := (ad z x 7 (a0))) C [] [] dX7_learn_73 rfl ivX7_242 imX7_tellAll rfl rfl (rcK hR ha0) hR hF h (fun _ e => p_X7_tellAll ha0 e hR) rfl (Nat.le_of_ble_eq_true rfl) ⟨by decide, by decide⟩ ⟨Nat.le_refl _, Nat.le_refl _⟩ (fun S M12 h hR hF => ?_)
        refine vi_iconst (v := 1) C dX7_learn_76 rfl (by decide) ?_
        exact c_retz C dX7_learn_77 rfl hR hF ⟨Nat.zero_le _, Nat.zero_le _⟩ h
      · replace h := iT c15 h
        refine vi_aload_n C dX7_learn_55 rfl rfl ?_
        refine c_gets (f := 707) (k := 7) (i := a0) C dX7_learn_56 rfl fX7_28 rfl (by decide) rfl hR ha0 rfl ?_
        refine c_cv0 (kc := 4) (a := (ad z x 4 (a0))) C [] [] dX7_learn_59 rfl ivX7_159 imX4_follow rfl rfl (rcK hR ha0) hR hF h (fun _ e => p_X4_follow ha0 e hR) rfl (Nat.le_of_ble_eq_true rfl) ⟨by decide, by decide⟩ ⟨Nat.le_refl _, Nat.le_refl _⟩ (fun S M13 h hR hF => ?_)
        refine vi_goto (t' := 72) C dX7_learn_62 (by decide) ?_
        refine vi_aload_n C dX7_learn_72 rfl rfl ?_
        refine c_cv0 (kc := 7) (a := (ad z x 7 (a0))) C [] [] dX7_learn_73 rfl ivX7_242 imX7_tellAll rfl rfl (rcK hR ha0) hR hF h (fun _ e => p_X7_tellAll ha0 e hR) rfl (Nat.le_of_ble_eq_true rfl) ⟨by decide, by decide⟩ ⟨Nat.le_refl _, Nat.le_refl _⟩ (fun S M14 h hR hF => ?_)
        refine vi_iconst (v := 1) C dX7_learn_76 rfl (by decide) ?_
        exact c_retz C dX7_learn_77 rfl hR hF ⟨Nat.zero_le _, Nat.zero_le _⟩ h
    · replace h := iT c16 h
      refine vi_iconst (v := 0) C dX7_learn_42 rfl (by decide) ?_
      exact c_retz C dX7_learn_43 rfl hR hF ⟨Nat.zero_le _, Nat.zero_le _⟩ h
  · replace h := iT c17 h
    refine vi_iconst (v := 0) C dX7_learn_20 rfl (by decide) ?_
    exact c_retz C dX7_learn_21 rfl hR hF ⟨Nat.zero_le _, Nat.zero_le _⟩ h
