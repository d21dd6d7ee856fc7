def F_J6_bitCount_0f7a4 (N : Nat) (M : vC) (a0 : Int32) : Option (vC × Int32) := some (M, ((((((((a0 - (((a0).toUInt32 >>> (((1 : Int32)).toUInt32 &&& Int32.toUInt32 31)).toInt32 &&& (1431655765 : Int32))) &&& (858993459 : Int32)) + ((((a0 - (((a0).toUInt32 >>> (((1 : Int32)).toUInt32 &&& Int32.toUInt32 31)).toInt32 &&& (1431655765 : Int32)))).toUInt32 >>> (((2 : Int32)).toUInt32 &&& Int32.toUInt32 31)).toInt32 &&& (858993459 : Int32))) + (((((a0 - (((a0).toUInt32 >>> (((1 : Int32)).toUInt32 &&& Int32.toUInt32 31)).toInt32 &&& (1431655765 : Int32))) &&& (858993459 : Int32)) + ((((a0 - (((a0).toUInt32 >>> (((1 : Int32)).toUInt32 &&& Int32.toUInt32 31)).toInt32 &&& (1431655765 : Int32)))).toUInt32 >>> (((2 : Int32)).toUInt32 &&& Int32.toUInt32 31)).toInt32 &&& (858993459 : Int32)))).toUInt32 >>> (((4 : Int32)).toUInt32 &&& Int32.toUInt32 31)).toInt32) &&& (252645135 : Int32)) + (((((((a0 - (((a0).toUInt32 >>> (((1 : Int32)).toUInt32 &&& Int32.toUInt32 31)).toInt32 &&& (1431655765 : Int32))) &&& (858993459 : Int32)) + ((((a0 - (((a0).toUInt32 >>> (((1 : Int32)).toUInt32 &&& Int32.toUInt32 31)).toInt32 &&& (1431655765 : Int32)))).toUInt32 >>> (((2 : Int32)).toUInt32 &&& Int32.toUInt32 31)).toInt32 &&& (858993459 : Int32))) + (((((a0 - (((a0).toUInt32 >>> (((1 : Int32)).toUInt32 &&& Int32.toUInt32 31)).toInt32 &&& (1431655765 : Int32))) &&& (858993459 : Int32)) + ((((a0 - (((a0).toUInt32 >>> (((1 : Int32)).toUInt32 &&& Int32.toUInt32 31)).toInt32 &&& (1431655765 : Int32)))).toUInt32 >>> (((2 : Int32)).toUInt32 &&& Int32.toUInt32 31)).toInt32 &&& (858993459 : Int32)))).toUInt32 >>> (((4 : Int32)).toUInt32 &&& Int32.toUInt32 31)).toInt32) &&& (252645135 : Int32))).toUInt32 >>> (((8 : Int32)).toUInt32 &&& Int32.toUInt32 31)).toInt32) + ((((((((a0 - (((a0).toUInt32 >>> (((1 : Int32)).toUInt32 &&& Int32.toUInt32 31)).toInt32 &&& (1431655765 : Int32))) &&& (858993459 : Int32)) + ((((a0 - (((a0).toUInt32 >>> (((1 : Int32)).toUInt32 &&& Int32.toUInt32 31)).toInt32 &&& (1431655765 : Int32)))).toUInt32 >>> (((2 : Int32)).toUInt32 &&& Int32.toUInt32 31)).toInt32 &&& (858993459 : Int32))) + (((((a0 - (((a0).toUInt32 >>> (((1 : Int32)).toUInt32 &&& Int32.toUInt32 31)).toInt32 &&& (1431655765 : Int32))) &&& (858993459 : Int32)) + ((((a0 - (((a0).toUInt32 >>> (((1 : Int32)).toUInt32 &&& Int32.toUInt32 31)).toInt32 &&& (1431655765 : Int32)))).toUInt32 >>> (((2 : Int32)).toUInt32 &&& Int32.toUInt32 31)).toInt32 &&& (858993459 : Int32)))).toUInt32 >>> (((4 : Int32)).toUInt32 &&& Int32.toUInt32 31)).toInt32) &&& (252645135 : Int32)) + (((((((a0 - (((a0).toUInt32 >>> (((1 : Int32)).toUInt32 &&& Int32.toUInt32 31)).toInt32 &&& (1431655765 : Int32))) &&& (858993459 : Int32)) + ((((a0 - (((a0).toUInt32 >>> (((1 : Int32)).toUInt32 &&& Int32.toUInt32 31)).toInt32 &&& (1431655765 : Int32)))).toUInt32 >>> (((2 : Int32)).toUInt32 &&& Int32.toUInt32 31)).toInt32 &&& (858993459 : Int32))) + (((((a0 - (((a0).toUInt32 >>> (((1 : Int32)).toUInt32 &&& Int32.toUInt32 31)).toInt32 &&& (1431655765 : Int32))) &&& (858993459 : Int32)) + ((((a0 - (((a0).toUInt32 >>> (((1 : Int32)).toUInt32 &&& Int32.toUInt32 31)).toInt32 &&& (1431655765 : Int32)))).toUInt32 >>> (((2 : Int32)).toUInt32 &&& Int32.toUInt32 31)).toInt32 &&& (858993459 : Int32)))).toUInt32 >>> (((4 : Int32)).toUInt32 &&& Int32.toUInt32 31)).toInt32) &&& (252645135 : Int32))).toUInt32 >>> (((8 : Int32)).toUInt32 &&& Int32.toUInt32 31)).toInt32)).toUInt32 >>> (((16 : Int32)).toUInt32 &&& Int32.toUInt32 31)).toInt32) &&& (63 : Int32)))

set_option maxRecDepth 100000 in
set_option maxHeartbeats 4000000 in
theorem p_J6_bitCount_0f7a4 {N : Nat} {M : vC} {R : (vC × Int32)} {a0 : Int32}  (h : F_J6_bitCount_0f7a4 N M a0 = some R) {E : vE} {S0 : vS} {z x d0 : Nat} (hR : RC S0 z x N d0 M) : vi_Met E yJ6_bitCount_0f7a4 cJ6_bitCount_0f7a4 1 (some .int) 0 0 0 [.int (a0)] S0 (cz M) (D1 S0 z x N d0 R) := by
  refine vi_met (by decide) (Nat.le_of_ble_eq_true rfl) ?_
  intro X C
  have hF := cF.refl S0 z x N d0
  unfold F_J6_bitCount_0f7a4 at h
  refine vi_iload_n C dJ6_bitCount_0f7a4_0 rfl rfl ?_
  refine vi_iload_n C dJ6_bitCount_0f7a4_1 rfl rfl ?_
  refine vi_iconst (v := 1) C dJ6_bitCount_0f7a4_2 rfl (by decide) ?_
  refine vi_iushr C dJ6_bitCount_0f7a4_3 rfl ?_
  refine vi_ldcw C dJ6_bitCount_0f7a4_4 rfl kJ6_265 ?_
  refine vi_iand C dJ6_bitCount_0f7a4_7 rfl ?_
  refine vi_isub C dJ6_bitCount_0f7a4_8 rfl ?_
  refine vi_istore_n C dJ6_bitCount_0f7a4_9 rfl (by decide) ?_
  refine vi_iload_n C dJ6_bitCount_0f7a4_10 rfl rfl ?_
  refine vi_ldcw C dJ6_bitCount_0f7a4_11 rfl kJ6_266 ?_
  refine vi_iand C dJ6_bitCount_0f7a4_14 rfl ?_
  refine vi_iload_n C dJ6_bitCount_0f7a4_15 rfl rfl ?_
  refine vi_iconst (v := 2) C dJ6_bitCount_0f7a4_16 rfl (by decide) ?_
  refine vi_iushr C dJ6_bitCount_0f7a4_17 rfl ?_
  refine vi_ldcw C dJ6_bitCount_0f7a4_18 rfl kJ6_266 ?_
  refine vi_iand C dJ6_bitCount_0f7a4_21 rfl ?_
  refine vi_iadd C dJ6_bitCount_0f7a4_22 rfl ?_
  refine vi_istore_n C dJ6_bitCount_0f7a4_23 rfl (by decide) ?_
  refine vi_iload_n C dJ6_bitCount_0f7a4_24 rfl rfl ?_
  refine vi_iload_n C dJ6_bitCount_0f7a4_25 rfl rfl ?_
  refine vi_iconst (v := 4) C dJ6_bitCount_0f7a4_26 rfl (by decide) ?_
  refine vi_iushr C dJ6_bitCount_0f7a4_27 rfl ?_
  refine vi_iadd C dJ6_bitCount_0f7a4_28 rfl ?_
  refine vi_ldcw C dJ6_bitCount_0f7a4_29 rfl kJ6_267 ?_
  refine vi_iand C dJ6_bitCount_0f7a4_32 rfl ?_
  refine vi_istore_n C dJ6_bitCount_0f7a4_33 rfl (by decide) ?_
  refine vi_iload_n C dJ6_bitCount_0f7a4_34 rfl rfl ?_
  refine vi_iload_n C dJ6_bitCount_0f7a4_35 rfl rfl ?_
  refine vi_bipush (v := 8) C dJ6_bitCount_0f7a4_36 rfl (by decide) ?_
  refine vi_iushr C dJ6_bitCount_0f7a4_38 rfl ?_
  refine vi_iadd C dJ6_bitCount_0f7a4_39 rfl ?_
  refine vi_istore_n C dJ6_bitCount_0f7a4_40 rfl (by decide) ?_
  refine vi_iload_n C dJ6_bitCount_0f7a4_41 rfl rfl ?_
  refine vi_iload_n C dJ6_bitCount_0f7a4_42 rfl rfl ?_
  refine vi_bipush (v := 16) C dJ6_bitCount_0f7a4_43 rfl (by decide) ?_
  refine vi_iushr C dJ6_bitCount_0f7a4_45 rfl ?_
  refine vi_iadd C dJ6_bitCount_0f7a4_46 rfl ?_
  refine vi_istore_n C dJ6_bitCount_0f7a4_47 rfl (by decide) ?_
  refine vi_iload_n C dJ6_bitCount_0f7a4_48 rfl rfl ?_
  refine vi_bipush (v := 63) C dJ6_bitCount_0f7a4_49 rfl (by decide) ?_
  refine vi_iand C dJ6_bitCount_0f7a4_51 rfl ?_
  exact c_ret1 C dJ6_bitCount_0f7a4_52 rfl hR hF ⟨Nat.zero_le _, Nat.zero_le _⟩ h

def F_X0_clear (N : Nat) (M : vC) (a0 : Nat) : Option vC := lt1 (uI M 1 (a0) ((0 : Int32))) fun M1 => lt1 (uI M1 2 (a0) ((0 : Int32))) fun M2 => some M2

set_option maxRecDepth 100000 in
set_option maxHeartbeats 4000000 in
theorem p_X0_clear {N : Nat} {M : vC} {R : vC} {a0 : Nat} (ha0 : a0 < 3) (h : F_X0_clear N M a0 = some R) {E : vE} {S0 : vS} {z x d0 : Nat} (hR : RC S0 z x N d0 M) : vi_Met E yX0_clear cX0_clear 1 none 0 0 0 [.ref (ad z x 0 (a0))] S0 (cz M) (D0 S0 z x N d0 R) := by
  refine vi_met (by decide) (Nat.le_of_ble_eq_true rfl) ?_
  intro X C
  have hF := cF.refl S0 z x N d0
  unfold F_X0_clear at h
  refine vi_aload_n C dX0_clear_0 rfl rfl ?_
  refine vi_iconst (v := 0) C dX0_clear_1 rfl (by decide) ?_
  refine c_puti (f := 1) (k := 0) (i := a0) C dX0_clear_2 rfl (fpX0_13 _) rfl (by decide) rfl hR hF ha0 h (fun S M1 h hR hF => ?_)
  refine vi_aload_n C dX0_clear_5 rfl rfl ?_
  refine vi_iconst (v := 0) C dX0_clear_6 rfl (by decide) ?_
  refine c_puti (f := 2) (k := 0) (i := a0) C dX0_clear_7 rfl (fpX0_17 _) rfl (by decide) rfl hR hF ha0 h (fun S M2 h hR hF => ?_)
  exact c_ret0 C dX0_clear_10 rfl hR hF ⟨Nat.zero_le _, Nat.zero_le _⟩ h

def F_X0_put (N : Nat) (M : vC) (a0 : Nat) (a1 : Int32) : Option vC := if (Int32.ofNat (al 0)) ≤ (cI M 1 (a0)) then (some M) else ((cS M 0 (a0) ((cI M 1 (a0))) (((a1).toInt8.toInt32).toInt8.toInt32)).bind fun M1 => lt1 (uI M1 1 (a0) (((cI M1 1 (a0)) + (1 : Int32)))) fun M2 => some M2)

set_option maxRecDepth 100000 in
set_option maxHeartbeats 4000000 in
theorem p_X0_put {N : Nat} {M : vC} {R : vC} {a0 : Nat} {a1 : Int32} (ha0 : a0 < 3) (h : F_X0_put N M a0 a1 = some R) {E : vE} {S0 : vS} {z x d0 : Nat} (hR : RC S0 z x N d0 M) : vi_Met E yX0_put cX0_put 2 none 0 0 0 [.ref (ad z x 0 (a0)), .int (a1)] S0 (cz M) (D0 S0 z x N d0 R) := by
  refine vi_met (by decide) (Nat.le_of_ble_eq_true rfl) ?_
  intro X C
  have hF := cF.refl S0 z x N d0
  unfold F_X0_put at h
  refine vi_aload_n C dX0_put_0 rfl rfl ?_
  refine c_geti (f := 1) (k := 0) (i := a0) C dX0_put_1 rfl fX0_13 rfl (by decide) rfl hR ha0 ?_
  refine vi_aload_n C dX0_put_4 rfl rfl ?_
  refine c_gets (f := 0) (k := 0) (i := a0) C dX0_put_5 rfl fX0_7 rfl (by decide) rfl hR ha0 rfl ?_
  refine c_alen C dX0_put_8 rfl (by decide) hR ⟨ha0, by decide⟩ ?_
  refine vi_icmp_ge (t' := 33) C dX0_put_9 rfl (by decide) (fun c3 => ?_) (fun c3 => ?_)
  · replace h := iT c3 h
    exact c_ret0 C dX0_put_33 rfl hR hF ⟨Nat.zero_le _, Nat.zero_le _⟩ h
  · replace h := iN c3 h
    refine vi_aload_n C dX0_put_12 rfl rfl ?_
    refine c_gets (f := 0) (k := 0) (i := a0) C dX0_put_13 rfl fX0_7 rfl (by decide) rfl hR ha0 rfl ?_
    refine vi_aload_n C dX0_put_16 rfl rfl ?_
    refine c_geti (f := 1) (k := 0) (i := a0) C dX0_put_17 rfl fX0_13 rfl (by decide) rfl hR ha0 ?_
    refine vi_iload_n C dX0_put_20 rfl rfl ?_
    refine vi_i2b C dX0_put_21 rfl ?_
    refine c_bastore C dX0_put_22 rfl rfl hR hF ⟨ha0, by decide⟩ h (fun S M1 h hR hF => ?_)
    refine vi_aload_n C dX0_put_23 rfl rfl ?_
    refine vi_dup C dX0_put_24 rfl rfl ?_
    refine c_geti (f := 1) (k := 0) (i := a0) C dX0_put_25 rfl fX0_13 rfl (by decide) rfl hR ha0 ?_
    refine vi_iconst (v := 1) C dX0_put_28 rfl (by decide) ?_
    refine vi_iadd C dX0_put_29 rfl ?_
    refine c_puti (f := 1) (k := 0) (i := a0) C dX0_put_30 rfl (fpX0_13 _) rfl (by decide) rfl hR hF ha0 h (fun S M2 h hR hF => ?_)
    exact c_ret0 C dX0_put_33 rfl hR hF ⟨Nat.zero_le _, Nat.zero_le _⟩ h

def L_X0_putU_4 {ρ : Type} (N : Nat) (l0 : Nat) (kx38 : vC → Int32 → Option ρ) : Nat → vC → Int32 → Int32 → Option ρ
  | 0, _, _, _ => none
  | f + 1, M, l2, l3 => if (4 : Int32) ≤ l3 then (kx38 M (l2)) else (if l2 ≤ (127 : Int32) then (kx38 M (l2)) else ((F_X0_put N M (l0) (((l2 &&& (127 : Int32)) ||| (128 : Int32)))).bind fun M1 => L_X0_putU_4 N l0 kx38 f M1 (((l2).toUInt32 >>> (((7 : Int32)).toUInt32 &&& Int32.toUInt32 31)).toInt32) ((l3 + (1)))))

def F_X0_putU (N : Nat) (M : vC) (a0 : Nat) (a1 : Int32) : Option vC := L_X0_putU_4 N (a0) (fun (M4 : vC) (l5 : Int32) => (F_X0_put N M4 (a0) (l5)).bind fun M6 => some M6) fu M (a1) ((0 : Int32))

set_option maxRecDepth 100000 in
set_option maxHeartbeats 4000000 in
theorem w_X0_putU_4 {E : vE} {X : vX} {S0 : vS} {z x N d0 : Nat} {ρ : Type} {R : ρ} {Z : State → Prop} {l0 : Nat} {kx38 : vC → Int32 → Option ρ} (hl0 : l0 < 3) (C : vi_C E X yX0_putU cX0_putU 4 none 1 0 0 (45 * 1)) (hx38 : ∀ (M : vC) (l2 : Int32), kx38 M l2 = some R → ∀ S, RC S z x N d0 M → cF S0 S z x N d0 → vi_W E X 4 Z 38 [(0, .ref (ad z x 0 (l0))), (2, .int (l2))] [] S (cz M) 0 0) : ∀ (f : Nat) (M : vC) (l2 : Int32) (l3 : Int32), L_X0_putU_4 N l0 kx38 f M l2 l3 = some R → ∀ S, RC S z x N d0 M → cF S0 S z x N d0 → vi_W E X 4 Z 4 [(0, .ref (ad z x 0 (l0))), (2, .int (l2)), (3, .int (l3))] [] S (cz M) 0 0 := by
  intro f
  induction f with
  | zero => intro M l2 l3 h; cases h
  | succ f ih =>
    intro M l2 l3 h S hR hF
    rw [L_X0_putU_4] at h
    refine vi_iload_n C dX0_putU_4 rfl rfl ?_
    refine vi_iconst (v := 4) C dX0_putU_5 rfl (by decide) ?_
    refine vi_icmp_ge (t' := 38) C dX0_putU_6 rfl (by decide) (fun c3 => ?_) (fun c3 => ?_)
    · replace h := iT c3 h
      exact (vi_cut [(0, .ref (ad z x 0 (l0))), (2, .int (l2))] ⟨rfl, rfl, trivial⟩ (hx38 _ _ h _ hR hF))
    · replace h := iN c3 h
      refine vi_iload_n C dX0_putU_9 rfl rfl ?_
      refine vi_bipush (v := 127) C dX0_putU_10 rfl (by decide) ?_
      refine vi_icmp_le (t' := 38) C dX0_putU_12 rfl (by decide) (fun c2 => ?_) (fun c2 => ?_)
      · replace h := iT c2 h
        exact (vi_cut [(0, .ref (ad z x 0 (l0))), (2, .int (l2))] ⟨rfl, rfl, trivial⟩ (hx38 _ _ h _ hR hF))
      · replace h := iN c2 h
        refine vi_aload_n C dX0_putU_15 rfl rfl ?_
        refine vi_iload_n C dX0_putU_16 rfl rfl ?_
        refine vi_bipush (v := 127) C dX0_putU_17 rfl (by decide) ?_
        refine vi_iand C dX0_putU_19 rfl ?_
        refine vi_sipush (v := 128) C dX0_putU_20 rfl (by decide) ?_
        refine vi_ior C dX0_putU_23 rfl ?_
        refine c_cv0 (kc := 0) (a := (ad z x 0 (l0))) C [.int (((l2 &&& (127 : Int32)) ||| (128 : Int32)))] [] dX0_putU_24 rfl ivX0_20 imX0_put rfl rfl (rcK hR hl0) hR hF h (fun _ e => p_X0_put hl0 e hR) rfl (Nat.le_of_ble_eq_true rfl) ⟨by decide, by decide⟩ ⟨Nat.le_refl _, Nat.le_refl _⟩ (fun S M1 h hR hF => ?_)
        refine vi_iload_n C dX0_putU_27 rfl rfl ?_
        refine vi_bipush (v := 7) C dX0_putU_28 rfl (by decide) ?_
        refine vi_iushr C dX0_putU_30 rfl ?_
        refine vi_istore_n C dX0_putU_31 rfl (by decide) ?_
        refine vi_iincv (v := 1) C dX0_putU_32 rfl rfl (by decide) (by decide) ?_
        refine vi_goto (t' := 4) C dX0_putU_35 (by decide) ?_
        exact vi_cut [(0, .ref (ad z x 0 (l0))), (2, .int (((l2).toUInt32 >>> (((7 : Int32)).toUInt32 &&& Int32.toUInt32 31)).toInt32)), (3, .int ((l3 + (1))))] ⟨rfl, rfl, rfl, trivial⟩ (ih _ _ _ h _ hR hF)

set_option maxRecDepth 100000 in
set_option maxHeartbeats 4000000 in
theorem p_X0_putU {N : Nat} {M : vC} {R : vC} {a0 : Nat} {a1 : Int32} (ha0 : a0 < 3) (h : F_X0_putU N M a0 a1 = some R) {E : vE} {S0 : vS} {z x d0 : Nat} (hR : RC S0 z x N d0 M) : vi_Met E yX0_putU cX0_putU 4 none 1 0 0 [.ref (ad z x 0 (a0)), .int (a1)] S0 (cz M) (D0 S0 z x N d0 R) := by
  refine vi_met (by decide) (Nat.le_of_ble_eq_true rfl) ?_
  intro X C
  have hF := cF.refl S0 z x N d0
  unfold F_X0_putU at h
  refine vi_iload_n C dX0_putU_0 rfl rfl ?_
  refine vi_istore_n C dX0_putU_1 rfl (by decide) ?_
  refine vi_iconst (v := 0) C dX0_putU_2 rfl (by decide) ?_
  refine vi_istore_n C dX0_putU_3 rfl (by decide) ?_
  refine vi_cut [(0, .ref (ad z x 0 (a0))), (2, .int (a1)), (3, .int ((0 : Int32)))] ⟨rfl, rfl, rfl, trivial⟩ (w_X0_putU_4 ha0 C ?_ _ _ _ _ h _ hR hF)
  · intro M4 l5 h S hR hF
    refine vi_aload_n C dX0_putU_38 rfl rfl ?_
    refine vi_iload_n C dX0_putU_39 rfl rfl ?_
    refine c_cv0 (kc := 0) (a := (ad z x 0 (a0))) C [.int (l5)] [] dX0_putU_40 rfl ivX0_20 imX0_put rfl rfl (rcK hR ha0) hR hF h (fun _ e => p_X0_put ha0 e hR) rfl (Nat.le_of_ble_eq_true rfl) ⟨by decide, by decide⟩ ⟨Nat.le_refl _, Nat.le_refl _⟩ (fun S M6 h hR hF => ?_)
    exact c_ret0 C dX0_putU_43 rfl hR hF ⟨Nat.zero_le _, Nat.zero_le _⟩ h

def F_X0_putTwo (N : Nat) (M : vC) (a0 : Nat) (a1 : Int32) : Option vC := (F_X0_put N M (a0) (((a1).toUInt32 >>> (((8 : Int32)).toUInt32 &&& Int32.toUInt32 31)).toInt32)).bind fun M1 => (F_X0_put N M1 (a0) (a1)).bind fun M2 => some M2

set_option maxRecDepth 100000 in
set_option maxHeartbeats 4000000 in
theorem p_X0_putTwo {N : Nat} {M : vC} {R : vC} {a0 : Nat} {a1 : Int32} (ha0 : a0 < 3) (h : F_X0_putTwo N M a0 a1 = some R) {E : vE} {S0 : vS} {z x d0 : Nat} (hR : RC S0 z x N d0 M) : vi_Met E yX0_putTwo cX0_putTwo 2 none 1 0 0 [.ref (ad z x 0 (a0)), .int (a1)] S0 (cz M) (D0 S0 z x N d0 R) := by
  refine vi_met (by decide) (Nat.le_of_ble_eq_true rfl) ?_
  intro X C
  have hF := cF.refl S0 z x N d0
  unfold F_X0_putTwo at h
  refine vi_aload_n C dX0_putTwo_0 rfl rfl ?_
  refine vi_iload_n C dX0_putTwo_1 rfl rfl ?_
  refine vi_bipush (v := 8) C dX0_putTwo_2 rfl (by decide) ?_
  refine vi_iushr C dX0_putTwo_4 rfl ?_
  refine c_cv0 (kc := 0) (a := (ad z x 0 (a0))) C [.int (((a1).toUInt32 >>> (((8 : Int32)).toUInt32 &&& Int32.toUInt32 31)).toInt32)] [] dX0_putTwo_5 rfl ivX0_20 imX0_put rfl rfl (rcK hR ha0) hR hF h (fun _ e => p_X0_put ha0 e hR) rfl (Nat.le_of_ble_eq_true rfl) ⟨by decide, by decide⟩ ⟨Nat.le_refl _, Nat.le_refl _⟩ (fun S M1 h hR hF => ?_)
  refine vi_aload_n C dX0_putTwo_8 rfl rfl ?_
  refine vi_iload_n C dX0_putTwo_9 rfl rfl ?_
  refine c_cv0 (kc := 0) (a := (ad z x 0 (a0))) C [.int (a1)] [] dX0_putTwo_10 rfl ivX0_20 imX0_put rfl rfl (rcK hR ha0) hR hF h (fun _ e => p_X0_put ha0 e hR) rfl (Nat.le_of_ble_eq_true rfl) ⟨by decide, by decide⟩ ⟨Nat.le_refl _, Nat.le_refl _⟩ (fun S M2 h hR hF => ?_)
  exact c_ret0 C dX0_putTwo_13 rfl hR hF ⟨Nat.zero_le _, Nat.zero_le _⟩ h

def L_X0_putFour_3 {ρ : Type} (N : Nat) (l0 : Nat) (l1 : Int32) (kx20 : vC → Option ρ) : Nat → vC → Int32 → Option ρ
  | 0, _, _ => none
  | f + 1, M, l2 => if l2 < 0 then (kx20 M ) else ((F_X0_put N M (l0) (((l1).toUInt32 >>> ((l2).toUInt32 &&& Int32.toUInt32 31)).toInt32)).bind fun M1 => L_X0_putFour_3 N l0 l1 kx20 f M1 ((l2 + (-8))))

def F_X0_putFour (N : Nat) (M : vC) (a0 : Nat) (a1 : Int32) : Option vC := L_X0_putFour_3 N (a0) (a1) (fun (M3 : vC)  => some M3) fu M ((24 : Int32))

set_option maxRecDepth 100000 in
set_option maxHeartbeats 4000000 in
theorem w_X0_putFour_3 {E : vE} {X : vX} {S0 : vS} {z x N d0 : Nat} {ρ : Type} {R : ρ} {Z : State → Prop} {l0 : Nat} {l1 : Int32} {kx20 : vC → Option ρ} (hl0 : l0 < 3) (C : vi_C E X yX0_putFour cX0_putFour 3 none 1 0 0 (45 * 1)) (hx20 : ∀ (M : vC) , kx20 M  = some R → ∀ S, RC S z x N d0 M → cF S0 S z x N d0 → vi_W E X 3 Z 20 [] [] S (cz M) 0 0) : ∀ (f : Nat) (M : vC) (l2 : Int32), L_X0_putFour_3 N l0 l1 kx20 f M l2 = some R → ∀ S, RC S z x N d0 M → cF S0 S z x N d0 → vi_W E X 3 Z 3 [(0, .ref (ad z x 0 (l0))), (1, .int (l1)), (2, .int (l2))] [] S (cz M) 0 0 := by
  intro f
  induction f with
  | zero => intro M l2 h; cases h
  | succ f ih =>
    intro M l2 h S hR hF
    rw [L_X0_putFour_3] at h
    refine vi_iload_n C dX0_putFour_3 rfl rfl ?_
    refine vi_if_lt (t' := 20) C dX0_putFour_4 rfl (by decide) (fun c2 => ?_) (fun c2 => ?_)
    · replace h := iT c2 h
      exact (vi_cut [] trivial (hx20 _  h _ hR hF))
    · replace h := iN c2 h
      refine vi_aload_n C dX0_putFour_7 rfl rfl ?_
      refine vi_iload_n C dX0_putFour_8 rfl rfl ?_
      refine vi_iload_n C dX0_putFour_9 rfl rfl ?_
      refine vi_iushr C dX0_putFour_10 rfl ?_
      refine c_cv0 (kc := 0) (a := (ad z x 0 (l0))) C [.int (((l1).toUInt32 >>> ((l2).toUInt32 &&& Int32.toUInt32 31)).toInt32)] [] dX0_putFour_11 rfl ivX0_20 imX0_put rfl rfl (rcK hR hl0) hR hF h (fun _ e => p_X0_put hl0 e hR) rfl (Nat.le_of_ble_eq_true rfl) ⟨by decide, by decide⟩ ⟨Nat.le_refl _, Nat.le_refl _⟩ (fun S M1 h hR hF => ?_)
      refine vi_iincv (v := -8) C dX0_putFour_14 rfl rfl (by decide) (by decide) ?_
      refine vi_goto (t' := 3) C dX0_putFour_17 (by decide) ?_
      exact vi_cut [(0, .ref (ad z x 0 (l0))), (1, .int (l1)), (2, .int ((l2 + (-8))))] ⟨rfl, rfl, rfl, trivial⟩ (ih _ _ h _ hR hF)

set_option maxRecDepth 100000 in
set_option maxHeartbeats 4000000 in
theorem p_X0_putFour {N : Nat} {M : vC} {R : vC} {a0 : Nat} {a1 : Int32} (ha0 : a0 < 3) (h : F_X0_putFour N M a0 a1 = some R) {E : vE} {S0 : vS} {z x d0 : Nat} (hR : RC S0 z x N d0 M) : vi_Met E yX0_putFour cX0_putFour 3 none 1 0 0 [.ref (ad z x 0 (a0)), .int (a1)] S0 (cz M) (D0 S0 z x N d0 R) := by
  refine vi_met (by decide) (Nat.le_of_ble_eq_true rfl) ?_
  intro X C
  have hF := cF.refl S0 z x N d0
  unfold F_X0_putFour at h
  refine vi_bipush (v := 24) C dX0_putFour_0 rfl (by decide) ?_
  refine vi_istore_n C dX0_putFour_2 rfl (by decide) ?_
  refine vi_cut [(0, .ref (ad z x 0 (a0))), (1, .int (a1)), (2, .int ((24 : Int32)))] ⟨rfl, rfl, rfl, trivial⟩ (w_X0_putFour_3 ha0 C ?_ _ _ _ h _ hR hF)
  · intro M3 h S hR hF
    exact c_ret0 C dX0_putFour_20 rfl hR hF ⟨Nat.zero_le _, Nat.zero_le _⟩ h

def L_X0_putAll_7 {ρ : Type} (N : Nat) (l0 : Nat) (a1f : Nat) (a1i : Nat) (l3 : Int32) (kx34 : vC → Option ρ) : Nat → vC → Int32 → Option ρ
  | 0, _, _ => none
  | f + 1, M, l4 => if l3 ≤ l4 then (kx34 M ) else ((hL M a1f a1i).bind fun v1 => if v1 ≤ l4 then (kx34 M ) else ((hG M a1f a1i (l4)).bind fun v2 => (F_X0_put N M (l0) (v2)).bind fun M3 => L_X0_putAll_7 N l0 a1f a1i l3 kx34 f M3 ((l4 + (1)))))

def F_X0_putAll (N : Nat) (M : vC) (a0 : Nat) (a1f : Nat) (a1i : Nat) (a2 : Int32) (a3 : Int32) : Option vC := L_X0_putAll_7 N (a0) a1f a1i (a3) (fun (M6 : vC)  => some M6) fu M ((mxI ((0 : Int32)) (a2)))

set_option maxRecDepth 100000 in
set_option maxHeartbeats 4000000 in
theorem w_X0_putAll_7 {E : vE} {X : vX} {S0 : vS} {z x N d0 : Nat} {ρ : Type} {R : ρ} {Z : State → Prop} {l0 : Nat} {a1f : Nat} {a1i : Nat} {l3 : Int32} {kx34 : vC → Option ρ} (hl0 : l0 < 3) (ha1 : a1f ≠ 1 → okS N (a1f / 100) a1i) (C : vi_C E X yX0_putAll cX0_putAll 5 none 1 0 0 (45 * 1)) (hx34 : ∀ (M : vC) , kx34 M  = some R → ∀ S, RC S z x N d0 M → cF S0 S z x N d0 → vi_W E X 5 Z 34 [] [] S (cz M) 0 0) : ∀ (f : Nat) (M : vC) (l4 : Int32), L_X0_putAll_7 N l0 a1f a1i l3 kx34 f M l4 = some R → ∀ S, RC S z x N d0 M → cF S0 S z x N d0 → vi_W E X 5 Z 7 [(0, .ref (ad z x 0 (l0))), (1, .ref (hA z x a1f a1i)), (3, .int (l3)), (4, .int (l4))] [] S (cz M) 0 0 := by
  intro f
  induction f with
  | zero => intro M l4 h; cases h
  | succ f ih =>
    intro M l4 h S hR hF
    rw [L_X0_putAll_7] at h
    refine vi_iload C dX0_putAll_7 rfl rfl ?_
    refine vi_iload_n C dX0_putAll_9 rfl rfl ?_
    refine vi_icmp_ge (t' := 34) C dX0_putAll_10 rfl (by decide) (fun c5 => ?_) (fun c5 => ?_)
    · replace h := iT c5 h
      exact (vi_cut [] trivial (hx34 _  h _ hR hF))
    · replace h := iN c5 h
      refine vi_iload C dX0_putAll_13 rfl rfl ?_
      refine vi_aload_n C dX0_putAll_15 rfl rfl ?_
      refine c_alenH C dX0_putAll_16 rfl hR ha1 h (fun v1 h => ?_)
      refine vi_icmp_ge (t' := 34) C dX0_putAll_17 rfl (by decide) (fun c4 => ?_) (fun c4 => ?_)
      · replace h := iT c4 h
        exact (vi_cut [] trivial (hx34 _  h _ hR hF))
      · replace h := iN c4 h
        refine vi_aload_n C dX0_putAll_20 rfl rfl ?_
        refine vi_aload_n C dX0_putAll_21 rfl rfl ?_
        refine vi_iload C dX0_putAll_22 rfl rfl ?_
        refine c_baloadH C dX0_putAll_24 rfl hR ha1 h (fun v2 h => ?_)
        refine c_cv0 (kc := 0) (a := (ad z x 0 (l0))) C [.int (v2)] [] dX0_putAll_25 rfl ivX0_20 imX0_put rfl rfl (rcK hR hl0) hR hF h (fun _ e => p_X0_put hl0 e hR) rfl (Nat.le_of_ble_eq_true rfl) ⟨by decide, by decide⟩ ⟨Nat.le_refl _, Nat.le_refl _⟩ (fun S M3 h hR hF => ?_)
        refine vi_iincv (v := 1) C dX0_putAll_28 rfl rfl (by decide) (by decide) ?_
        refine vi_goto (t' := 7) C dX0_putAll_31 (by decide) ?_
        exact vi_cut [(0, .ref (ad z x 0 (l0))), (1, .ref (hA z x a1f a1i)), (3, .int (l3)), (4, .int ((l4 + (1))))] ⟨rfl, rfl, rfl, rfl, trivial⟩ (ih _ _ h _ hR hF)

set_option maxRecDepth 100000 in
set_option maxHeartbeats 4000000 in
theorem p_X0_putAll {N : Nat} {M : vC} {R : vC} {a0 : Nat} {a1f : Nat} {a1i : Nat} {a2 : Int32} {a3 : Int32} (ha0 : a0 < 3) (ha1 : a1f ≠ 1 → okS N (a1f / 100) a1i) (h : F_X0_putAll N M a0 a1f a1i a2 a3 = some R) {E : vE} {S0 : vS} {z x d0 : Nat} (hR : RC S0 z x N d0 M) : vi_Met E yX0_putAll cX0_putAll 5 none 1 0 0 [.ref (ad z x 0 (a0)), .ref (hA z x a1f a1i), .int (a2), .int (a3)] S0 (cz M) (D0 S0 z x N d0 R) := by
  refine vi_met (by decide) (Nat.le_of_ble_eq_true rfl) ?_
  intro X C
  have hF := cF.refl S0 z x N d0
  unfold F_X0_putAll at h
  refine vi_iconst (v := 0) C dX0_putAll_0 rfl (by decide) ?_
  refine vi_iload_n C dX0_putAll_1 rfl rfl ?_
  refine vi_mmax C dX0_putAll_2 rfl ivX0_24 mlX0_24 (by decide) (Nat.le_of_ble_eq_true rfl) (Nat.zero_le _) (Nat.zero_le _) ?_
  refine vi_istore C dX0_putAll_5 rfl (by decide) ?_
  refine vi_cut [(0, .ref (ad z x 0 (a0))), (1, .ref (hA z x a1f a1i)), (3, .int (a3)), (4, .int ((mxI ((0 : Int32)) (a2))))] ⟨rfl, rfl, rfl, rfl, trivial⟩ (w_X0_putAll_7 ha0 ha1 C ?_ _ _ _ h _ hR hF)
  · intro M6 h S hR hF
    exact c_ret0 C dX0_putAll_34 rfl hR hF ⟨Nat.zero_le _, Nat.zero_le _⟩ h

def F_X0_byteAt (N : Nat) (M : vC) (a0 : Nat) (a1 : Int32) : Option (vC × Int32) := if a1 < 0 then (some (M, (0 : Int32))) else (if (cI M 1 (a0)) ≤ a1 then (some (M, (0 : Int32))) else ((cG M 0 (a0) (a1)).bind fun v1 => some (M, (v1 &&& (255 : Int32)))))

set_option maxRecDepth 100000 in
set_option maxHeartbeats 4000000 in
theorem p_X0_byteAt {N : Nat} {M : vC} {R : (vC × Int32)} {a0 : Nat} {a1 : Int32} (ha0 : a0 < 3) (h : F_X0_byteAt N M a0 a1 = some R) {E : vE} {S0 : vS} {z x d0 : Nat} (hR : RC S0 z x N d0 M) : vi_Met E yX0_byteAt cX0_byteAt 2 (some .int) 0 0 0 [.ref (ad z x 0 (a0)), .int (a1)] S0 (cz M) (D1 S0 z x N d0 R) := by
  refine vi_met (by decide) (Nat.le_of_ble_eq_true rfl) ?_
  intro X C
  have hF := cF.refl S0 z x N d0
  unfold F_X0_byteAt at h
  refine vi_iload_n C dX0_byteAt_0 rfl rfl ?_
  refine vi_if_lt (t' := 25) C dX0_byteAt_1 rfl (by decide) (fun c3 => ?_) (fun c3 => ?_)
  · replace h := iT c3 h
    refine vi_iconst (v := 0) C dX0_byteAt_25 rfl (by decide) ?_
    exact c_ret1 C dX0_byteAt_26 rfl hR hF ⟨Nat.zero_le _, Nat.zero_le _⟩ h
  · replace h := iN c3 h
    refine vi_iload_n C dX0_byteAt_4 rfl rfl ?_
    refine vi_aload_n C dX0_byteAt_5 rfl rfl ?_
    refine c_geti (f := 1) (k := 0) (i := a0) C dX0_byteAt_6 rfl fX0_13 rfl (by decide) rfl hR ha0 ?_
    refine vi_icmp_ge (t' := 25) C dX0_byteAt_9 rfl (by decide) (fun c2 => ?_) (fun c2 => ?_)
    · replace h := iT c2 h
      refine vi_iconst (v := 0) C dX0_byteAt_25 rfl (by decide) ?_
      exact c_ret1 C dX0_byteAt_26 rfl hR hF ⟨Nat.zero_le _, Nat.zero_le _⟩ h
    · replace h := iN c2 h
      refine vi_aload_n C dX0_byteAt_12 rfl rfl ?_
      refine c_gets (f := 0) (k := 0) (i := a0) C dX0_byteAt_13 rfl fX0_7 rfl (by decide) rfl hR ha0 rfl ?_
      refine vi_iload_n C dX0_byteAt_16 rfl rfl ?_
      refine c_baload C dX0_byteAt_17 rfl rfl hR ⟨ha0, by decide⟩ h (fun v1 h => ?_)
      refine vi_sipush (v := 255) C dX0_byteAt_18 rfl (by decide) ?_
      refine vi_iand C dX0_byteAt_21 rfl ?_
      refine vi_goto (t' := 26) C dX0_byteAt_22 (by decide) ?_
      exact c_ret1 C dX0_byteAt_26 rfl hR hF ⟨Nat.zero_le _, Nat.zero_le _⟩ h

def L_X0_checkStep_6 {ρ : Type} (N : Nat)  (kx38 : vC → Int32 → Option ρ) : Nat → vC → Int32 → Int32 → Option ρ
  | 0, _, _, _ => none
  | f + 1, M, l2, l3 => if (8 : Int32) ≤ l3 then (kx38 M (l2)) else (if (l2 &&& (1 : Int32)) = (1 : Int32) then (L_X0_checkStep_6 N  kx38 f M ((((l2).toUInt32 >>> (((1 : Int32)).toUInt32 &&& Int32.toUInt32 31)).toInt32 ^^^ (-306674912 : Int32))) ((l3 + (1)))) else (L_X0_checkStep_6 N  kx38 f M (((l2).toUInt32 >>> (((1 : Int32)).toUInt32 &&& Int32.toUInt32 31)).toInt32) ((l3 + (1)))))

def F_X0_checkStep (N : Nat) (M : vC) (a0 : Int32) (a1 : Int32) : Option (vC × Int32) := L_X0_checkStep_6 N  (fun (M3 : vC) (l4 : Int32) => some (M3, l4)) fu M ((a0 ^^^ a1)) ((0 : Int32))

set_option maxRecDepth 100000 in
set_option maxHeartbeats 4000000 in
theorem w_X0_checkStep_6 {E : vE} {X : vX} {S0 : vS} {z x N d0 : Nat} {ρ : Type} {R : ρ} {Z : State → Prop}  {kx38 : vC → Int32 → Option ρ}  (C : vi_C E X yX0_checkStep cX0_checkStep 4 (some .int) 0 0 0 (45 * 0)) (hx38 : ∀ (M : vC) (l2 : Int32), kx38 M l2 = some R → ∀ S, RC S z x N d0 M → cF S0 S z x N d0 → vi_W E X 4 Z 38 [(2, .int (l2))] [] S (cz M) 0 0) : ∀ (f : Nat) (M : vC) (l2 : Int32) (l3 : Int32), L_X0_checkStep_6 N  kx38 f M l2 l3 = some R → ∀ S, RC S z x N d0 M → cF S0 S z x N d0 → vi_W E X 4 Z 6 [(2, .int (l2)), (3, .int (l3))] [] S (cz M) 0 0 := by
  intro f
  induction f with
  | zero => intro M l2 l3 h; cases h
  | succ f ih =>
    intro M l2 l3 h S hR hF
    rw [L_X0_checkStep_6] at h
    refine vi_iload_n C dX0_checkStep_6 rfl rfl ?_
    refine vi_bipush (v := 8) C dX0_checkStep_7 rfl (by decide) ?_
    refine vi_icmp_ge (t' := 38) C dX0_checkStep_9 rfl (by decide) (fun c2 => ?_) (fun c2 => ?_)
    · replace h := iT c2 h
      exact (vi_cut [(2, .int (l2))] ⟨rfl, trivial⟩ (hx38 _ _ h _ hR hF))
    · replace h := iN c2 h
      refine vi_iload_n C dX0_checkStep_12 rfl rfl ?_
      refine vi_iconst (v := 1) C dX0_checkStep_13 rfl (by decide) ?_
      refine vi_iand C dX0_checkStep_14 rfl ?_
      refine vi_iconst (v := 1) C dX0_checkStep_15 rfl (by decide) ?_
      refine vi_icmp_ne (t' := 28) C dX0_checkStep_16 rfl (by decide) (fun c1 => ?_) (fun c1 => ?_)
      · replace h := iN c1 h
        refine vi_iload_n C dX0_checkStep_28 rfl rfl ?_
        refine vi_iconst (v := 1) C dX0_checkStep_29 rfl (by decide) ?_
        refine vi_iushr C dX0_checkStep_30 rfl ?_
        refine vi_istore_n C dX0_checkStep_31 rfl (by decide) ?_
        refine vi_iincv (v := 1) C dX0_checkStep_32 rfl rfl (by decide) (by decide) ?_
        refine vi_goto (t' := 6) C dX0_checkStep_35 (by decide) ?_
        exact vi_cut [(2, .int (((l2).toUInt32 >>> (((1 : Int32)).toUInt32 &&& Int32.toUInt32 31)).toInt32)), (3, .int ((l3 + (1))))] ⟨rfl, rfl, trivial⟩ (ih _ _ _ h _ hR hF)
      · replace h := iT c1 h
        refine vi_iload_n C dX0_checkStep_19 rfl rfl ?_
        refine vi_iconst (v := 1) C dX0_checkStep_20 rfl (by decide) ?_
        refine vi_iushr C dX0_checkStep_21 rfl ?_
        refine vi_ldc C dX0_checkStep_22 rfl kX0_37 ?_
        refine vi_ixor C dX0_checkStep_24 rfl ?_
        refine vi_goto (t' := 31) C dX0_checkStep_25 (by decide) ?_
        refine vi_istore_n C dX0_checkStep_31 rfl (by decide) ?_
        refine vi_iincv (v := 1) C dX0_checkStep_32 rfl rfl (by decide) (by decide) ?_
        refine vi_goto (t' := 6) C dX0_checkStep_35 (by decide) ?_
        exact vi_cut [(2, .int ((((l2).toUInt32 >>> (((1 : Int32)).toUInt32 &&& Int32.toUInt32 31)).toInt32 ^^^ (-306674912 : Int32)))), (3, .int ((l3 + (1))))] ⟨rfl, rfl, trivial⟩ (ih _ _ _ h _ hR hF)

set_option maxRecDepth 100000 in
set_option maxHeartbeats 4000000 in
theorem p_X0_checkStep {N : Nat} {M : vC} {R : (vC × Int32)} {a0 : Int32} {a1 : Int32}  (h : F_X0_checkStep N M a0 a1 = some R) {E : vE} {S0 : vS} {z x d0 : Nat} (hR : RC S0 z x N d0 M) : vi_Met E yX0_checkStep cX0_checkStep 4 (some .int) 0 0 0 [.int (a0), .int (a1)] S0 (cz M) (D1 S0 z x N d0 R) := by
  refine vi_met (by decide) (Nat.le_of_ble_eq_true rfl) ?_
  intro X C
  have hF := cF.refl S0 z x N d0
  unfold F_X0_checkStep at h
  refine vi_iload_n C dX0_checkStep_0 rfl rfl ?_
  refine vi_iload_n C dX0_checkStep_1 rfl rfl ?_
  refine vi_ixor C dX0_checkStep_2 rfl ?_
  refine vi_istore_n C dX0_checkStep_3 rfl (by decide) ?_
  refine vi_iconst (v := 0) C dX0_checkStep_4 rfl (by decide) ?_
  refine vi_istore_n C dX0_checkStep_5 rfl (by decide) ?_
  refine vi_cut [(2, .int ((a0 ^^^ a1))), (3, .int ((0 : Int32)))] ⟨rfl, rfl, trivial⟩ (w_X0_checkStep_6  C ?_ _ _ _ _ h _ hR hF)
  · intro M3 l4 h S hR hF
    refine vi_iload_n C dX0_checkStep_38 rfl rfl ?_
    exact c_ret1 C dX0_checkStep_39 rfl hR hF ⟨Nat.zero_le _, Nat.zero_le _⟩ h

def L_X0_putCheck_4 {ρ : Type} (N : Nat) (l0 : Nat) (kx28 : vC → Int32 → Option ρ) : Nat → vC → Int32 → Int32 → Option ρ
  | 0, _, _, _ => none
  | f + 1, M, l2, l3 => if (cI M 1 (l0)) ≤ l3 then (kx28 M (l2)) else (b2 (F_X0_byteAt N M (l0) (l3)) fun M1 v2 => b2 (F_X0_checkStep N M1 (l2) (v2)) fun M3 v4 => L_X0_putCheck_4 N l0 kx28 f M3 (v4) ((l3 + (1))))

def L_X0_putCheck_30 {ρ : Type} (N : Nat) (l0 : Nat) (l2 : Int32) (kx51 : vC → Option ρ) : Nat → vC → Int32 → Option ρ
  | 0, _, _ => none
  | f + 1, M, l3 => if (32 : Int32) ≤ l3 then (kx51 M ) else ((F_X0_put N M (l0) ((((l2 ^^^ (-1 : Int32))).toUInt32 >>> ((l3).toUInt32 &&& Int32.toUInt32 31)).toInt32)).bind fun M8 => L_X0_putCheck_30 N l0 l2 kx51 f M8 ((l3 + (8))))

def F_X0_putCheck (N : Nat) (M : vC) (a0 : Nat) (a1 : Int32) : Option vC := L_X0_putCheck_4 N (a0) (fun (M6 : vC) (l7 : Int32) => L_X0_putCheck_30 N (a0) (l7) (fun (M10 : vC)  => some M10) fu M6 ((0 : Int32))) fu M ((-1 : Int32)) (a1)

set_option maxRecDepth 100000 in
set_option maxHeartbeats 4000000 in
theorem w_X0_putCheck_4 {E : vE} {X : vX} {S0 : vS} {z x N d0 : Nat} {ρ : Type} {R : ρ} {Z : State → Prop} {l0 : Nat} {kx28 : vC → Int32 → Option ρ} (hl0 : l0 < 3) (C : vi_C E X yX0_putCheck cX0_putCheck 4 none 1 0 0 (45 * 1)) (hx28 : ∀ (M : vC) (l2 : Int32), kx28 M l2 = some R → ∀ S, RC S z x N d0 M → cF S0 S z x N d0 → vi_W E X 4 Z 28 [(0, .ref (ad z x 0 (l0))), (2, .int (l2))] [] S (cz M) 0 0) : ∀ (f : Nat) (M : vC) (l2 : Int32) (l3 : Int32), L_X0_putCheck_4 N l0 kx28 f M l2 l3 = some R → ∀ S, RC S z x N d0 M → cF S0 S z x N d0 → vi_W E X 4 Z 4 [(0, .ref (ad z x 0 (l0))), (2, .int (l2)), (3, .int (l3))] [] S (cz M) 0 0 := by
  intro f
  induction f with
  | zero => intro M l2 l3 h; cases h
  | succ f ih =>
    intro M l2 l3 h S hR hF
    rw [L_X0_putCheck_4] at h
    refine vi_iload_n C dX0_putCheck_4 rfl rfl ?_
    refine vi_aload_n C dX0_putCheck_5 rfl rfl ?_
    refine c_geti (f := 1) (k := 0) (i := l0) C dX0_putCheck_6 rfl fX0_13 rfl (by decide) rfl hR hl0 ?_
    refine vi_icmp_ge (t' := 28) C dX0_putCheck_9 rfl (by decide) (fun c5 => ?_) (fun c5 => ?_)
    · replace h := iT c5 h
      exact (vi_cut [(0, .ref (ad z x 0 (l0))), (2, .int (l2))] ⟨rfl, rfl, trivial⟩ (hx28 _ _ h _ hR hF))
    · replace h := iN c5 h
      refine vi_iload_n C dX0_putCheck_12 rfl rfl ?_
      refine vi_aload_n C dX0_putCheck_13 rfl rfl ?_
      refine vi_iload_n C dX0_putCheck_14 rfl rfl ?_
      refine c_cv1 (kc := 0) (a := (ad z x 0 (l0))) C [.int (l3)] [.int (l2)] dX0_putCheck_15 rfl ivX0_30 imX0_byteAt rfl rfl (rcK hR hl0) hR hF h (fun _ e => p_X0_byteAt hl0 e hR) rfl (Nat.le_of_ble_eq_true rfl) ⟨by decide, by decide⟩ ⟨Nat.le_refl _, Nat.le_refl _⟩ (fun S M1 v2 h hR hF => ?_)
      refine c_cs1 C [.int (l2), .int (v2)] [] dX0_putCheck_18 rfl ivX0_34 isX0_checkStep hR hF h (fun _ e => p_X0_checkStep  e hR) rfl (Nat.le_of_ble_eq_true rfl) ⟨by decide, by decide⟩ ⟨Nat.le_refl _, Nat.le_refl _⟩ (fun S M3 v4 h hR hF => ?_)
      refine vi_istore_n C dX0_putCheck_21 rfl (by decide) ?_
      refine vi_iincv (v := 1) C dX0_putCheck_22 rfl rfl (by decide) (by decide) ?_
      refine vi_goto (t' := 4) C dX0_putCheck_25 (by decide) ?_
      exact vi_cut [(0, .ref (ad z x 0 (l0))), (2, .int (v4)), (3, .int ((l3 + (1))))] ⟨rfl, rfl, rfl, trivial⟩ (ih _ _ _ h _ hR hF)

set_option maxRecDepth 100000 in
set_option maxHeartbeats 4000000 in
theorem w_X0_putCheck_30 {E : vE} {X : vX} {S0 : vS} {z x N d0 : Nat} {ρ : Type} {R : ρ} {Z : State → Prop} {l0 : Nat} {l2 : Int32} {kx51 : vC → Option ρ} (hl0 : l0 < 3) (C : vi_C E X yX0_putCheck cX0_putCheck 4 none 1 0 0 (45 * 1)) (hx51 : ∀ (M : vC) , kx51 M  = some R → ∀ S, RC S z x N d0 M → cF S0 S z x N d0 → vi_W E X 4 Z 51 [] [] S (cz M) 0 0) : ∀ (f : Nat) (M : vC) (l3 : Int32), L_X0_putCheck_30 N l0 l2 kx51 f M l3 = some R → ∀ S, RC S z x N d0 M → cF S0 S z x N d0 → vi_W E X 4 Z 30 [(0, .ref (ad z x 0 (l0))), (2, .int (l2)), (3, .int (l3))] [] S (cz M) 0 0 := by
  intro f
  induction f with
  | zero => intro M l3 h; cases h
  | succ f ih =>
    intro M l3 h S hR hF
    rw [L_X0_putCheck_30] at h
    refine vi_iload_n C dX0_putCheck_30 rfl rfl ?_
    refine vi_bipush (v := 32) C dX0_putCheck_31 rfl (by decide) ?_
    refine vi_icmp_ge (t' := 51) C dX0_putCheck_33 rfl (by decide) (fun c9 => ?_) (fun c9 => ?_)
    · replace h := iT c9 h
      exact (vi_cut [] trivial (hx51 _  h _ hR hF))
    · replace h := iN c9 h
      refine vi_aload_n C dX0_putCheck_36 rfl rfl ?_
      refine vi_iload_n C dX0_putCheck_37 rfl rfl ?_
      refine vi_iconst (v := -1) C dX0_putCheck_38 rfl (by decide) ?_
      refine vi_ixor C dX0_putCheck_39 rfl ?_
      refine vi_iload_n C dX0_putCheck_40 rfl rfl ?_
      refine vi_iushr C dX0_putCheck_41 rfl ?_
      refine c_cv0 (kc := 0) (a := (ad z x 0 (l0))) C [.int ((((l2 ^^^ (-1 : Int32))).toUInt32 >>> ((l3).toUInt32 &&& Int32.toUInt32 31)).toInt32)] [] dX0_putCheck_42 rfl ivX0_20 imX0_put rfl rfl (rcK hR hl0) hR hF h (fun _ e => p_X0_put hl0 e hR) rfl (Nat.le_of_ble_eq_true rfl) ⟨by decide, by decide⟩ ⟨Nat.le_refl _, Nat.le_refl _⟩ (fun S M8 h hR hF => ?_)
      refine vi_iincv (v := 8) C dX0_putCheck_45 rfl rfl (by decide) (by decide) ?_
      refine vi_goto (t' := 30) C dX0_putCheck_48 (by decide) ?_
      exact vi_cut [(0, .ref (ad z x 0 (l0))), (2, .int (l2)), (3, .int ((l3 + (8))))] ⟨rfl, rfl, rfl, trivial⟩ (ih _ _ h _ hR hF)

set_option maxRecDepth 100000 in
set_option maxHeartbeats 4000000 in
theorem p_X0_putCheck {N : Nat} {M : vC} {R : vC} {a0 : Nat} {a1 : Int32} (ha0 : a0 < 3) (h : F_X0_putCheck N M a0 a1 = some R) {E : vE} {S0 : vS} {z x d0 : Nat} (hR : RC S0 z x N d0 M) : vi_Met E yX0_putCheck cX0_putCheck 4 none 1 0 0 [.ref (ad z x 0 (a0)), .int (a1)] S0 (cz M) (D0 S0 z x N d0 R) := by
  refine vi_met (by decide) (Nat.le_of_ble_eq_true rfl) ?_
  intro X C
  have hF := cF.refl S0 z x N d0
  unfold F_X0_putCheck at h
  refine vi_iconst (v := -1) C dX0_putCheck_0 rfl (by decide) ?_
  refine vi_istore_n C dX0_putCheck_1 rfl (by decide) ?_
  refine vi_iload_n C dX0_putCheck_2 rfl rfl ?_
  refine vi_istore_n C dX0_putCheck_3 rfl (by decide) ?_
  refine vi_cut [(0, .ref (ad z x 0 (a0))), (2, .int ((-1 : Int32))), (3, .int (a1))] ⟨rfl, rfl, rfl, trivial⟩ (w_X0_putCheck_4 ha0 C ?_ _ _ _ _ h _ hR hF)
  · intro M6 l7 h S hR hF
    refine vi_iconst (v := 0) C dX0_putCheck_28 rfl (by decide) ?_
    refine vi_istore_n C dX0_putCheck_29 rfl (by decide) ?_
    refine vi_cut [(0, .ref (ad z x 0 (a0))), (2, .int (l7)), (3, .int ((0 : Int32)))] ⟨rfl, rfl, rfl, trivial⟩ (w_X0_putCheck_30 ha0 C ?_ _ _ _ h _ hR hF)
    · intro M10 h S hR hF
      exact c_ret0 C dX0_putCheck_51 rfl hR hF ⟨Nat.zero_le _, Nat.zero_le _⟩ h

def F_X0_take (N : Nat) (M : vC) (a0 : Nat) : Option (vC × Int32) := b2 (F_X0_byteAt N M (a0) ((cI M 2 (a0)))) fun M1 v2 => lt1 (uI M1 2 (a0) (((cI M1 2 (a0)) + (1 : Int32)))) fun M3 => some (M3, v2)

set_option maxRecDepth 100000 in
set_option maxHeartbeats 4000000 in
theorem p_X0_take {N : Nat} {M : vC} {R : (vC × Int32)} {a0 : Nat} (ha0 : a0 < 3) (h : F_X0_take N M a0 = some R) {E : vE} {S0 : vS} {z x d0 : Nat} (hR : RC S0 z x N d0 M) : vi_Met E yX0_take cX0_take 2 (some .int) 1 0 0 [.ref (ad z x 0 (a0))] S0 (cz M) (D1 S0 z x N d0 R) := by
  refine vi_met (by decide) (Nat.le_of_ble_eq_true rfl) ?_
  intro X C
  have hF := cF.refl S0 z x N d0
  unfold F_X0_take at h
  refine vi_aload_n C dX0_take_0 rfl rfl ?_
  refine vi_aload_n C dX0_take_1 rfl rfl ?_
  refine c_geti (f := 2) (k := 0) (i := a0) C dX0_take_2 rfl fX0_17 rfl (by decide) rfl hR ha0 ?_
  refine c_cv1 (kc := 0) (a := (ad z x 0 (a0))) C [.int ((cI M 2 (a0)))] [] dX0_take_5 rfl ivX0_30 imX0_byteAt rfl rfl (rcK hR ha0) hR hF h (fun _ e => p_X0_byteAt ha0 e hR) rfl (Nat.le_of_ble_eq_true rfl) ⟨by decide, by decide⟩ ⟨Nat.le_refl _, Nat.le_refl _⟩ (fun S M1 v2 h hR hF => ?_)
  refine vi_istore_n C dX0_take_8 rfl (by decide) ?_
  refine vi_aload_n C dX0_take_9 rfl rfl ?_
  refine vi_dup C dX0_take_10 rfl rfl ?_
  refine c_geti (f := 2) (k := 0) (i := a0) C dX0_take_11 rfl fX0_17 rfl (by decide) rfl hR ha0 ?_
  refine vi_iconst (v := 1) C dX0_take_14 rfl (by decide) ?_
  refine vi_iadd C dX0_take_15 rfl ?_
  refine c_puti (f := 2) (k := 0) (i := a0) C dX0_take_16 rfl (fpX0_17 _) rfl (by decide) rfl hR hF ha0 h (fun S M3 h hR hF => ?_)
  refine vi_iload_n C dX0_take_19 rfl rfl ?_
  exact c_ret1 C dX0_take_20 rfl hR hF ⟨Nat.zero_le _, Nat.zero_le _⟩ h

def L_X0_takeU_4 {ρ : Type} (N : Nat) (l0 : Nat) (kx31 : vC → Int32 → Option ρ) (kx40 : vC → Int32 → Option ρ) : Nat → vC → Int32 → Int32 → Option ρ
  | 0, _, _, _ => none
  | f + 1, M, l1, l2 => if (35 : Int32) ≤ l2 then (kx40 M (l1)) else (b2 (F_X0_take N M (l0)) fun M1 v2 => if (128 : Int32) ≤ v2 then (L_X0_takeU_4 N l0 kx31 kx40 f M1 ((l1 ||| ((v2 &&& (127 : Int32)) <<< (l2 &&& 31)))) ((l2 + (7)))) else (kx31 M1 ((l1 ||| ((v2 &&& (127 : Int32)) <<< (l2 &&& 31))))))

def F_X0_takeU (N : Nat) (M : vC) (a0 : Nat) : Option (vC × Int32) := L_X0_takeU_4 N (a0) (fun (M5 : vC) (l6 : Int32) => some (M5, l6)) (fun (M7 : vC) (l8 : Int32) => some (M7, l8)) fu M ((0 : Int32)) ((0 : Int32))

set_option maxRecDepth 100000 in
set_option maxHeartbeats 4000000 in
theorem w_X0_takeU_4 {E : vE} {X : vX} {S0 : vS} {z x N d0 : Nat} {ρ : Type} {R : ρ} {Z : State → Prop} {l0 : Nat} {kx31 : vC → Int32 → Option ρ} {kx40 : vC → Int32 → Option ρ} (hl0 : l0 < 3) (C : vi_C E X yX0_takeU cX0_takeU 4 (some .int) 2 0 0 (45 * 2)) (hx31 : ∀ (M : vC) (l1 : Int32), kx31 M l1 = some R → ∀ S, RC S z x N d0 M → cF S0 S z x N d0 → vi_W E X 4 Z 31 [(1, .int (l1))] [] S (cz M) 0 0) (hx40 : ∀ (M : vC) (l1 : Int32), kx40 M l1 = some R → ∀ S, RC S z x N d0 M → cF S0 S z x N d0 → vi_W E X 4 Z 40 [(1, .int (l1))] [] S (cz M) 0 0) : ∀ (f : Nat) (M : vC) (l1 : Int32) (l2 : Int32), L_X0_takeU_4 N l0 kx31 kx40 f M l1 l2 = some R → ∀ S, RC S z x N d0 M → cF S0 S z x N d0 → vi_W E X 4 Z 4 [(0, .ref (ad z x 0 (l0))), (1, .int (l1)), (2, .int (l2))] [] S (cz M) 0 0 := by
  intro f
  induction f with
  | zero => intro M l1 l2 h; cases h
  | succ f ih =>
    intro M l1 l2 h S hR hF
    rw [L_X0_takeU_4] at h
    refine vi_iload_n C dX0_takeU_4 rfl rfl ?_
    refine vi_bipush (v := 35) C dX0_takeU_5 rfl (by decide) ?_
    refine vi_icmp_ge (t' := 40) C dX0_takeU_7 rfl (by decide) (fun c4 => ?_) (fun c4 => ?_)
    · replace h := iT c4 h
      exact (vi_cut [(1, .int (l1))] ⟨rfl, trivial⟩ (hx40 _ _ h _ hR hF))
    · replace h := iN c4 h
      refine vi_aload_n C dX0_takeU_10 rfl rfl ?_
      refine c_cv1 (kc := 0) (a := (ad z x 0 (l0))) C [] [] dX0_takeU_11 rfl ivX0_38 imX0_take rfl rfl (rcK hR hl0) hR hF h (fun _ e => p_X0_take hl0 e hR) rfl (Nat.le_of_ble_eq_true rfl) ⟨by decide, by decide⟩ ⟨Nat.le_refl _, Nat.le_refl _⟩ (fun S M1 v2 h hR hF => ?_)
      refine vi_istore_n C dX0_takeU_14 rfl (by decide) ?_
      refine vi_iload_n C dX0_takeU_15 rfl rfl ?_
      refine vi_iload_n C dX0_takeU_16 rfl rfl ?_
      refine vi_bipush (v := 127) C dX0_takeU_17 rfl (by decide) ?_
      refine vi_iand C dX0_takeU_19 rfl ?_
      refine vi_iload_n C dX0_takeU_20 rfl rfl ?_
      refine vi_ishl C dX0_takeU_21 rfl ?_
      refine vi_ior C dX0_takeU_22 rfl ?_
      refine vi_istore_n C dX0_takeU_23 rfl (by decide) ?_
      refine vi_iload_n C dX0_takeU_24 rfl rfl ?_
      refine vi_sipush (v := 128) C dX0_takeU_25 rfl (by decide) ?_
      refine vi_icmp_ge (t' := 34) C dX0_takeU_28 rfl (by decide) (fun c3 => ?_) (fun c3 => ?_)
      · replace h := iT c3 h
        refine vi_iincv (v := 7) C dX0_takeU_34 rfl rfl (by decide) (by decide) ?_
        refine vi_goto (t' := 4) C dX0_takeU_37 (by decide) ?_
        exact vi_cut [(0, .ref (ad z x 0 (l0))), (1, .int ((l1 ||| ((v2 &&& (127 : Int32)) <<< (l2 &&& 31))))), (2, .int ((l2 + (7))))] ⟨rfl, rfl, rfl, trivial⟩ (ih _ _ _ h _ hR hF)
      · replace h := iN c3 h
        exact (vi_cut [(1, .int ((l1 ||| ((v2 &&& (127 : Int32)) <<< (l2 &&& 31)))))] ⟨rfl, trivial⟩ (hx31 _ _ h _ hR hF))

set_option maxRecDepth 100000 in
set_option maxHeartbeats 4000000 in
theorem p_X0_takeU {N : Nat} {M : vC} {R : (vC × Int32)} {a0 : Nat} (ha0 : a0 < 3) (h : F_X0_takeU N M a0 = some R) {E : vE} {S0 : vS} {z x d0 : Nat} (hR : RC S0 z x N d0 M) : vi_Met E yX0_takeU cX0_takeU 4 (some .int) 2 0 0 [.ref (ad z x 0 (a0))] S0 (cz M) (D1 S0 z x N d0 R) := by
  refine vi_met (by decide) (Nat.le_of_ble_eq_true rfl) ?_
  intro X C
  have hF := cF.refl S0 z x N d0
  unfold F_X0_takeU at h
  refine vi_iconst (v := 0) C dX0_takeU_0 rfl (by decide) ?_
  refine vi_istore_n C dX0_takeU_1 rfl (by decide) ?_
  refine vi_iconst (v := 0) C dX0_takeU_2 rfl (by decide) ?_
  refine vi_istore_n C dX0_takeU_3 rfl (by decide) ?_
  refine vi_cut [(0, .ref (ad z x 0 (a0))), (1, .int ((0 : Int32))), (2, .int ((0 : Int32)))] ⟨rfl, rfl, rfl, trivial⟩ (w_X0_takeU_4 ha0 C ?_ ?_ _ _ _ _ h _ hR hF)
  · intro M5 l6 h S hR hF
    refine vi_goto (t' := 40) C dX0_takeU_31 (by decide) ?_
    refine vi_iload_n C dX0_takeU_40 rfl rfl ?_
    exact c_ret1 C dX0_takeU_41 rfl hR hF ⟨Nat.zero_le _, Nat.zero_le _⟩ h
  · intro M7 l8 h S hR hF
    refine vi_iload_n C dX0_takeU_40 rfl rfl ?_
    exact c_ret1 C dX0_takeU_41 rfl hR hF ⟨Nat.zero_le _, Nat.zero_le _⟩ h

def F_X0_takeTwo (N : Nat) (M : vC) (a0 : Nat) : Option (vC × Int32) := b2 (F_X0_take N M (a0)) fun M1 v2 => b2 (F_X0_take N M1 (a0)) fun M3 v4 => some (M3, ((v2 <<< ((8 : Int32) &&& 31)) ||| v4))

set_option maxRecDepth 100000 in
set_option maxHeartbeats 4000000 in
theorem p_X0_takeTwo {N : Nat} {M : vC} {R : (vC × Int32)} {a0 : Nat} (ha0 : a0 < 3) (h : F_X0_takeTwo N M a0 = some R) {E : vE} {S0 : vS} {z x d0 : Nat} (hR : RC S0 z x N d0 M) : vi_Met E yX0_takeTwo cX0_takeTwo 2 (some .int) 2 0 0 [.ref (ad z x 0 (a0))] S0 (cz M) (D1 S0 z x N d0 R) := by
  refine vi_met (by decide) (Nat.le_of_ble_eq_true rfl) ?_
  intro X C
  have hF := cF.refl S0 z x N d0
  unfold F_X0_takeTwo at h
  refine vi_aload_n C dX0_takeTwo_0 rfl rfl ?_
  refine c_cv1 (kc := 0) (a := (ad z x 0 (a0))) C [] [] dX0_takeTwo_1 rfl ivX0_38 imX0_take rfl rfl (rcK hR ha0) hR hF h (fun _ e => p_X0_take ha0 e hR) rfl (Nat.le_of_ble_eq_true rfl) ⟨by decide, by decide⟩ ⟨Nat.le_refl _, Nat.le_refl _⟩ (fun S M1 v2 h hR hF => ?_)
  refine vi_istore_n C dX0_takeTwo_4 rfl (by decide) ?_
  refine vi_iload_n C dX0_takeTwo_5 rfl rfl ?_
  refine vi_bipush (v := 8) C dX0_takeTwo_6 rfl (by decide) ?_
  refine vi_ishl C dX0_takeTwo_8 rfl ?_
  refine vi_aload_n C dX0_takeTwo_9 rfl rfl ?_
  refine c_cv1 (kc := 0) (a := (ad z x 0 (a0))) C [] [.int ((v2 <<< ((8 : Int32) &&& 31)))] dX0_takeTwo_10 rfl ivX0_38 imX0_take rfl rfl (rcK hR ha0) hR hF h (fun _ e => p_X0_take ha0 e hR) rfl (Nat.le_of_ble_eq_true rfl) ⟨by decide, by decide⟩ ⟨Nat.le_refl _, Nat.le_refl _⟩ (fun S M3 v4 h hR hF => ?_)
  refine vi_ior C dX0_takeTwo_13 rfl ?_
  exact c_ret1 C dX0_takeTwo_14 rfl hR hF ⟨Nat.zero_le _, Nat.zero_le _⟩ h

def L_X0_takeFour_4 {ρ : Type} (N : Nat) (l0 : Nat) (kx25 : vC → Int32 → Option ρ) : Nat → vC → Int32 → Int32 → Option ρ
  | 0, _, _, _ => none
  | f + 1, M, l1, l2 => if (4 : Int32) ≤ l2 then (kx25 M (l1)) else (b2 (F_X0_take N M (l0)) fun M1 v2 => L_X0_takeFour_4 N l0 kx25 f M1 (((l1 <<< ((8 : Int32) &&& 31)) ||| v2)) ((l2 + (1))))

def F_X0_takeFour (N : Nat) (M : vC) (a0 : Nat) : Option (vC × Int32) := L_X0_takeFour_4 N (a0) (fun (M4 : vC) (l5 : Int32) => some (M4, l5)) fu M ((0 : Int32)) ((0 : Int32))

set_option maxRecDepth 100000 in
set_option maxHeartbeats 4000000 in
theorem w_X0_takeFour_4 {E : vE} {X : vX} {S0 : vS} {z x N d0 : Nat} {ρ : Type} {R : ρ} {Z : State → Prop} {l0 : Nat} {kx25 : vC → Int32 → Option ρ} (hl0 : l0 < 3) (C : vi_C E X yX0_takeFour cX0_takeFour 3 (some .int) 2 0 0 (45 * 2)) (hx25 : ∀ (M : vC) (l1 : Int32), kx25 M l1 = some R → ∀ S, RC S z x N d0 M → cF S0 S z x N d0 → vi_W E X 3 Z 25 [(1, .int (l1))] [] S (cz M) 0 0) : ∀ (f : Nat) (M : vC) (l1 : Int32) (l2 : Int32), L_X0_takeFour_4 N l0 kx25 f M l1 l2 = some R → ∀ S, RC S z x N d0 M → cF S0 S z x N d0 → vi_W E X 3 Z 4 [(0, .ref (ad z x 0 (l0))), (1, .int (l1)), (2, .int (l2))] [] S (cz M) 0 0 := by
  intro f
  induction f with
  | zero => intro M l1 l2 h; cases h
  | succ f ih =>
    intro M l1 l2 h S hR hF
    rw [L_X0_takeFour_4] at h
    refine vi_iload_n C dX0_takeFour_4 rfl rfl ?_
    refine vi_iconst (v := 4) C dX0_takeFour_5 rfl (by decide) ?_
    refine vi_icmp_ge (t' := 25) C dX0_takeFour_6 rfl (by decide) (fun c3 => ?_) (fun c3 => ?_)
    · replace h := iT c3 h
      exact (vi_cut [(1, .int (l1))] ⟨rfl, trivial⟩ (hx25 _ _ h _ hR hF))
    · replace h := iN c3 h
      refine vi_iload_n C dX0_takeFour_9 rfl rfl ?_
      refine vi_bipush (v := 8) C dX0_takeFour_10 rfl (by decide) ?_
      refine vi_ishl C dX0_takeFour_12 rfl ?_
      refine vi_aload_n C dX0_takeFour_13 rfl rfl ?_
      refine c_cv1 (kc := 0) (a := (ad z x 0 (l0))) C [] [.int ((l1 <<< ((8 : Int32) &&& 31)))] dX0_takeFour_14 rfl ivX0_38 imX0_take rfl rfl (rcK hR hl0) hR hF h (fun _ e => p_X0_take hl0 e hR) rfl (Nat.le_of_ble_eq_true rfl) ⟨by decide, by decide⟩ ⟨Nat.le_refl _, Nat.le_refl _⟩ (fun S M1 v2 h hR hF => ?_)
      refine vi_ior C dX0_takeFour_17 rfl ?_
      refine vi_istore_n C dX0_takeFour_18 rfl (by decide) ?_
      refine vi_iincv (v := 1) C dX0_takeFour_19 rfl rfl (by decide) (by decide) ?_
      refine vi_goto (t' := 4) C dX0_takeFour_22 (by decide) ?_
      exact vi_cut [(0, .ref (ad z x 0 (l0))), (1, .int (((l1 <<< ((8 : Int32) &&& 31)) ||| v2))), (2, .int ((l2 + (1))))] ⟨rfl, rfl, rfl, trivial⟩ (ih _ _ _ h _ hR hF)

set_option maxRecDepth 100000 in
set_option maxHeartbeats 4000000 in
theorem p_X0_takeFour {N : Nat} {M : vC} {R : (vC × Int32)} {a0 : Nat} (ha0 : a0 < 3) (h : F_X0_takeFour N M a0 = some R) {E : vE} {S0 : vS} {z x d0 : Nat} (hR : RC S0 z x N d0 M) : vi_Met E yX0_takeFour cX0_takeFour 3 (some .int) 2 0 0 [.ref (ad z x 0 (a0))] S0 (cz M) (D1 S0 z x N d0 R) := by
  refine vi_met (by decide) (Nat.le_of_ble_eq_true rfl) ?_
  intro X C
  have hF := cF.refl S0 z x N d0
  unfold F_X0_takeFour at h
  refine vi_iconst (v := 0) C dX0_takeFour_0 rfl (by decide) ?_
  refine vi_istore_n C dX0_takeFour_1 rfl (by decide) ?_
  refine vi_iconst (v := 0) C dX0_takeFour_2 rfl (by decide) ?_
  refine vi_istore_n C dX0_takeFour_3 rfl (by decide) ?_
  refine vi_cut [(0, .ref (ad z x 0 (a0))), (1, .int ((0 : Int32))), (2, .int ((0 : Int32)))] ⟨rfl, rfl, rfl, trivial⟩ (w_X0_takeFour_4 ha0 C ?_ _ _ _ _ h _ hR hF)
  · intro M4 l5 h S hR hF
    refine vi_iload_n C dX0_takeFour_25 rfl rfl ?_
    exact c_ret1 C dX0_takeFour_26 rfl hR hF ⟨Nat.zero_le _, Nat.zero_le _⟩ h

def F_X0_copy (N : Nat) (M : vC) (a0 : Nat) : Option (vC × Option Nat) := gd (¬ (cI M 1 (a0)) < 0 ∧ ((cI M 1 (a0))).toNatClampNeg ≤ 256) <| lt1 (nD M 20 ((cI M 1 (a0))).toNatClampNeg) fun M1 => (cpB M1 (a0) (cz M) ((0 : Int32)) ((0 : Int32)) ((cI M1 1 (a0)))).bind fun M4 => some (M4, (some (cz M)))

set_option maxRecDepth 100000 in
set_option maxHeartbeats 4000000 in
theorem p_X0_copy {N : Nat} {M : vC} {R : (vC × Option Nat)} {a0 : Nat} (ha0 : a0 < 3) (h : F_X0_copy N M a0 = some R) {E : vE} {S0 : vS} {z x d0 : Nat} (hR : RC S0 z x N d0 M) : vi_Met E yX0_copy cX0_copy 2 (some (.array .byte)) 1 1 256 [.ref (ad z x 0 (a0))] S0 (cz M) (D4 S0 z x N d0 R) := by
  refine vi_met (by decide) (Nat.le_of_ble_eq_true rfl) ?_
  intro X C
  have hF := cF.refl S0 z x N d0
  unfold F_X0_copy at h
  refine vi_aload_n C dX0_copy_0 rfl rfl ?_
  refine c_geti (f := 1) (k := 0) (i := a0) C dX0_copy_1 rfl fX0_13 rfl (by decide) rfl hR ha0 ?_
  obtain ⟨c3, h⟩ := gdo h
  refine c_newB C dX0_copy_4 rfl c3 (by omega) (by omega) hR hF h (fun S M1 e2 h hR hF => ?_)
  refine vi_astore_n C dX0_copy_6 rfl (by decide) ?_
  refine vi_aload_n C dX0_copy_7 rfl rfl ?_
  refine c_gets (f := 0) (k := 0) (i := a0) C dX0_copy_8 rfl fX0_7 rfl (by decide) rfl hR ha0 rfl ?_
  refine vi_iconst (v := 0) C dX0_copy_11 rfl (by decide) ?_
  refine vi_aload_n C dX0_copy_12 rfl rfl ?_
  refine vi_iconst (v := 0) C dX0_copy_13 rfl (by decide) ?_
  refine vi_aload_n C dX0_copy_14 rfl rfl ?_
  refine c_geti (f := 1) (k := 0) (i := a0) C dX0_copy_15 rfl fX0_13 rfl (by decide) rfl hR ha0 ?_
  refine c_copyB C dX0_copy_18 rfl acX0_42 ha0 (by decide) (Nat.le_of_ble_eq_true rfl) hR hF h (fun S M4 h hR hF => ?_)
  refine vi_aload_n C dX0_copy_21 rfl rfl ?_
  exact c_ret4 (v := (some (cz M))) C dX0_copy_22 rfl (Or.inr ⟨_, rfl⟩) hR hF ⟨by omega, by omega⟩ h

def F_X1_address (N : Nat) (M : vC) (a0 : Nat) (a1 : Int32) (a2 : Int32) (a3 : Int32) : Option vC := lt1 (uI M 100 (a0) (a1)) fun M1 => lt1 (uI M1 101 (a0) (a2)) fun M2 => lt1 (uI M2 102 (a0) (a3)) fun M3 => lt1 (uP M3 105 (a0) none) fun M4 => lt1 (uI M4 106 (a0) ((0 : Int32))) fun M5 => lt1 (uP M5 107 (a0) none) fun M6 => lt1 (uI M6 108 (a0) ((-1 : Int32))) fun M7 => lt1 (uI M7 109 (a0) ((-1 : Int32))) fun M8 => some M8

set_option maxRecDepth 100000 in
set_option maxHeartbeats 4000000 in
theorem p_X1_address {N : Nat} {M : vC} {R : vC} {a0 : Nat} {a1 : Int32} {a2 : Int32} {a3 : Int32} (ha0 : a0 < 202) (h : F_X1_address N M a0 a1 a2 a3 = some R) {E : vE} {S0 : vS} {z x d0 : Nat} (hR : RC S0 z x N d0 M) : vi_Met E yX1_address cX1_address 4 none 0 0 0 [.ref (ad z x 1 (a0)), .int (a1), .int (a2), .int (a3)] S0 (cz M) (D0 S0 z x N d0 R) := by
  refine vi_met (by decide) (Nat.le_of_ble_eq_true rfl) ?_
  intro X C
  have hF := cF.refl S0 z x N d0
  unfold F_X1_address at h
  refine vi_aload_n C dX1_address_0 rfl rfl ?_
  refine vi_iload_n C dX1_address_1 rfl rfl ?_
  refine c_puti (f := 100) (k := 1) (i := a0) C dX1_address_2 rfl (fpX1_18 _) rfl (by decide) rfl hR hF ha0 h (fun S M1 h hR hF => ?_)
  refine vi_aload_n C dX1_address_5 rfl rfl ?_
  refine vi_iload_n C dX1_address_6 rfl rfl ?_
  refine c_puti (f := 101) (k := 1) (i := a0) C dX1_address_7 rfl (fpX1_21 _) rfl (by decide) rfl hR hF ha0 h (fun S M2 h hR hF => ?_)
  refine vi_aload_n C dX1_address_10 rfl rfl ?_
  refine vi_iload_n C dX1_address_11 rfl rfl ?_
  refine c_puti (f := 102) (k := 1) (i := a0) C dX1_address_12 rfl (fpX1_24 _) rfl (by decide) rfl hR hF ha0 h (fun S M3 h hR hF => ?_)
  refine vi_aload_n C dX1_address_15 rfl rfl ?_
  refine vi_null C dX1_address_16 rfl ?_
  refine c_putp (f := 105) (k := 1) (i := a0) (v := none) C dX1_address_17 rfl (fpX1_27 _) rfl (by decide) rfl hR hF ha0 rfl h (fun S M4 h hR hF => ?_)
  refine vi_aload_n C dX1_address_20 rfl rfl ?_
  refine vi_iconst (v := 0) C dX1_address_21 rfl (by decide) ?_
  refine c_puti (f := 106) (k := 1) (i := a0) C dX1_address_22 rfl (fpX1_31 _) rfl (by decide) rfl hR hF ha0 h (fun S M5 h hR hF => ?_)
  refine vi_aload_n C dX1_address_25 rfl rfl ?_
  refine vi_null C dX1_address_26 rfl ?_
  refine c_putp (f := 107) (k := 1) (i := a0) (v := none) C dX1_address_27 rfl (fpX1_34 _) rfl (by decide) rfl hR hF ha0 rfl h (fun S M6 h hR hF => ?_)
  refine vi_aload_n C dX1_address_30 rfl rfl ?_
  refine vi_iconst (v := -1) C dX1_address_31 rfl (by decide) ?_
  refine c_puti (f := 108) (k := 1) (i := a0) C dX1_address_32 rfl (fpX1_9 _) rfl (by decide) rfl hR hF ha0 h (fun S M7 h hR hF => ?_)
  refine vi_aload_n C dX1_address_35 rfl rfl ?_
  refine vi_iconst (v := -1) C dX1_address_36 rfl (by decide) ?_
  refine c_puti (f := 109) (k := 1) (i := a0) C dX1_address_37 rfl (fpX1_15 _) rfl (by decide) rfl hR hF ha0 h (fun S M8 h hR hF => ?_)
  exact c_ret0 C dX1_address_40 rfl hR hF ⟨Nat.zero_le _, Nat.zero_le _⟩ h

def F_X1_say (N : Nat) (M : vC) (a0 : Nat) (a1 : Int32) (a2 : Int32) : Option vC := lt1 (uI M 103 (a0) (a1)) fun M1 => lt1 (uI M1 104 (a0) (a2)) fun M2 => some M2

set_option maxRecDepth 100000 in
set_option maxHeartbeats 4000000 in
theorem p_X1_say {N : Nat} {M : vC} {R : vC} {a0 : Nat} {a1 : Int32} {a2 : Int32} (ha0 : a0 < 202) (h : F_X1_say N M a0 a1 a2 = some R) {E : vE} {S0 : vS} {z x d0 : Nat} (hR : RC S0 z x N d0 M) : vi_Met E yX1_say cX1_say 3 none 0 0 0 [.ref (ad z x 1 (a0)), .int (a1), .int (a2)] S0 (cz M) (D0 S0 z x N d0 R) := by
  refine vi_met (by decide) (Nat.le_of_ble_eq_true rfl) ?_
  intro X C
  have hF := cF.refl S0 z x N d0
  unfold F_X1_say at h
  refine vi_aload_n C dX1_say_0 rfl rfl ?_
  refine vi_iload_n C dX1_say_1 rfl rfl ?_
  refine c_puti (f := 103) (k := 1) (i := a0) C dX1_say_2 rfl (fpX1_38 _) rfl (by decide) rfl hR hF ha0 h (fun S M1 h hR hF => ?_)
  refine vi_aload_n C dX1_say_5 rfl rfl ?_
  refine vi_iload_n C dX1_say_6 rfl rfl ?_
  refine c_puti (f := 104) (k := 1) (i := a0) C dX1_say_7 rfl (fpX1_41 _) rfl (by decide) rfl hR hF ha0 h (fun S M2 h hR hF => ?_)
  exact c_ret0 C dX1_say_10 rfl hR hF ⟨Nat.zero_le _, Nat.zero_le _⟩ h

def F_X1_carry (N : Nat) (M : vC) (a0 : Nat) (a1 : Option Nat) (a2 : Int32) : Option vC := lt1 (uP M 105 (a0) (a1)) fun M1 => lt1 (uI M1 106 (a0) (a2)) fun M2 => some M2

set_option maxRecDepth 100000 in
set_option maxHeartbeats 4000000 in
theorem p_X1_carry {N : Nat} {M : vC} {R : vC} {a0 : Nat} {a1 : Option Nat} {a2 : Int32} (ha0 : a0 < 202) (h : F_X1_carry N M a0 a1 a2 = some R) {E : vE} {S0 : vS} {z x d0 : Nat} (hR : RC S0 z x N d0 M) : vi_Met E yX1_carry cX1_carry 3 none 0 0 0 [.ref (ad z x 1 (a0)), va_rf (a1), .int (a2)] S0 (cz M) (D0 S0 z x N d0 R) := by
  refine vi_met (by decide) (by cases a1 <;> exact Nat.le_of_ble_eq_true rfl) ?_
  intro X C
  rw [show lv_args 0 [.ref (ad z x 1 (a0)), va_rf (a1), .int (a2)] = [(0, .ref (ad z x 1 (a0))), (1, va_rf (a1)), (2, .int (a2))] from by cases a1 <;> rfl]
  have hF := cF.refl S0 z x N d0
  unfold F_X1_carry at h
  refine vi_aload_n C dX1_carry_0 rfl rfl ?_
  refine vi_aload_nq (o := (a1)) C dX1_carry_1 rfl rfl ?_
  refine c_putp (f := 105) (k := 1) (i := a0) (v := (a1)) C dX1_carry_2 rfl (fpX1_27 _) rfl (by decide) rfl hR hF ha0 rfl h (fun S M1 h hR hF => ?_)
  refine vi_aload_n C dX1_carry_5 rfl rfl ?_
  refine vi_iload_n C dX1_carry_6 rfl rfl ?_
  refine c_puti (f := 106) (k := 1) (i := a0) C dX1_carry_7 rfl (fpX1_31 _) rfl (by decide) rfl hR hF ha0 h (fun S M2 h hR hF => ?_)
  exact c_ret0 C dX1_carry_10 rfl hR hF ⟨Nat.zero_le _, Nat.zero_le _⟩ h

def F_X1_carryPiece (N : Nat) (M : vC) (a0 : Nat) (a1 : Option Nat) (a2 : Int32) : Option vC := lt1 (uP M 107 (a0) (a1)) fun M1 => lt1 (uI M1 108 (a0) (a2)) fun M2 => some M2

set_option maxRecDepth 100000 in
set_option maxHeartbeats 4000000 in
theorem p_X1_carryPiece {N : Nat} {M : vC} {R : vC} {a0 : Nat} {a1 : Option Nat} {a2 : Int32} (ha0 : a0 < 202) (h : F_X1_carryPiece N M a0 a1 a2 = some R) {E : vE} {S0 : vS} {z x d0 : Nat} (hR : RC S0 z x N d0 M) : vi_Met E yX1_carryPiece cX1_carryPiece 3 none 0 0 0 [.ref (ad z x 1 (a0)), va_rf (a1), .int (a2)] S0 (cz M) (D0 S0 z x N d0 R) := by
  refine vi_met (by decide) (by cases a1 <;> exact Nat.le_of_ble_eq_true rfl) ?_
  intro X C
  rw [show lv_args 0 [.ref (ad z x 1 (a0)), va_rf (a1), .int (a2)] = [(0, .ref (ad z x 1 (a0))), (1, va_rf (a1)), (2, .int (a2))] from by cases a1 <;> rfl]
  have hF := cF.refl S0 z x N d0
  unfold F_X1_carryPiece at h
  refine vi_aload_n C dX1_carryPiece_0 rfl rfl ?_
  refine vi_aload_nq (o := (a1)) C dX1_carryPiece_1 rfl rfl ?_
  refine c_putp (f := 107) (k := 1) (i := a0) (v := (a1)) C dX1_carryPiece_2 rfl (fpX1_34 _) rfl (by decide) rfl hR hF ha0 rfl h (fun S M1 h hR hF => ?_)
  refine vi_aload_n C dX1_carryPiece_5 rfl rfl ?_
  refine vi_iload_n C dX1_carryPiece_6 rfl rfl ?_
  refine c_puti (f := 108) (k := 1) (i := a0) C dX1_carryPiece_7 rfl (fpX1_9 _) rfl (by decide) rfl hR hF ha0 h (fun S M2 h hR hF => ?_)
  exact c_ret0 C dX1_carryPiece_10 rfl hR hF ⟨Nat.zero_le _, Nat.zero_le _⟩ h

def F_X1_copy (N : Nat) (M : vC) (a0 : Nat) (a1 : Nat) : Option vC := (F_X1_address N M (a0) ((cI M 100 (a1))) ((cI M 101 (a1))) ((cI M 102 (a1)))).bind fun M1 => (F_X1_say N M1 (a0) ((cI M1 103 (a1))) ((cI M1 104 (a1)))).bind fun M2 => lt1 (cP M2 105 (a1)) fun v3 => (F_X1_carry N M2 (a0) (v3) ((cI M2 106 (a1)))).bind fun M4 => lt1 (cP M4 107 (a1)) fun v5 => (F_X1_carryPiece N M4 (a0) (v5) ((cI M4 108 (a1)))).bind fun M6 => lt1 (uI M6 109 (a0) ((cI M6 109 (a1)))) fun M7 => lt1 (uI M7 110 (a0) ((cI M7 110 (a1)))) fun M8 => some M8

set_option maxRecDepth 100000 in
set_option maxHeartbeats 4000000 in
theorem p_X1_copy {N : Nat} {M : vC} {R : vC} {a0 : Nat} {a1 : Nat} (ha0 : a0 < 202) (ha1 : a1 < 202) (h : F_X1_copy N M a0 a1 = some R) {E : vE} {S0 : vS} {z x d0 : Nat} (hR : RC S0 z x N d0 M) : vi_Met E yX1_copy cX1_copy 2 none 1 0 0 [.ref (ad z x 1 (a0)), .ref (ad z x 1 (a1))] S0 (cz M) (D0 S0 z x N d0 R) := by
  refine vi_met (by decide) (Nat.le_of_ble_eq_true rfl) ?_
  intro X C
  have hF := cF.refl S0 z x N d0
  unfold F_X1_copy at h
  refine vi_aload_n C dX1_copy_0 rfl rfl ?_
  refine vi_aload_n C dX1_copy_1 rfl rfl ?_
  refine c_geti (f := 100) (k := 1) (i := a1) C dX1_copy_2 rfl fX1_18 rfl (by decide) rfl hR ha1 ?_
  refine vi_aload_n C dX1_copy_5 rfl rfl ?_
  refine c_geti (f := 101) (k := 1) (i := a1) C dX1_copy_6 rfl fX1_21 rfl (by decide) rfl hR ha1 ?_
  refine vi_aload_n C dX1_copy_9 rfl rfl ?_
  refine c_geti (f := 102) (k := 1) (i := a1) C dX1_copy_10 rfl fX1_24 rfl (by decide) rfl hR ha1 ?_
  refine c_cv0 (kc := 1) (a := (ad z x 1 (a0))) C [.int ((cI M 100 (a1))), .int ((cI M 101 (a1))), .int ((cI M 102 (a1)))] [] dX1_copy_13 rfl ivX1_44 imX1_address rfl rfl (rcK hR ha0) hR hF h (fun _ e => p_X1_address ha0 e hR) rfl (Nat.le_of_ble_eq_true rfl) ⟨by decide, by decide⟩ ⟨Nat.le_refl _, Nat.le_refl _⟩ (fun S M1 h hR hF => ?_)
  refine vi_aload_n C dX1_copy_16 rfl rfl ?_
  refine vi_aload_n C dX1_copy_17 rfl rfl ?_
  refine c_geti (f := 103) (k := 1) (i := a1) C dX1_copy_18 rfl fX1_38 rfl (by decide) rfl hR ha1 ?_
  refine vi_aload_n C dX1_copy_21 rfl rfl ?_
  refine c_geti (f := 104) (k := 1) (i := a1) C dX1_copy_22 rfl fX1_41 rfl (by decide) rfl hR ha1 ?_
  refine c_cv0 (kc := 1) (a := (ad z x 1 (a0))) C [.int ((cI M1 103 (a1))), .int ((cI M1 104 (a1)))] [] dX1_copy_25 rfl ivX1_48 imX1_say rfl rfl (rcK hR ha0) hR hF h (fun _ e => p_X1_say ha0 e hR) rfl (Nat.le_of_ble_eq_true rfl) ⟨by decide, by decide⟩ ⟨Nat.le_refl _, Nat.le_refl _⟩ (fun S M2 h hR hF => ?_)
  refine vi_aload_n C dX1_copy_28 rfl rfl ?_
  refine vi_aload_n C dX1_copy_29 rfl rfl ?_
  refine c_getpL (f := 105) (k := 1) (i := a1) C dX1_copy_30 rfl fX1_27 rfl (by decide) rfl hR ha1 rfl h (fun v3 h => ?_)
  refine vi_aload_n C dX1_copy_33 rfl rfl ?_
  refine c_geti (f := 106) (k := 1) (i := a1) C dX1_copy_34 rfl fX1_31 rfl (by decide) rfl hR ha1 ?_
  refine c_cv0 (kc := 1) (a := (ad z x 1 (a0))) C [va_rf (v3), .int ((cI M2 106 (a1)))] [] dX1_copy_37 rfl ivX1_52 imX1_carry rfl rfl (rcK hR ha0) hR hF h (fun _ e => p_X1_carry ha0 e hR) rfl (Nat.le_of_ble_eq_true rfl) ⟨by decide, by decide⟩ ⟨Nat.le_refl _, Nat.le_refl _⟩ (fun S M4 h hR hF => ?_)
  refine vi_aload_n C dX1_copy_40 rfl rfl ?_
  refine vi_aload_n C dX1_copy_41 rfl rfl ?_
  refine c_getpL (f := 107) (k := 1) (i := a1) C dX1_copy_42 rfl fX1_34 rfl (by decide) rfl hR ha1 rfl h (fun v5 h => ?_)
  refine vi_aload_n C dX1_copy_45 rfl rfl ?_
  refine c_geti (f := 108) (k := 1) (i := a1) C dX1_copy_46 rfl fX1_9 rfl (by decide) rfl hR ha1 ?_
  refine c_cv0 (kc := 1) (a := (ad z x 1 (a0))) C [va_rf (v5), .int ((cI M4 108 (a1)))] [] dX1_copy_49 rfl ivX1_56 imX1_carryPiece rfl rfl (rcK hR ha0) hR hF h (fun _ e => p_X1_carryPiece ha0 e hR) rfl (Nat.le_of_ble_eq_true rfl) ⟨by decide, by decide⟩ ⟨Nat.le_refl _, Nat.le_refl _⟩ (fun S M6 h hR hF => ?_)
  refine vi_aload_n C dX1_copy_52 rfl rfl ?_
  refine vi_aload_n C dX1_copy_53 rfl rfl ?_
  refine c_geti (f := 109) (k := 1) (i := a1) C dX1_copy_54 rfl fX1_15 rfl (by decide) rfl hR ha1 ?_
  refine c_puti (f := 109) (k := 1) (i := a0) C dX1_copy_57 rfl (fpX1_15 _) rfl (by decide) rfl hR hF ha0 h (fun S M7 h hR hF => ?_)
  refine vi_aload_n C dX1_copy_60 rfl rfl ?_
  refine vi_aload_n C dX1_copy_61 rfl rfl ?_
  refine c_geti (f := 110) (k := 1) (i := a1) C dX1_copy_62 rfl fX1_60 rfl (by decide) rfl hR ha1 ?_
  refine c_puti (f := 110) (k := 1) (i := a0) C dX1_copy_65 rfl (fpX1_60 _) rfl (by decide) rfl hR hF ha0 h (fun S M8 h hR hF => ?_)
  exact c_ret0 C dX1_copy_68 rfl hR hF ⟨Nat.zero_le _, Nat.zero_le _⟩ h

def F_X1_isSpoilt (N : Nat) (M : vC) (a0 : Nat) : Option (vC × Int32) := if (cI M 109 (a0)) = (-1 : Int32) then (zb ((0 : Int32)) (some (M, (0 : Int32)))) else (zb ((1 : Int32)) (some (M, (1 : Int32))))

set_option maxRecDepth 100000 in
set_option maxHeartbeats 4000000 in
theorem p_X1_isSpoilt {N : Nat} {M : vC} {R : (vC × Int32)} {a0 : Nat} (ha0 : a0 < 202) (h : F_X1_isSpoilt N M a0 = some R) {E : vE} {S0 : vS} {z x d0 : Nat} (hR : RC S0 z x N d0 M) : vi_Met E yX1_isSpoilt cX1_isSpoilt 1 (some .boolean) 0 0 0 [.ref (ad z x 1 (a0))] S0 (cz M) (D1 S0 z x N d0 R) := by
  refine vi_met (by decide) (Nat.le_of_ble_eq_true rfl) ?_
  intro X C
  have hF := cF.refl S0 z x N d0
  unfold F_X1_isSpoilt at h
  refine vi_aload_n C dX1_isSpoilt_0 rfl rfl ?_
  refine c_geti (f := 109) (k := 1) (i := a0) C dX1_isSpoilt_1 rfl fX1_15 rfl (by decide) rfl hR ha0 ?_
  refine vi_iconst (v := -1) C dX1_isSpoilt_4 rfl (by decide) ?_
  refine vi_icmp_eq (t' := 12) C dX1_isSpoilt_5 rfl (by decide) (fun c1 => ?_) (fun c1 => ?_)
  · replace h := iT c1 h
    refine vi_iconst (v := 0) C dX1_isSpoilt_12 rfl (by decide) ?_
    exact c_retz C dX1_isSpoilt_13 rfl hR hF ⟨Nat.zero_le _, Nat.zero_le _⟩ h
  · replace h := iN c1 h
    refine vi_iconst (v := 1) C dX1_isSpoilt_8 rfl (by decide) ?_
    refine vi_goto (t' := 13) C dX1_isSpoilt_9 (by decide) ?_
    exact c_retz C dX1_isSpoilt_13 rfl hR hF ⟨Nat.zero_le _, Nat.zero_le _⟩ h

def F_X1_piecesOf (N : Nat) (M : vC) (a0 : Option Nat) : Option (vC × Int32) := (a0).bind fun o1 => gd (cK M (o1) = 20) <| some (M, ((((Int32.ofNat (cN M (o1))) + (64 : Int32)) - (1 : Int32)) / (64 : Int32)))

set_option maxRecDepth 100000 in
set_option maxHeartbeats 4000000 in
theorem p_X1_piecesOf {N : Nat} {M : vC} {R : (vC × Int32)} {a0 : Option Nat}  (h : F_X1_piecesOf N M a0 = some R) {E : vE} {S0 : vS} {z x d0 : Nat} (hR : RC S0 z x N d0 M) : vi_Met E yX1_piecesOf cX1_piecesOf 1 (some .int) 0 0 0 [va_rf (a0)] S0 (cz M) (D1 S0 z x N d0 R) := by
  refine vi_met (by decide) (by cases a0 <;> exact Nat.le_of_ble_eq_true rfl) ?_
  intro X C
  rw [show lv_args 0 [va_rf (a0)] = [(0, va_rf (a0))] from by cases a0 <;> rfl]
  have hF := cF.refl S0 z x N d0
  unfold F_X1_piecesOf at h
  refine vi_aload_nq (o := (a0)) C dX1_piecesOf_0 rfl rfl ?_
  obtain ⟨o1, rfl, hh⟩ := bdo h
  replace h := hh
  clear hh
  obtain ⟨c2, h⟩ := gdo h
  refine c_alenD C dX1_piecesOf_1 rfl hR c2 ?_
  refine vi_bipush (v := 64) C dX1_piecesOf_2 rfl (by decide) ?_
  refine vi_iadd C dX1_piecesOf_4 rfl ?_
  refine vi_iconst (v := 1) C dX1_piecesOf_5 rfl (by decide) ?_
  refine vi_isub C dX1_piecesOf_6 rfl ?_
  refine vi_bipush (v := 64) C dX1_piecesOf_7 rfl (by decide) ?_
  refine vi_idiv C dX1_piecesOf_9 rfl (by decide) ?_
  exact c_ret1 C dX1_piecesOf_10 rfl hR hF ⟨Nat.zero_le _, Nat.zero_le _⟩ h

def F_X1_pieceStart (N : Nat) (M : vC) (a0 : Nat) : Option (vC × Int32) := some (M, ((cI M 108 (a0)) * (64 : Int32)))

set_option maxRecDepth 100000 in
set_option maxHeartbeats 4000000 in
theorem p_X1_pieceStart {N : Nat} {M : vC} {R : (vC × Int32)} {a0 : Nat} (ha0 : a0 < 202) (h : F_X1_pieceStart N M a0 = some R) {E : vE} {S0 : vS} {z x d0 : Nat} (hR : RC S0 z x N d0 M) : vi_Met E yX1_pieceStart cX1_pieceStart 1 (some .int) 0 0 0 [.ref (ad z x 1 (a0))] S0 (cz M) (D1 S0 z x N d0 R) := by
  refine vi_met (by decide) (Nat.le_of_ble_eq_true rfl) ?_
  intro X C
  have hF := cF.refl S0 z x N d0
  unfold F_X1_pieceStart at h
  refine vi_aload_n C dX1_pieceStart_0 rfl rfl ?_
  refine c_geti (f := 108) (k := 1) (i := a0) C dX1_pieceStart_1 rfl fX1_9 rfl (by decide) rfl hR ha0 ?_
  refine vi_bipush (v := 64) C dX1_pieceStart_4 rfl (by decide) ?_
  refine vi_imul C dX1_pieceStart_6 rfl ?_
  exact c_ret1 C dX1_pieceStart_7 rfl hR hF ⟨Nat.zero_le _, Nat.zero_le _⟩ h

def F_X1_pieceEnd (N : Nat) (M : vC) (a0 : Nat) : Option (vC × Int32) := lt1 (cP M 107 (a0)) fun v1 => oc (v1) (some (M, (0 : Int32))) (fun o2 => lt1 (cP M 107 (a0)) fun v3 => (v3).bind fun o4 => gd (cK M (o4) = 20) <| b2 (F_X1_pieceStart N M (a0)) fun M6 v7 => some (M6, (mnI ((Int32.ofNat (cN M (o4)))) ((v7 + (64 : Int32))))))

set_option maxRecDepth 100000 in
set_option maxHeartbeats 4000000 in
theorem p_X1_pieceEnd {N : Nat} {M : vC} {R : (vC × Int32)} {a0 : Nat} (ha0 : a0 < 202) (h : F_X1_pieceEnd N M a0 = some R) {E : vE} {S0 : vS} {z x d0 : Nat} (hR : RC S0 z x N d0 M) : vi_Met E yX1_pieceEnd cX1_pieceEnd 1 (some .int) 1 0 0 [.ref (ad z x 1 (a0))] S0 (cz M) (D1 S0 z x N d0 R) := by
  refine vi_met (by decide) (Nat.le_of_ble_eq_true rfl) ?_
  intro X C
  have hF := cF.refl S0 z x N d0
  unfold F_X1_pieceEnd at h
  refine vi_aload_n C dX1_pieceEnd_0 rfl rfl ?_
  refine c_getpL (f := 107) (k := 1) (i := a0) C dX1_pieceEnd_1 rfl fX1_34 rfl (by decide) rfl hR ha0 rfl h (fun v1 h => ?_)
  rcases oco h with ⟨rfl, hh⟩ | ⟨o2, rfl, hh⟩
  · replace h := hh
    clear hh
    refine vi_ifnonnull (o := none) (t' := 11) C dX1_pieceEnd_4 rfl (by decide) (fun e => absurd rfl e) (fun _ => ?_)
    refine vi_iconst (v := 0) C dX1_pieceEnd_7 rfl (by decide) ?_
    refine vi_goto (t' := 26) C dX1_pieceEnd_8 (by decide) ?_
    exact c_ret1 C dX1_pieceEnd_26 rfl hR hF ⟨Nat.zero_le _, Nat.zero_le _⟩ h
  · replace h := hh
    clear hh
    refine vi_ifnonnull (o := (some (o2))) (t' := 11) C dX1_pieceEnd_4 rfl (by decide) (fun _ => ?_) (fun e => by cases e)
    refine vi_aload_n C dX1_pieceEnd_11 rfl rfl ?_
    refine c_getpL (f := 107) (k := 1) (i := a0) C dX1_pieceEnd_12 rfl fX1_34 rfl (by decide) rfl hR ha0 rfl h (fun v3 h => ?_)
    obtain ⟨o4, rfl, hh⟩ := bdo h
    replace h := hh
    clear hh
    obtain ⟨c5, h⟩ := gdo h
    refine c_alenD C dX1_pieceEnd_15 rfl hR c5 ?_
    refine vi_aload_n C dX1_pieceEnd_16 rfl rfl ?_
    refine c_cv1 (kc := 1) (a := (ad z x 1 (a0))) C [] [.int ((Int32.ofNat (cN M (o4))))] dX1_pieceEnd_17 rfl ivX1_63 imX1_pieceStart rfl rfl (rcK hR ha0) hR hF h (fun _ e => p_X1_pieceStart ha0 e hR) rfl (Nat.le_of_ble_eq_true rfl) ⟨by decide, by decide⟩ ⟨Nat.le_refl _, Nat.le_refl _⟩ (fun S M6 v7 h hR hF => ?_)
    refine vi_bipush (v := 64) C dX1_pieceEnd_20 rfl (by decide) ?_
    refine vi_iadd C dX1_pieceEnd_22 rfl ?_
    refine vi_mmin C dX1_pieceEnd_23 rfl ivX1_67 mlX1_67 (by decide) (Nat.le_of_ble_eq_true rfl) (Nat.zero_le _) (Nat.zero_le _) ?_
    exact c_ret1 C dX1_pieceEnd_26 rfl hR hF ⟨Nat.zero_le _, Nat.zero_le _⟩ h

def F_X11_isIn (N : Nat) (M : vC) (a0 : Int32) (a1 : Int32) : Option (vC × Int32) := if ((a1 >>> (a0 &&& 31)) &&& (1 : Int32)) = (1 : Int32) then (zb ((1 : Int32)) (some (M, (1 : Int32)))) else (zb ((0 : Int32)) (some (M, (0 : Int32))))

set_option maxRecDepth 100000 in
set_option maxHeartbeats 4000000 in
theorem p_X11_isIn {N : Nat} {M : vC} {R : (vC × Int32)} {a0 : Int32} {a1 : Int32}  (h : F_X11_isIn N M a0 a1 = some R) {E : vE} {S0 : vS} {z x d0 : Nat} (hR : RC S0 z x N d0 M) : vi_Met E yX11_isIn cX11_isIn 2 (some .boolean) 0 0 0 [.int (a0), .int (a1)] S0 (cz M) (D1 S0 z x N d0 R) := by
  refine vi_met (by decide) (Nat.le_of_ble_eq_true rfl) ?_
  intro X C
  have hF := cF.refl S0 z x N d0
  unfold F_X11_isIn at h
  refine vi_iload_n C dX11_isIn_0 rfl rfl ?_
  refine vi_iload_n C dX11_isIn_1 rfl rfl ?_
  refine vi_ishr C dX11_isIn_2 rfl ?_
  refine vi_iconst (v := 1) C dX11_isIn_3 rfl (by decide) ?_
  refine vi_iand C dX11_isIn_4 rfl ?_
  refine vi_iconst (v := 1) C dX11_isIn_5 rfl (by decide) ?_
  refine vi_icmp_ne (t' := 13) C dX11_isIn_6 rfl (by decide) (fun c1 => ?_) (fun c1 => ?_)
  · replace h := iN c1 h
    refine vi_iconst (v := 0) C dX11_isIn_13 rfl (by decide) ?_
    exact c_retz C dX11_isIn_14 rfl hR hF ⟨Nat.zero_le _, Nat.zero_le _⟩ h
  · replace h := iT c1 h
    refine vi_iconst (v := 1) C dX11_isIn_9 rfl (by decide) ?_
    refine vi_goto (t' := 14) C dX11_isIn_10 (by decide) ?_
    exact c_retz C dX11_isIn_14 rfl hR hF ⟨Nat.zero_le _, Nat.zero_le _⟩ h

def L_X8_writeTo_42 {ρ : Type} (N : Nat) (l0 : Nat) (l1 : Nat) (kx75 : vC → Option ρ) : Nat → vC → Int32 → Option ρ
  | 0, _, _ => none
  | f + 1, M, l2 => if (16 : Int32) ≤ l2 then (kx75 M ) else (gd (cK M (l0) = 9) <| b2 (F_X11_isIn N M (l2) ((cI M 804 (l0)))) fun M12 v13 => if v13 = 0 then (L_X8_writeTo_42 N l0 l1 kx75 f M12 ((l2 + (1)))) else (gd (cK M12 (l0) = 9) <| lt1 (cP M12 805 (l0)) fun v15 => (v15).bind fun o16 => (dG M12 21 (o16) (l2)).bind fun v17 => (F_X0_putFour N M12 (l1) (v17)).bind fun M18 => L_X8_writeTo_42 N l0 l1 kx75 f M18 ((l2 + (1)))))

def F_X8_writeTo (N : Nat) (M : vC) (a0 : Nat) (a1 : Nat) : Option vC := gd (cK M (a0) = 9) <| (F_X0_put N M (a1) ((cI M 800 (a0)))).bind fun M2 => gd (cK M2 (a0) = 9) <| (F_X0_putU N M2 (a1) ((cI M2 801 (a0)))).bind fun M4 => gd (cK M4 (a0) = 9) <| (F_X0_putU N M4 (a1) ((cI M4 802 (a0)))).bind fun M6 => gd (cK M6 (a0) = 9) <| (F_X0_putTwo N M6 (a1) ((cI M6 803 (a0)))).bind fun M8 => gd (cK M8 (a0) = 9) <| (F_X0_putTwo N M8 (a1) ((cI M8 804 (a0)))).bind fun M10 => L_X8_writeTo_42 N (a0) (a1) (fun (M21 : vC)  => some M21) fu M10 ((0 : Int32))

set_option maxRecDepth 100000 in
set_option maxHeartbeats 4000000 in
theorem w_X8_writeTo_42 {E : vE} {X : vX} {S0 : vS} {z x N d0 : Nat} {ρ : Type} {R : ρ} {Z : State → Prop} {l0 : Nat} {l1 : Nat} {kx75 : vC → Option ρ} (hl1 : l1 < 3) (C : vi_C E X yX8_writeTo cX8_writeTo 3 none 2 0 0 (45 * 2)) (hx75 : ∀ (M : vC) , kx75 M  = some R → ∀ S, RC S z x N d0 M → cF S0 S z x N d0 → vi_W E X 3 Z 75 [] [] S (cz M) 0 0) : ∀ (f : Nat) (M : vC) (l2 : Int32), L_X8_writeTo_42 N l0 l1 kx75 f M l2 = some R → ∀ S, RC S z x N d0 M → cF S0 S z x N d0 → vi_W E X 3 Z 42 [(0, .ref (l0)), (1, .ref (ad z x 0 (l1))), (2, .int (l2))] [] S (cz M) 0 0 := by
  intro f
  induction f with
  | zero => intro M l2 h; cases h
  | succ f ih =>
    intro M l2 h S hR hF
    rw [L_X8_writeTo_42] at h
    refine vi_iload_n C dX8_writeTo_42 rfl rfl ?_
    refine vi_bipush (v := 16) C dX8_writeTo_43 rfl (by decide) ?_
    refine vi_icmp_ge (t' := 75) C dX8_writeTo_45 rfl (by decide) (fun c20 => ?_) (fun c20 => ?_)
    · replace h := iT c20 h
      exact (vi_cut [] trivial (hx75 _  h _ hR hF))
    · replace h := iN c20 h
      refine vi_iload_n C dX8_writeTo_48 rfl rfl ?_
      refine vi_aload_n C dX8_writeTo_49 rfl rfl ?_
      obtain ⟨c11, h⟩ := gdo h
      refine c_getiD (f := 804) C dX8_writeTo_50 rfl fX8_24 rfl (by decide) rfl hR c11 ?_
      refine c_cs1 C [.int (l2), .int ((cI M 804 (l0)))] [] dX8_writeTo_53 rfl ivX8_43 isX11_isIn hR hF h (fun _ e => p_X11_isIn  e hR) rfl (Nat.le_of_ble_eq_true rfl) ⟨by decide, by decide⟩ ⟨Nat.le_refl _, Nat.le_refl _⟩ (fun S M12 v13 h hR hF => ?_)
      refine vi_if_eq (t' := 69) C dX8_writeTo_56 rfl (by decide) (fun c19 => ?_) (fun c19 => ?_)
      · replace h := iT c19 h
        refine vi_iincv (v := 1) C dX8_writeTo_69 rfl rfl (by decide) (by decide) ?_
        refine vi_goto (t' := 42) C dX8_writeTo_72 (by decide) ?_
        exact vi_cut [(0, .ref (l0)), (1, .ref (ad z x 0 (l1))), (2, .int ((l2 + (1))))] ⟨rfl, rfl, rfl, trivial⟩ (ih _ _ h _ hR hF)
      · replace h := iN c19 h
        refine vi_aload_n C dX8_writeTo_59 rfl rfl ?_
        refine vi_aload_n C dX8_writeTo_60 rfl rfl ?_
        obtain ⟨c14, h⟩ := gdo h
        refine c_getpDL C dX8_writeTo_61 rfl fX8_27 hR c14 h (fun v15 h => ?_)
        refine vi_iload_n C dX8_writeTo_64 rfl rfl ?_
        obtain ⟨o16, rfl, hh⟩ := bdo h
        replace h := hh
        clear hh
        refine c_ialoadD C dX8_writeTo_65 rfl hR h (fun v17 h => ?_)
        refine c_cv0 (kc := 0) (a := (ad z x 0 (l1))) C [.int (v17)] [] dX8_writeTo_66 rfl ivX8_63 imX0_putFour rfl rfl (rcK hR hl1) hR hF h (fun _ e => p_X0_putFour hl1 e hR) rfl (Nat.le_of_ble_eq_true rfl) ⟨by decide, by decide⟩ ⟨Nat.le_refl _, Nat.le_refl _⟩ (fun S M18 h hR hF => ?_)
        refine vi_iincv (v := 1) C dX8_writeTo_69 rfl rfl (by decide) (by decide) ?_
        refine vi_goto (t' := 42) C dX8_writeTo_72 (by decide) ?_
        exact vi_cut [(0, .ref (l0)), (1, .ref (ad z x 0 (l1))), (2, .int ((l2 + (1))))] ⟨rfl, rfl, rfl, trivial⟩ (ih _ _ h _ hR hF)

set_option maxRecDepth 100000 in
set_option maxHeartbeats 4000000 in
theorem p_X8_writeTo {N : Nat} {M : vC} {R : vC} {a0 : Nat} {a1 : Nat} (ha1 : a1 < 3) (h : F_X8_writeTo N M a0 a1 = some R) {E : vE} {S0 : vS} {z x d0 : Nat} (hR : RC S0 z x N d0 M) : vi_Met E yX8_writeTo cX8_writeTo 3 none 2 0 0 [.ref (a0), .ref (ad z x 0 (a1))] S0 (cz M) (D0 S0 z x N d0 R) := by
  refine vi_met (by decide) (Nat.le_of_ble_eq_true rfl) ?_
  intro X C
  have hF := cF.refl S0 z x N d0
  unfold F_X8_writeTo at h
  refine vi_aload_n C dX8_writeTo_0 rfl rfl ?_
  refine vi_aload_n C dX8_writeTo_1 rfl rfl ?_
  obtain ⟨c1, h⟩ := gdo h
  refine c_getiD (f := 800) C dX8_writeTo_2 rfl fX8_9 rfl (by decide) rfl hR c1 ?_
  refine c_cv0 (kc := 0) (a := (ad z x 0 (a1))) C [.int ((cI M 800 (a0)))] [] dX8_writeTo_5 rfl ivX8_53 imX0_put rfl rfl (rcK hR ha1) hR hF h (fun _ e => p_X0_put ha1 e hR) rfl (Nat.le_of_ble_eq_true rfl) ⟨by decide, by decide⟩ ⟨Nat.le_refl _, Nat.le_refl _⟩ (fun S M2 h hR hF => ?_)
  refine vi_aload_n C dX8_writeTo_8 rfl rfl ?_
  refine vi_aload_n C dX8_writeTo_9 rfl rfl ?_
  obtain ⟨c3, h⟩ := gdo h
  refine c_getiD (f := 801) C dX8_writeTo_10 rfl fX8_15 rfl (by decide) rfl hR c3 ?_
  refine c_cv0 (kc := 0) (a := (ad z x 0 (a1))) C [.int ((cI M2 801 (a0)))] [] dX8_writeTo_13 rfl ivX8_57 imX0_putU rfl rfl (rcK hR ha1) hR hF h (fun _ e => p_X0_putU ha1 e hR) rfl (Nat.le_of_ble_eq_true rfl) ⟨by decide, by decide⟩ ⟨Nat.le_refl _, Nat.le_refl _⟩ (fun S M4 h hR hF => ?_)
  refine vi_aload_n C dX8_writeTo_16 rfl rfl ?_
  refine vi_aload_n C dX8_writeTo_17 rfl rfl ?_
  obtain ⟨c5, h⟩ := gdo h
  refine c_getiD (f := 802) C dX8_writeTo_18 rfl fX8_18 rfl (by decide) rfl hR c5 ?_
  refine c_cv0 (kc := 0) (a := (ad z x 0 (a1))) C [.int ((cI M4 802 (a0)))] [] dX8_writeTo_21 rfl ivX8_57 imX0_putU rfl rfl (rcK hR ha1) hR hF h (fun _ e => p_X0_putU ha1 e hR) rfl (Nat.le_of_ble_eq_true rfl) ⟨by decide, by decide⟩ ⟨Nat.le_refl _, Nat.le_refl _⟩ (fun S M6 h hR hF => ?_)
  refine vi_aload_n C dX8_writeTo_24 rfl rfl ?_
  refine vi_aload_n C dX8_writeTo_25 rfl rfl ?_
  obtain ⟨c7, h⟩ := gdo h
  refine c_getiD (f := 803) C dX8_writeTo_26 rfl fX8_21 rfl (by decide) rfl hR c7 ?_
  refine c_cv0 (kc := 0) (a := (ad z x 0 (a1))) C [.int ((cI M6 803 (a0)))] [] dX8_writeTo_29 rfl ivX8_60 imX0_putTwo rfl rfl (rcK hR ha1) hR hF h (fun _ e => p_X0_putTwo ha1 e hR) rfl (Nat.le_of_ble_eq_true rfl) ⟨by decide, by decide⟩ ⟨Nat.le_refl _, Nat.le_refl _⟩ (fun S M8 h hR hF => ?_)
  refine vi_aload_n C dX8_writeTo_32 rfl rfl ?_
  refine vi_aload_n C dX8_writeTo_33 rfl rfl ?_
  obtain ⟨c9, h⟩ := gdo h
  refine c_getiD (f := 804) C dX8_writeTo_34 rfl fX8_24 rfl (by decide) rfl hR c9 ?_
  refine c_cv0 (kc := 0) (a := (ad z x 0 (a1))) C [.int ((cI M8 804 (a0)))] [] dX8_writeTo_37 rfl ivX8_60 imX0_putTwo rfl rfl (rcK hR ha1) hR hF h (fun _ e => p_X0_putTwo ha1 e hR) rfl (Nat.le_of_ble_eq_true rfl) ⟨by decide, by decide⟩ ⟨Nat.le_refl _, Nat.le_refl _⟩ (fun S M10 h hR hF => ?_)
  refine vi_iconst (v := 0) C dX8_writeTo_40 rfl (by decide) ?_
  refine vi_istore_n C dX8_writeTo_41 rfl (by decide) ?_
  refine vi_cut [(0, .ref (a0)), (1, .ref (ad z x 0 (a1))), (2, .int ((0 : Int32)))] ⟨rfl, rfl, rfl, trivial⟩ (w_X8_writeTo_42 ha1 C ?_ _ _ _ h _ hR hF)
  · intro M21 h S hR hF
    exact c_ret0 C dX8_writeTo_75 rfl hR hF ⟨Nat.zero_le _, Nat.zero_le _⟩ h

def F_X1_writeTo (N : Nat) (M : vC) (a0 : Nat) (a1 : Nat) : Option vC := (F_X0_clear N M (a1)).bind fun M1 => (F_X0_put N M1 (a1) ((165 : Int32))).bind fun M2 => (F_X0_put N M2 (a1) ((cI M2 100 (a0)))).bind fun M3 => (F_X0_put N M3 (a1) ((((16 : Int32) * (cI M3 101 (a0))) + (cI M3 102 (a0))))).bind fun M4 => (F_X0_putU N M4 (a1) ((cI M4 103 (a0)))).bind fun M5 => (F_X0_putU N M5 (a1) ((cI M5 104 (a0)))).bind fun M6 => jn (fun (M16 : vC) => lt1 (cP M16 105 (a0)) fun v17 => jn (fun (M24 : vC) => lt1 (cP M24 107 (a0)) fun v25 => oc (v25) ((F_X0_putCheck N M24 (a1) ((0 : Int32))).bind fun M27 => some M27) (fun o26 => (F_X0_put N M24 (a1) ((cI M24 108 (a0)))).bind fun M28 => lt1 (cP M28 107 (a0)) fun v29 => b2 (F_X1_piecesOf N M28 (v29)) fun M30 v31 => (F_X0_put N M30 (a1) (v31)).bind fun M32 => b2 (F_X1_pieceEnd N M32 (a0)) fun M33 v34 => b2 (F_X1_pieceStart N M33 (a0)) fun M35 v36 => (F_X0_put N M35 (a1) ((v34 - v36))).bind fun M37 => lt1 (cP M37 107 (a0)) fun v38 => b2 (F_X1_pieceStart N M37 (a0)) fun M39 v40 => b2 (F_X1_pieceEnd N M39 (a0)) fun M41 v42 => (v38).bind fun o43 => (F_X0_putAll N M41 (a1) 1 (o43) (v40) (v42)).bind fun M44 => (F_X0_putCheck N M44 (a1) ((0 : Int32))).bind fun M45 => some M45)) (fun k105_18 => oc (v17) ((k105_18 (M16))) (fun o19 => lt1 (cP M16 105 (a0)) fun v20 => (v20).bind fun o21 => gd (cK M16 (o21) = 9) <| (F_X8_writeTo N M16 (o21) (a1)).bind fun M23 => (k105_18 (M23))))) (fun k90_7 => if (cI M6 100 (a0)) = (2 : Int32) then (lt1 (cP M6 105 (a0)) fun v8 => jn (fun (s1_72 : Int32) => (F_X0_put N M6 (a1) (s1_72)).bind fun M11 => lt1 (cP M11 105 (a0)) fun v12 => oc (v12) ((k90_7 (M11))) (fun o13 => (F_X0_putU N M11 (a1) ((cI M11 106 (a0)))).bind fun M14 => (k90_7 (M14)))) (fun k72_9 => oc (v8) ((k72_9 ((0 : Int32)))) (fun o10 => (k72_9 ((1 : Int32)))))) else ((k90_7 (M6))))

set_option maxRecDepth 100000 in
set_option maxHeartbeats 4000000 in
theorem p_X1_writeTo {N : Nat} {M : vC} {R : vC} {a0 : Nat} {a1 : Nat} (ha0 : a0 < 202) (ha1 : a1 < 3) (h : F_X1_writeTo N M a0 a1 = some R) {E : vE} {S0 : vS} {z x d0 : Nat} (hR : RC S0 z x N d0 M) : vi_Met E yX1_writeTo cX1_writeTo 2 none 3 0 0 [.ref (ad z x 1 (a0)), .ref (ad z x 0 (a1))] S0 (cz M) (D0 S0 z x N d0 R) := by
  refine vi_met (by decide) (Nat.le_of_ble_eq_true rfl) ?_
  intro X C
  have hF := cF.refl S0 z x N d0
  unfold F_X1_writeTo at h
  refine vi_aload_n C dX1_writeTo_0 rfl rfl ?_
  refine c_cv0 (kc := 0) (a := (ad z x 0 (a1))) C [] [] dX1_writeTo_1 rfl ivX1_73 imX0_clear rfl rfl (rcK hR ha1) hR hF h (fun _ e => p_X0_clear ha1 e hR) rfl (Nat.le_of_ble_eq_true rfl) ⟨by decide, by decide⟩ ⟨Nat.le_refl _, Nat.le_refl _⟩ (fun S M1 h hR hF => ?_)
  refine vi_aload_n C dX1_writeTo_4 rfl rfl ?_
  refine vi_sipush (v := 165) C dX1_writeTo_5 rfl (by decide) ?_
  refine c_cv0 (kc := 0) (a := (ad z x 0 (a1))) C [.int ((165 : Int32))] [] dX1_writeTo_8 rfl ivX1_78 imX0_put rfl rfl (rcK hR ha1) hR hF h (fun _ e => p_X0_put ha1 e hR) rfl (Nat.le_of_ble_eq_true rfl) ⟨by decide, by decide⟩ ⟨Nat.le_refl _, Nat.le_refl _⟩ (fun S M2 h hR hF => ?_)
  refine vi_aload_n C dX1_writeTo_11 rfl rfl ?_
  refine vi_aload_n C dX1_writeTo_12 rfl rfl ?_
  refine c_geti (f := 100) (k := 1) (i := a0) C dX1_writeTo_13 rfl fX1_18 rfl (by decide) rfl hR ha0 ?_
  refine c_cv0 (kc := 0) (a := (ad z x 0 (a1))) C [.int ((cI M2 100 (a0)))] [] dX1_writeTo_16 rfl ivX1_78 imX0_put rfl rfl (rcK hR ha1) hR hF h (fun _ e => p_X0_put ha1 e hR) rfl (Nat.le_of_ble_eq_true rfl) ⟨by decide, by decide⟩ ⟨Nat.le_refl _, Nat.le_refl _⟩ (fun S M3 h hR hF => ?_)
  refine vi_aload_n C dX1_writeTo_19 rfl rfl ?_
  refine vi_bipush (v := 16) C dX1_writeTo_20 rfl (by decide) ?_
  refine vi_aload_n C dX1_writeTo_22 rfl rfl ?_
  refine c_geti (f := 101) (k := 1) (i := a0) C dX1_writeTo_23 rfl fX1_21 rfl (by decide) rfl hR ha0 ?_
  refine vi_imul C dX1_writeTo_26 rfl ?_
  refine vi_aload_n C dX1_writeTo_27 rfl rfl ?_
  refine c_geti (f := 102) (k := 1) (i := a0) C dX1_writeTo_28 rfl fX1_24 rfl (by decide) rfl hR ha0 ?_
  refine vi_iadd C dX1_writeTo_31 rfl ?_
  refine c_cv0 (kc := 0) (a := (ad z x 0 (a1))) C [.int ((((16 : Int32) * (cI M3 101 (a0))) + (cI M3 102 (a0))))] [] dX1_writeTo_32 rfl ivX1_78 imX0_put rfl rfl (rcK hR ha1) hR hF h (fun _ e => p_X0_put ha1 e hR) rfl (Nat.le_of_ble_eq_true rfl) ⟨by decide, by decide⟩ ⟨Nat.le_refl _, Nat.le_refl _⟩ (fun S M4 h hR hF => ?_)
  refine vi_aload_n C dX1_writeTo_35 rfl rfl ?_
  refine vi_aload_n C dX1_writeTo_36 rfl rfl ?_
  refine c_geti (f := 103) (k := 1) (i := a0) C dX1_writeTo_37 rfl fX1_38 rfl (by decide) rfl hR ha0 ?_
  refine c_cv0 (kc := 0) (a := (ad z x 0 (a1))) C [.int ((cI M4 103 (a0)))] [] dX1_writeTo_40 rfl ivX1_82 imX0_putU rfl rfl (rcK hR ha1) hR hF h (fun _ e => p_X0_putU ha1 e hR) rfl (Nat.le_of_ble_eq_true rfl) ⟨by decide, by decide⟩ ⟨Nat.le_refl _, Nat.le_refl _⟩ (fun S M5 h hR hF => ?_)
  refine vi_aload_n C dX1_writeTo_43 rfl rfl ?_
  refine vi_aload_n C dX1_writeTo_44 rfl rfl ?_
  refine c_geti (f := 104) (k := 1) (i := a0) C dX1_writeTo_45 rfl fX1_41 rfl (by decide) rfl hR ha0 ?_
  refine c_cv0 (kc := 0) (a := (ad z x 0 (a1))) C [.int ((cI M5 104 (a0)))] [] dX1_writeTo_48 rfl ivX1_82 imX0_putU rfl rfl (rcK hR ha1) hR hF h (fun _ e => p_X0_putU ha1 e hR) rfl (Nat.le_of_ble_eq_true rfl) ⟨by decide, by decide⟩ ⟨Nat.le_refl _, Nat.le_refl _⟩ (fun S M6 h hR hF => ?_)
  refine vi_aload_n C dX1_writeTo_51 rfl rfl ?_
  refine c_geti (f := 100) (k := 1) (i := a0) C dX1_writeTo_52 rfl fX1_18 rfl (by decide) rfl hR ha0 ?_
  refine vi_iconst (v := 2) C dX1_writeTo_55 rfl (by decide) ?_
  refine r_jn h (fun k => ∀ (M16 : vC), k M16 = some R → ∀ S, RC S z x N d0 M16 → cF S0 S z x N d0 → vi_W E X 2 (vi_Z E X (D0 S0 z x N d0 R) 0 0) 90 [(0, .ref (ad z x 1 (a0))), (1, .ref (ad z x 0 (a1)))] [] S (cz M16) 0 0) ?_ ?_
  · intro M16 h S hR hF
    refine vi_aload_n C dX1_writeTo_90 rfl rfl ?_
    refine c_getpL (f := 105) (k := 1) (i := a0) C dX1_writeTo_91 rfl fX1_27 rfl (by decide) rfl hR ha0 rfl h (fun v17 h => ?_)
    refine r_jn h (fun k => ∀ (M24 : vC), k M24 = some R → ∀ S, RC S z x N d0 M24 → cF S0 S z x N d0 → vi_W E X 2 (vi_Z E X (D0 S0 z x N d0 R) 0 0) 105 [(0, .ref (ad z x 1 (a0))), (1, .ref (ad z x 0 (a1)))] [] S (cz M24) 0 0) ?_ ?_
    · intro M24 h S hR hF
      refine vi_aload_n C dX1_writeTo_105 rfl rfl ?_
      refine c_getpL (f := 107) (k := 1) (i := a0) C dX1_writeTo_106 rfl fX1_34 rfl (by decide) rfl hR ha0 rfl h (fun v25 h => ?_)
      rcases oco h with ⟨rfl, hh⟩ | ⟨o26, rfl, hh⟩
      · replace h := hh
        clear hh
        refine vi_ifnull (o := none) (t' := 160) C dX1_writeTo_109 rfl (by decide) (fun _ => ?_) (fun e => absurd rfl e)
        refine vi_aload_n C dX1_writeTo_160 rfl rfl ?_
        refine vi_iconst (v := 0) C dX1_writeTo_161 rfl (by decide) ?_
        refine c_cv0 (kc := 0) (a := (ad z x 0 (a1))) C [.int ((0 : Int32))] [] dX1_writeTo_162 rfl ivX1_102 imX0_putCheck rfl rfl (rcK hR ha1) hR hF h (fun _ e => p_X0_putCheck ha1 e hR) rfl (Nat.le_of_ble_eq_true rfl) ⟨by decide, by decide⟩ ⟨Nat.le_refl _, Nat.le_refl _⟩ (fun S M27 h hR hF => ?_)
        exact c_ret0 C dX1_writeTo_165 rfl hR hF ⟨Nat.zero_le _, Nat.zero_le _⟩ h
      · replace h := hh
        clear hh
        refine vi_ifnull (o := (some (o26))) (t' := 160) C dX1_writeTo_109 rfl (by decide) (fun e => by cases e) (fun _ => ?_)
        refine vi_aload_n C dX1_writeTo_112 rfl rfl ?_
        refine vi_aload_n C dX1_writeTo_113 rfl rfl ?_
        refine c_geti (f := 108) (k := 1) (i := a0) C dX1_writeTo_114 rfl fX1_9 rfl (by decide) rfl hR ha0 ?_
        refine c_cv0 (kc := 0) (a := (ad z x 0 (a1))) C [.int ((cI M24 108 (a0)))] [] dX1_writeTo_117 rfl ivX1_78 imX0_put rfl rfl (rcK hR ha1) hR hF h (fun _ e => p_X0_put ha1 e hR) rfl (Nat.le_of_ble_eq_true rfl) ⟨by decide, by decide⟩ ⟨Nat.le_refl _, Nat.le_refl _⟩ (fun S M28 h hR hF => ?_)
        refine vi_aload_n C dX1_writeTo_120 rfl rfl ?_
        refine vi_aload_n C dX1_writeTo_121 rfl rfl ?_
        refine c_getpL (f := 107) (k := 1) (i := a0) C dX1_writeTo_122 rfl fX1_34 rfl (by decide) rfl hR ha0 rfl h (fun v29 h => ?_)
        refine c_cs1 C [va_rf (v29)] [.ref (ad z x 0 (a1))] dX1_writeTo_125 rfl ivX1_91 isX1_piecesOf hR hF h (fun _ e => p_X1_piecesOf  e hR) rfl (Nat.le_of_ble_eq_true rfl) ⟨by decide, by decide⟩ ⟨Nat.le_refl _, Nat.le_refl _⟩ (fun S M30 v31 h hR hF => ?_)
        refine c_cv0 (kc := 0) (a := (ad z x 0 (a1))) C [.int (v31)] [] dX1_writeTo_128 rfl ivX1_78 imX0_put rfl rfl (rcK hR ha1) hR hF h (fun _ e => p_X0_put ha1 e hR) rfl (Nat.le_of_ble_eq_true rfl) ⟨by decide, by decide⟩ ⟨Nat.le_refl _, Nat.le_refl _⟩ (fun S M32 h hR hF => ?_)
        refine vi_aload_n C dX1_writeTo_131 rfl rfl ?_
        refine vi_aload_n C dX1_writeTo_132 rfl rfl ?_
        refine c_cv1 (kc := 1) (a := (ad z x 1 (a0))) C [] [.ref (ad z x 0 (a1))] dX1_writeTo_133 rfl ivX1_95 imX1_pieceEnd rfl rfl (rcK hR ha0) hR hF h (fun _ e => p_X1_pieceEnd ha0 e hR) rfl (Nat.le_of_ble_eq_true rfl) ⟨by decide, by decide⟩ ⟨Nat.le_refl _, Nat.le_refl _⟩ (fun S M33 v34 h hR hF => ?_)
        refine vi_aload_n C dX1_writeTo_136 rfl rfl ?_
        refine c_cv1 (kc := 1) (a := (ad z x 1 (a0))) C [] [.int (v34), .ref (ad z x 0 (a1))] dX1_writeTo_137 rfl ivX1_63 imX1_pieceStart rfl rfl (rcK hR ha0) hR hF h (fun _ e => p_X1_pieceStart ha0 e hR) rfl (Nat.le_of_ble_eq_true rfl) ⟨by decide, by decide⟩ ⟨Nat.le_refl _, Nat.le_refl _⟩ (fun S M35 v36 h hR hF => ?_)
        refine vi_isub C dX1_writeTo_140 rfl ?_
        refine c_cv0 (kc := 0) (a := (ad z x 0 (a1))) C [.int ((v34 - v36))] [] dX1_writeTo_141 rfl ivX1_78 imX0_put rfl rfl (rcK hR ha1) hR hF h (fun _ e => p_X0_put ha1 e hR) rfl (Nat.le_of_ble_eq_true rfl) ⟨by decide, by decide⟩ ⟨Nat.le_refl _, Nat.le_refl _⟩ (fun S M37 h hR hF => ?_)
        refine vi_aload_n C dX1_writeTo_144 rfl rfl ?_
        refine vi_aload_n C dX1_writeTo_145 rfl rfl ?_
        refine c_getpL (f := 107) (k := 1) (i := a0) C dX1_writeTo_146 rfl fX1_34 rfl (by decide) rfl hR ha0 rfl h (fun v38 h => ?_)
        refine vi_aload_n C dX1_writeTo_149 rfl rfl ?_
        refine c_cv1 (kc := 1) (a := (ad z x 1 (a0))) C [] [va_rf (v38), .ref (ad z x 0 (a1))] dX1_writeTo_150 rfl ivX1_63 imX1_pieceStart rfl rfl (rcK hR ha0) hR hF h (fun _ e => p_X1_pieceStart ha0 e hR) rfl (by simp only [List.map_cons, List.map_nil, vi_rfc]; exact Nat.le_of_ble_eq_true rfl) ⟨by decide, by decide⟩ ⟨Nat.le_refl _, Nat.le_refl _⟩ (fun S M39 v40 h hR hF => ?_)
        refine vi_aload_n C dX1_writeTo_153 rfl rfl ?_
        refine c_cv1 (kc := 1) (a := (ad z x 1 (a0))) C [] [.int (v40), va_rf (v38), .ref (ad z x 0 (a1))] dX1_writeTo_154 rfl ivX1_95 imX1_pieceEnd rfl rfl (rcK hR ha0) hR hF h (fun _ e => p_X1_pieceEnd ha0 e hR) rfl (by simp only [List.map_cons, List.map_nil, vi_rfc]; exact Nat.le_of_ble_eq_true rfl) ⟨by decide, by decide⟩ ⟨Nat.le_refl _, Nat.le_refl _⟩ (fun S M41 v42 h hR hF => ?_)
        obtain ⟨o43, rfl, hh⟩ := bdo h
        replace h := hh
        clear hh
        refine c_cv0 (kc := 0) (a := (ad z x 0 (a1))) C [.ref (hA z x 1 (o43)), .int (v40), .int (v42)] [] dX1_writeTo_157 rfl ivX1_98 imX0_putAll rfl rfl (rcK hR ha1) hR hF h (fun _ e => p_X0_putAll ha1 (show 1 ≠ 1 → okS N (1 / 100) (o43) from fun e => absurd rfl e) e hR) rfl (Nat.le_of_ble_eq_true rfl) ⟨by decide, by decide⟩ ⟨Nat.le_refl _, Nat.le_refl _⟩ (fun S M44 h hR hF => ?_)
        refine vi_aload_n C dX1_writeTo_160 rfl rfl ?_
        refine vi_iconst (v := 0) C dX1_writeTo_161 rfl (by decide) ?_
        refine c_cv0 (kc := 0) (a := (ad z x 0 (a1))) C [.int ((0 : Int32))] [] dX1_writeTo_162 rfl ivX1_102 imX0_putCheck rfl rfl (rcK hR ha1) hR hF h (fun _ e => p_X0_putCheck ha1 e hR) rfl (Nat.le_of_ble_eq_true rfl) ⟨by decide, by decide⟩ ⟨Nat.le_refl _, Nat.le_refl _⟩ (fun S M45 h hR hF => ?_)
        exact c_ret0 C dX1_writeTo_165 rfl hR hF ⟨Nat.zero_le _, Nat.zero_le _⟩ h
    · intro k105_18 h105_18 h
      rcases oco h with ⟨rfl, hh⟩ | ⟨o19, rfl, hh⟩
      · replace h := hh
        clear hh
        refine vi_ifnull (o := none) (t' := 105) C dX1_writeTo_94 rfl (by decide) (fun _ => ?_) (fun e => absurd rfl e)
        exact (vi_cut [(0, .ref (ad z x 1 (a0))), (1, .ref (ad z x 0 (a1)))] ⟨rfl, rfl, trivial⟩ (h105_18 _ h _ hR hF))
      · replace h := hh
        clear hh
        refine vi_ifnull (o := (some (o19))) (t' := 105) C dX1_writeTo_94 rfl (by decide) (fun e => by cases e) (fun _ => ?_)
        refine vi_aload_n C dX1_writeTo_97 rfl rfl ?_
        refine c_getpL (f := 105) (k := 1) (i := a0) C dX1_writeTo_98 rfl fX1_27 rfl (by decide) rfl hR ha0 rfl h (fun v20 h => ?_)
        refine vi_aload_n C dX1_writeTo_101 rfl rfl ?_
        obtain ⟨o21, rfl, hh⟩ := bdo h
        replace h := hh
        clear hh
        obtain ⟨c22, h⟩ := gdo h
        refine c_cv0 (kc := 8) (a := (o21)) C [.ref (ad z x 0 (a1))] [] dX1_writeTo_102 rfl ivX1_85 imX8_writeTo rfl rfl (rcKD hR c22) hR hF h (fun _ e => p_X8_writeTo ha1 e hR) rfl (Nat.le_of_ble_eq_true rfl) ⟨by decide, by decide⟩ ⟨Nat.le_refl _, Nat.le_refl _⟩ (fun S M23 h hR hF => ?_)
        exact (vi_cut [(0, .ref (ad z x 1 (a0))), (1, .ref (ad z x 0 (a1)))] ⟨rfl, rfl, trivial⟩ (h105_18 _ h _ hR hF))
  · intro k90_7 h90_7 h
    refine vi_icmp_ne (t' := 90) C dX1_writeTo_56 rfl (by decide) (fun c15 => ?_) (fun c15 => ?_)
    · replace h := iN c15 h
      exact (vi_cut [(0, .ref (ad z x 1 (a0))), (1, .ref (ad z x 0 (a1)))] ⟨rfl, rfl, trivial⟩ (h90_7 _ h _ hR hF))
    · replace h := iT c15 h
      refine vi_aload_n C dX1_writeTo_59 rfl rfl ?_
      refine vi_aload_n C dX1_writeTo_60 rfl rfl ?_
      refine c_getpL (f := 105) (k := 1) (i := a0) C dX1_writeTo_61 rfl fX1_27 rfl (by decide) rfl hR ha0 rfl h (fun v8 h => ?_)
      refine r_jn h (fun k => ∀ (s1_72 : Int32), k s1_72 = some R → ∀ S, RC S z x N d0 M6 → cF S0 S z x N d0 → vi_W E X 2 (vi_Z E X (D0 S0 z x N d0 R) 0 0) 72 [(0, .ref (ad z x 1 (a0))), (1, .ref (ad z x 0 (a1)))] [.int (s1_72), .ref (ad z x 0 (a1))] S (cz M6) 0 0) ?_ ?_
      · intro s1_72 h S hR hF
        refine c_cv0 (kc := 0) (a := (ad z x 0 (a1))) C [.int (s1_72)] [] dX1_writeTo_72 rfl ivX1_78 imX0_put rfl rfl (rcK hR ha1) hR hF h (fun _ e => p_X0_put ha1 e hR) rfl (Nat.le_of_ble_eq_true rfl) ⟨by decide, by decide⟩ ⟨Nat.le_refl _, Nat.le_refl _⟩ (fun S M11 h hR hF => ?_)
        refine vi_aload_n C dX1_writeTo_75 rfl rfl ?_
        refine c_getpL (f := 105) (k := 1) (i := a0) C dX1_writeTo_76 rfl fX1_27 rfl (by decide) rfl hR ha0 rfl h (fun v12 h => ?_)
        rcases oco h with ⟨rfl, hh⟩ | ⟨o13, rfl, hh⟩
        · replace h := hh
          clear hh
          refine vi_ifnull (o := none) (t' := 90) C dX1_writeTo_79 rfl (by decide) (fun _ => ?_) (fun e => absurd rfl e)
          exact (vi_cut [(0, .ref (ad z x 1 (a0))), (1, .ref (ad z x 0 (a1)))] ⟨rfl, rfl, trivial⟩ (h90_7 _ h _ hR hF))
        · replace h := hh
          clear hh
          refine vi_ifnull (o := (some (o13))) (t' := 90) C dX1_writeTo_79 rfl (by decide) (fun e => by cases e) (fun _ => ?_)
          refine vi_aload_n C dX1_writeTo_82 rfl rfl ?_
          refine vi_aload_n C dX1_writeTo_83 rfl rfl ?_
          refine c_geti (f := 106) (k := 1) (i := a0) C dX1_writeTo_84 rfl fX1_31 rfl (by decide) rfl hR ha0 ?_
          refine c_cv0 (kc := 0) (a := (ad z x 0 (a1))) C [.int ((cI M11 106 (a0)))] [] dX1_writeTo_87 rfl ivX1_82 imX0_putU rfl rfl (rcK hR ha1) hR hF h (fun _ e => p_X0_putU ha1 e hR) rfl (Nat.le_of_ble_eq_true rfl) ⟨by decide, by decide⟩ ⟨Nat.le_refl _, Nat.le_refl _⟩ (fun S M14 h hR hF => ?_)
          exact (vi_cut [(0, .ref (ad z x 1 (a0))), (1, .ref (ad z x 0 (a1)))] ⟨rfl, rfl, trivial⟩ (h90_7 _ h _ hR hF))
      · intro k72_9 h72_9 h
        rcases oco h with ⟨rfl, hh⟩ | ⟨o10, rfl, hh⟩
        · replace h := hh
          clear hh
          refine vi_ifnonnull (o := none) (t' := 71) C dX1_writeTo_64 rfl (by decide) (fun e => absurd rfl e) (fun _ => ?_)
          refine vi_iconst (v := 0) C dX1_writeTo_67 rfl (by decide) ?_
          refine vi_goto (t' := 72) C dX1_writeTo_68 (by decide) ?_
          exact (vi_cut [(0, .ref (ad z x 1 (a0))), (1, .ref (ad z x 0 (a1)))] ⟨rfl, rfl, trivial⟩ (h72_9 _ h _ hR hF))
        · replace h := hh
          clear hh
          refine vi_ifnonnull (o := (some (o10))) (t' := 71) C dX1_writeTo_64 rfl (by decide) (fun _ => ?_) (fun e => by cases e)
          refine vi_iconst (v := 1) C dX1_writeTo_71 rfl (by decide) ?_
          exact (vi_cut [(0, .ref (ad z x 1 (a0))), (1, .ref (ad z x 0 (a1)))] ⟨rfl, rfl, trivial⟩ (h72_9 _ h _ hR hF))

def F_X1_tell (N : Nat) (M : vC) (a0 : Nat) (a1 : Int32) : Option (vC × Int32) := if a1 = 0 then (some (M, (cI M 100 (a0)))) else if a1 = 1 then (some (M, (cI M 101 (a0)))) else if a1 = 2 then (some (M, (cI M 102 (a0)))) else if a1 = 3 then (some (M, (cI M 103 (a0)))) else if a1 = 4 then (some (M, (cI M 104 (a0)))) else if a1 = 5 then (lt1 (cP M 105 (a0)) fun v7 => oc (v7) (some (M, (-1 : Int32))) (fun o8 => lt1 (cP M 105 (a0)) fun v9 => (v9).bind fun o10 => gd (cK M (o10) = 9) <| some (M, (cI M 800 (o10))))) else if a1 = 6 then (some (M, (cI M 106 (a0)))) else if a1 = 7 then (b2 (F_X1_isSpoilt N M (a0)) fun M14 v15 => if v15 = 0 then (some (M14, (0 : Int32))) else (some (M14, (1 : Int32)))) else if a1 = 8 then (some (M, (-1 : Int32))) else if a1 = 9 then (some (M, (cI M 108 (a0)))) else (some (M, (-1 : Int32)))

set_option maxRecDepth 100000 in
set_option maxHeartbeats 4000000 in
theorem p_X1_tell {N : Nat} {M : vC} {R : (vC × Int32)} {a0 : Nat} {a1 : Int32} (ha0 : a0 < 202) (h : F_X1_tell N M a0 a1 = some R) {E : vE} {S0 : vS} {z x d0 : Nat} (hR : RC S0 z x N d0 M) : vi_Met E yX1_tell cX1_tell 2 (some .int) 1 0 0 [.ref (ad z x 1 (a0)), .int (a1)] S0 (cz M) (D1 S0 z x N d0 R) := by
  refine vi_met (by decide) (Nat.le_of_ble_eq_true rfl) ?_
  intro X C
  have hF := cF.refl S0 z x N d0
  unfold F_X1_tell at h
  refine vi_iload_n C dX1_tell_0 rfl rfl ?_
  by_cases c2 : a1 = 0
  · replace h := iT c2 h
    refine vi_tswI (v := 0) (t' := 56) C c2 dX1_tell_1 (by decide) (by decide) rfl (by decide) ?_
    refine vi_aload_n C dX1_tell_56 rfl rfl ?_
    refine c_geti (f := 100) (k := 1) (i := a0) C dX1_tell_57 rfl fX1_18 rfl (by decide) rfl hR ha0 ?_
    exact c_ret1 C dX1_tell_60 rfl hR hF ⟨Nat.zero_le _, Nat.zero_le _⟩ h
  replace h := iN c2 h
  by_cases c3 : a1 = 1
  · replace h := iT c3 h
    refine vi_tswI (v := 1) (t' := 61) C c3 dX1_tell_1 (by decide) (by decide) rfl (by decide) ?_
    refine vi_aload_n C dX1_tell_61 rfl rfl ?_
    refine c_geti (f := 101) (k := 1) (i := a0) C dX1_tell_62 rfl fX1_21 rfl (by decide) rfl hR ha0 ?_
    exact c_ret1 C dX1_tell_65 rfl hR hF ⟨Nat.zero_le _, Nat.zero_le _⟩ h
  replace h := iN c3 h
  by_cases c4 : a1 = 2
  · replace h := iT c4 h
    refine vi_tswI (v := 2) (t' := 66) C c4 dX1_tell_1 (by decide) (by decide) rfl (by decide) ?_
    refine vi_aload_n C dX1_tell_66 rfl rfl ?_
    refine c_geti (f := 102) (k := 1) (i := a0) C dX1_tell_67 rfl fX1_24 rfl (by decide) rfl hR ha0 ?_
    exact c_ret1 C dX1_tell_70 rfl hR hF ⟨Nat.zero_le _, Nat.zero_le _⟩ h
  replace h := iN c4 h
  by_cases c5 : a1 = 3
  · replace h := iT c5 h
    refine vi_tswI (v := 3) (t' := 71) C c5 dX1_tell_1 (by decide) (by decide) rfl (by decide) ?_
    refine vi_aload_n C dX1_tell_71 rfl rfl ?_
    refine c_geti (f := 103) (k := 1) (i := a0) C dX1_tell_72 rfl fX1_38 rfl (by decide) rfl hR ha0 ?_
    exact c_ret1 C dX1_tell_75 rfl hR hF ⟨Nat.zero_le _, Nat.zero_le _⟩ h
  replace h := iN c5 h
  by_cases c6 : a1 = 4
  · replace h := iT c6 h
    refine vi_tswI (v := 4) (t' := 76) C c6 dX1_tell_1 (by decide) (by decide) rfl (by decide) ?_
    refine vi_aload_n C dX1_tell_76 rfl rfl ?_
    refine c_geti (f := 104) (k := 1) (i := a0) C dX1_tell_77 rfl fX1_41 rfl (by decide) rfl hR ha0 ?_
    exact c_ret1 C dX1_tell_80 rfl hR hF ⟨Nat.zero_le _, Nat.zero_le _⟩ h
  replace h := iN c6 h
  by_cases c12 : a1 = 5
  · replace h := iT c12 h
    refine vi_tswI (v := 5) (t' := 81) C c12 dX1_tell_1 (by decide) (by decide) rfl (by decide) ?_
    refine vi_aload_n C dX1_tell_81 rfl rfl ?_
    refine c_getpL (f := 105) (k := 1) (i := a0) C dX1_tell_82 rfl fX1_27 rfl (by decide) rfl hR ha0 rfl h (fun v7 h => ?_)
    rcases oco h with ⟨rfl, hh⟩ | ⟨o8, rfl, hh⟩
    · replace h := hh
      clear hh
      refine vi_ifnonnull (o := none) (t' := 92) C dX1_tell_85 rfl (by decide) (fun e => absurd rfl e) (fun _ => ?_)
      refine vi_iconst (v := -1) C dX1_tell_88 rfl (by decide) ?_
      refine vi_goto (t' := 99) C dX1_tell_89 (by decide) ?_
      exact c_ret1 C dX1_tell_99 rfl hR hF ⟨Nat.zero_le _, Nat.zero_le _⟩ h
    · replace h := hh
      clear hh
      refine vi_ifnonnull (o := (some (o8))) (t' := 92) C dX1_tell_85 rfl (by decide) (fun _ => ?_) (fun e => by cases e)
      refine vi_aload_n C dX1_tell_92 rfl rfl ?_
      refine c_getpL (f := 105) (k := 1) (i := a0) C dX1_tell_93 rfl fX1_27 rfl (by decide) rfl hR ha0 rfl h (fun v9 h => ?_)
      obtain ⟨o10, rfl, hh⟩ := bdo h
      replace h := hh
      clear hh
      obtain ⟨c11, h⟩ := gdo h
      refine c_getiD (f := 800) C dX1_tell_96 rfl fX1_105 rfl (by decide) rfl hR c11 ?_
      exact c_ret1 C dX1_tell_99 rfl hR hF ⟨Nat.zero_le _, Nat.zero_le _⟩ h
  replace h := iN c12 h
  by_cases c13 : a1 = 6
  · replace h := iT c13 h
    refine vi_tswI (v := 6) (t' := 100) C c13 dX1_tell_1 (by decide) (by decide) rfl (by decide) ?_
    refine vi_aload_n C dX1_tell_100 rfl rfl ?_
    refine c_geti (f := 106) (k := 1) (i := a0) C dX1_tell_101 rfl fX1_31 rfl (by decide) rfl hR ha0 ?_
    exact c_ret1 C dX1_tell_104 rfl hR hF ⟨Nat.zero_le _, Nat.zero_le _⟩ h
  replace h := iN c13 h
  by_cases c17 : a1 = 7
  · replace h := iT c17 h
    refine vi_tswI (v := 7) (t' := 105) C c17 dX1_tell_1 (by decide) (by decide) rfl (by decide) ?_
    refine vi_aload_n C dX1_tell_105 rfl rfl ?_
    refine c_cv1 (kc := 1) (a := (ad z x 1 (a0))) C [] [] dX1_tell_106 rfl ivX1_108 imX1_isSpoilt rfl rfl (rcK hR ha0) hR hF h (fun _ e => p_X1_isSpoilt ha0 e hR) rfl (Nat.le_of_ble_eq_true rfl) ⟨by decide, by decide⟩ ⟨Nat.le_refl _, Nat.le_refl _⟩ (fun S M14 v15 h hR hF => ?_)
    refine vi_if_eq (t' := 116) C dX1_tell_109 rfl (by decide) (fun c16 => ?_) (fun c16 => ?_)
    · replace h := iT c16 h
      refine vi_iconst (v := 0) C dX1_tell_116 rfl (by decide) ?_
      exact c_ret1 C dX1_tell_117 rfl hR hF ⟨Nat.zero_le _, Nat.zero_le _⟩ h
    · replace h := iN c16 h
      refine vi_iconst (v := 1) C dX1_tell_112 rfl (by decide) ?_
      refine vi_goto (t' := 117) C dX1_tell_113 (by decide) ?_
      exact c_ret1 C dX1_tell_117 rfl hR hF ⟨Nat.zero_le _, Nat.zero_le _⟩ h
  replace h := iN c17 h
  by_cases c18 : a1 = 8
  · replace h := iT c18 h
    refine vi_tswI (v := 8) (t' := 123) C c18 dX1_tell_1 (by decide) (by decide) rfl (by decide) ?_
    refine vi_iconst (v := -1) C dX1_tell_123 rfl (by decide) ?_
    exact c_ret1 C dX1_tell_124 rfl hR hF ⟨Nat.zero_le _, Nat.zero_le _⟩ h
  replace h := iN c18 h
  by_cases c19 : a1 = 9
  · replace h := iT c19 h
    refine vi_tswI (v := 9) (t' := 118) C c19 dX1_tell_1 (by decide) (by decide) rfl (by decide) ?_
    refine vi_aload_n C dX1_tell_118 rfl rfl ?_
    refine c_geti (f := 108) (k := 1) (i := a0) C dX1_tell_119 rfl fX1_9 rfl (by decide) rfl hR ha0 ?_
    exact c_ret1 C dX1_tell_122 rfl hR hF ⟨Nat.zero_le _, Nat.zero_le _⟩ h
  replace h := iN c19 h
  have tc2 := tne (w := 0) c2 (by decide)
  have tc3 := tne (w := 1) c3 (by decide)
  have tc4 := tne (w := 2) c4 (by decide)
  have tc5 := tne (w := 3) c5 (by decide)
  have tc6 := tne (w := 4) c6 (by decide)
  have tc12 := tne (w := 5) c12 (by decide)
  have tc13 := tne (w := 6) c13 (by decide)
  have tc17 := tne (w := 7) c17 (by decide)
  have tc18 := tne (w := 8) c18 (by decide)
  have tc19 := tne (w := 9) c19 (by decide)
  refine vi_tswO (t' := 123) C dX1_tell_1 (by omega) (by decide) ?_
  refine vi_iconst (v := -1) C dX1_tell_123 rfl (by decide) ?_
  exact c_ret1 C dX1_tell_124 rfl hR hF ⟨Nat.zero_le _, Nat.zero_le _⟩ h

def F_X2_tell (N : Nat) (M : vC) (a0 : Nat) (a1 : Int32) : Option (vC × Int32) := if a1 = 0 then (some (M, (cI M 206 (a0)))) else if a1 = 1 then (some (M, (cI M 207 (a0)))) else if a1 = 2 then (some (M, (cI M 208 (a0)))) else if a1 = 3 then (some (M, (cI M 209 (a0)))) else if a1 = 4 then (some (M, (cI M 204 (a0)))) else if a1 = 5 then (some (M, (cI M 205 (a0)))) else (some (M, (-1 : Int32)))

set_option maxRecDepth 100000 in
set_option maxHeartbeats 4000000 in
theorem p_X2_tell {N : Nat} {M : vC} {R : (vC × Int32)} {a0 : Nat} {a1 : Int32} (ha0 : a0 < N) (h : F_X2_tell N M a0 a1 = some R) {E : vE} {S0 : vS} {z x d0 : Nat} (hR : RC S0 z x N d0 M) : vi_Met E yX2_tell cX2_tell 2 (some .int) 0 0 0 [.ref (ad z x 2 (a0)), .int (a1)] S0 (cz M) (D1 S0 z x N d0 R) := by
  refine vi_met (by decide) (Nat.le_of_ble_eq_true rfl) ?_
  intro X C
  have hF := cF.refl S0 z x N d0
  unfold F_X2_tell at h
  refine vi_iload_n C dX2_tell_0 rfl rfl ?_
  by_cases c2 : a1 = 0
  · replace h := iT c2 h
    refine vi_tswI (v := 0) (t' := 40) C c2 dX2_tell_1 (by decide) (by decide) rfl (by decide) ?_
    refine vi_aload_n C dX2_tell_40 rfl rfl ?_
    refine c_geti (f := 206) (k := 2) (i := a0) C dX2_tell_41 rfl fX2_33 rfl (by decide) rfl hR ha0 ?_
    exact c_ret1 C dX2_tell_44 rfl hR hF ⟨Nat.zero_le _, Nat.zero_le _⟩ h
  replace h := iN c2 h
  by_cases c3 : a1 = 1
  · replace h := iT c3 h
    refine vi_tswI (v := 1) (t' := 45) C c3 dX2_tell_1 (by decide) (by decide) rfl (by decide) ?_
    refine vi_aload_n C dX2_tell_45 rfl rfl ?_
    refine c_geti (f := 207) (k := 2) (i := a0) C dX2_tell_46 rfl fX2_36 rfl (by decide) rfl hR ha0 ?_
    exact c_ret1 C dX2_tell_49 rfl hR hF ⟨Nat.zero_le _, Nat.zero_le _⟩ h
  replace h := iN c3 h
  by_cases c4 : a1 = 2
  · replace h := iT c4 h
    refine vi_tswI (v := 2) (t' := 50) C c4 dX2_tell_1 (by decide) (by decide) rfl (by decide) ?_
    refine vi_aload_n C dX2_tell_50 rfl rfl ?_
    refine c_geti (f := 208) (k := 2) (i := a0) C dX2_tell_51 rfl fX2_19 rfl (by decide) rfl hR ha0 ?_
    exact c_ret1 C dX2_tell_54 rfl hR hF ⟨Nat.zero_le _, Nat.zero_le _⟩ h
  replace h := iN c4 h
  by_cases c5 : a1 = 3
  · replace h := iT c5 h
    refine vi_tswI (v := 3) (t' := 55) C c5 dX2_tell_1 (by decide) (by decide) rfl (by decide) ?_
    refine vi_aload_n C dX2_tell_55 rfl rfl ?_
    refine c_geti (f := 209) (k := 2) (i := a0) C dX2_tell_56 rfl fX2_39 rfl (by decide) rfl hR ha0 ?_
    exact c_ret1 C dX2_tell_59 rfl hR hF ⟨Nat.zero_le _, Nat.zero_le _⟩ h
  replace h := iN c5 h
  by_cases c6 : a1 = 4
  · replace h := iT c6 h
    refine vi_tswI (v := 4) (t' := 60) C c6 dX2_tell_1 (by decide) (by decide) rfl (by decide) ?_
    refine vi_aload_n C dX2_tell_60 rfl rfl ?_
    refine c_geti (f := 204) (k := 2) (i := a0) C dX2_tell_61 rfl fX2_42 rfl (by decide) rfl hR ha0 ?_
    exact c_ret1 C dX2_tell_64 rfl hR hF ⟨Nat.zero_le _, Nat.zero_le _⟩ h
  replace h := iN c6 h
  by_cases c7 : a1 = 5
  · replace h := iT c7 h
    refine vi_tswI (v := 5) (t' := 65) C c7 dX2_tell_1 (by decide) (by decide) rfl (by decide) ?_
    refine vi_aload_n C dX2_tell_65 rfl rfl ?_
    refine c_geti (f := 205) (k := 2) (i := a0) C dX2_tell_66 rfl fX2_15 rfl (by decide) rfl hR ha0 ?_
    exact c_ret1 C dX2_tell_69 rfl hR hF ⟨Nat.zero_le _, Nat.zero_le _⟩ h
  replace h := iN c7 h
  have tc2 := tne (w := 0) c2 (by decide)
  have tc3 := tne (w := 1) c3 (by decide)
  have tc4 := tne (w := 2) c4 (by decide)
  have tc5 := tne (w := 3) c5 (by decide)
  have tc6 := tne (w := 4) c6 (by decide)
  have tc7 := tne (w := 5) c7 (by decide)
  refine vi_tswO (t' := 70) C dX2_tell_1 (by omega) (by decide) ?_
  refine vi_iconst (v := -1) C dX2_tell_70 rfl (by decide) ?_
  exact c_ret1 C dX2_tell_71 rfl hR hF ⟨Nat.zero_le _, Nat.zero_le _⟩ h

def F_X2_startImage (N : Nat) (M : vC) (a0 : Nat) : Option vC := (F_X0_clear N M (2)).bind fun M1 => lt1 (uI M1 202 (a0) ((0 : Int32))) fun M2 => some M2

set_option maxRecDepth 100000 in
set_option maxHeartbeats 4000000 in
theorem p_X2_startImage {N : Nat} {M : vC} {R : vC} {a0 : Nat} (ha0 : a0 < N) (h : F_X2_startImage N M a0 = some R) {E : vE} {S0 : vS} {z x d0 : Nat} (hR : RC S0 z x N d0 M) : vi_Met E yX2_startImage cX2_startImage 1 none 1 0 0 [.ref (ad z x 2 (a0))] S0 (cz M) (D0 S0 z x N d0 R) := by
  refine vi_met (by decide) (Nat.le_of_ble_eq_true rfl) ?_
  intro X C
  have hF := cF.refl S0 z x N d0
  unfold F_X2_startImage at h
  refine vi_aload_n C dX2_startImage_0 rfl rfl ?_
  refine c_gets (f := 201) (k := 2) (i := a0) C dX2_startImage_1 rfl fX2_22 rfl (by decide) rfl hR ha0 rfl ?_
  refine c_cv0 (kc := 0) (a := (ad z x 0 (2))) C [] [] dX2_startImage_4 rfl ivX2_45 imX0_clear rfl rfl (rcK hR (show 2 < 3 from by decide)) hR hF h (fun _ e => p_X0_clear (show 2 < 3 from by decide) e hR) rfl (Nat.le_of_ble_eq_true rfl) ⟨by decide, by decide⟩ ⟨Nat.le_refl _, Nat.le_refl _⟩ (fun S M1 h hR hF => ?_)
  refine vi_aload_n C dX2_startImage_7 rfl rfl ?_
  refine vi_iconst (v := 0) C dX2_startImage_8 rfl (by decide) ?_
  refine c_puti (f := 202) (k := 2) (i := a0) C dX2_startImage_9 rfl (fpX2_50 _) rfl (by decide) rfl hR hF ha0 h (fun S M2 h hR hF => ?_)
  exact c_ret0 C dX2_startImage_12 rfl hR hF ⟨Nat.zero_le _, Nat.zero_le _⟩ h

def F_X2_addRecord (N : Nat) (M : vC) (a0 : Nat) (a1 : Nat) : Option vC := (F_X0_put N M (2) ((cI M 1 (a1)))).bind fun M1 => (F_X0_put N M1 (2) ((((cI M1 1 (a1))).toUInt32 >>> (((8 : Int32)).toUInt32 &&& Int32.toUInt32 31)).toInt32)).bind fun M2 => (F_X0_putAll N M2 (2) 0 (a1) ((0 : Int32)) ((cI M2 1 (a1)))).bind fun M3 => (F_X0_putCheck N M3 (2) ((cI M 1 (2)))).bind fun M4 => jn (fun (M8 : vC) => lt1 (uI M8 202 (a0) (((cI M8 202 (a0)) + (1 : Int32)))) fun M9 => lt1 (uI M9 203 (a0) ((cI M9 1 (2)))) fun M10 => some M10) (fun k75_5 => if ((cI M4 1 (a1)) &&& (1 : Int32)) = (1 : Int32) then ((F_X0_put N M4 (2) ((0 : Int32))).bind fun M6 => (k75_5 (M6))) else ((k75_5 (M4))))

set_option maxRecDepth 100000 in
set_option maxHeartbeats 4000000 in
theorem p_X2_addRecord {N : Nat} {M : vC} {R : vC} {a0 : Nat} {a1 : Nat} (ha0 : a0 < N) (ha1 : a1 < 3) (h : F_X2_addRecord N M a0 a1 = some R) {E : vE} {S0 : vS} {z x d0 : Nat} (hR : RC S0 z x N d0 M) : vi_Met E yX2_addRecord cX2_addRecord 3 none 2 0 0 [.ref (ad z x 2 (a0)), .ref (ad z x 0 (a1))] S0 (cz M) (D0 S0 z x N d0 R) := by
  refine vi_met (by decide) (Nat.le_of_ble_eq_true rfl) ?_
  intro X C
  have hF := cF.refl S0 z x N d0
  unfold F_X2_addRecord at h
  refine vi_aload_n C dX2_addRecord_0 rfl rfl ?_
  refine c_gets (f := 201) (k := 2) (i := a0) C dX2_addRecord_1 rfl fX2_22 rfl (by decide) rfl hR ha0 rfl ?_
  refine c_geti (f := 1) (k := 0) (i := 2) C dX2_addRecord_4 rfl fX2_53 rfl (by decide) rfl hR (show 2 < 3 from by decide) ?_
  refine vi_istore_n C dX2_addRecord_7 rfl (by decide) ?_
  refine vi_aload_n C dX2_addRecord_8 rfl rfl ?_
  refine c_gets (f := 201) (k := 2) (i := a0) C dX2_addRecord_9 rfl fX2_22 rfl (by decide) rfl hR ha0 rfl ?_
  refine vi_aload_n C dX2_addRecord_12 rfl rfl ?_
  refine c_geti (f := 1) (k := 0) (i := a1) C dX2_addRecord_13 rfl fX2_53 rfl (by decide) rfl hR ha1 ?_
  refine c_cv0 (kc := 0) (a := (ad z x 0 (2))) C [.int ((cI M 1 (a1)))] [] dX2_addRecord_16 rfl ivX2_56 imX0_put rfl rfl (rcK hR (show 2 < 3 from by decide)) hR hF h (fun _ e => p_X0_put (show 2 < 3 from by decide) e hR) rfl (Nat.le_of_ble_eq_true rfl) ⟨by decide, by decide⟩ ⟨Nat.le_refl _, Nat.le_refl _⟩ (fun S M1 h hR hF => ?_)
  refine vi_aload_n C dX2_addRecord_19 rfl rfl ?_
  refine c_gets (f := 201) (k := 2) (i := a0) C dX2_addRecord_20 rfl fX2_22 rfl (by decide) rfl hR ha0 rfl ?_
  refine vi_aload_n C dX2_addRecord_23 rfl rfl ?_
  refine c_geti (f := 1) (k := 0) (i := a1) C dX2_addRecord_24 rfl fX2_53 rfl (by decide) rfl hR ha1 ?_
  refine vi_bipush (v := 8) C dX2_addRecord_27 rfl (by decide) ?_
  refine vi_iushr C dX2_addRecord_29 rfl ?_
  refine c_cv0 (kc := 0) (a := (ad z x 0 (2))) C [.int ((((cI M1 1 (a1))).toUInt32 >>> (((8 : Int32)).toUInt32 &&& Int32.toUInt32 31)).toInt32)] [] dX2_addRecord_30 rfl ivX2_56 imX0_put rfl rfl (rcK hR (show 2 < 3 from by decide)) hR hF h (fun _ e => p_X0_put (show 2 < 3 from by decide) e hR) rfl (Nat.le_of_ble_eq_true rfl) ⟨by decide, by decide⟩ ⟨Nat.le_refl _, Nat.le_refl _⟩ (fun S M2 h hR hF => ?_)
  refine vi_aload_n C dX2_addRecord_33 rfl rfl ?_
  refine c_gets (f := 201) (k := 2) (i := a0) C dX2_addRecord_34 rfl fX2_22 rfl (by decide) rfl hR ha0 rfl ?_
  refine vi_aload_n C dX2_addRecord_37 rfl rfl ?_
  refine c_gets (f := 0) (k := 0) (i := a1) C dX2_addRecord_38 rfl fX2_60 rfl (by decide) rfl hR ha1 rfl ?_
  refine vi_iconst (v := 0) C dX2_addRecord_41 rfl (by decide) ?_
  refine vi_aload_n C dX2_addRecord_42 rfl rfl ?_
  refine c_geti (f := 1) (k := 0) (i := a1) C dX2_addRecord_43 rfl fX2_53 rfl (by decide) rfl hR ha1 ?_
  refine c_cv0 (kc := 0) (a := (ad z x 0 (2))) C [.ref (hA z x 0 (a1)), .int ((0 : Int32)), .int ((cI M2 1 (a1)))] [] dX2_addRecord_46 rfl ivX2_64 imX0_putAll rfl rfl (rcK hR (show 2 < 3 from by decide)) hR hF h (fun _ e => p_X0_putAll (show 2 < 3 from by decide) (show 0 ≠ 1 → okS N (0 / 100) (a1) from fun _ => ha1) e hR) rfl (Nat.le_of_ble_eq_true rfl) ⟨by decide, by decide⟩ ⟨Nat.le_refl _, Nat.le_refl _⟩ (fun S M3 h hR hF => ?_)
  refine vi_aload_n C dX2_addRecord_49 rfl rfl ?_
  refine c_gets (f := 201) (k := 2) (i := a0) C dX2_addRecord_50 rfl fX2_22 rfl (by decide) rfl hR ha0 rfl ?_
  refine vi_iload_n C dX2_addRecord_53 rfl rfl ?_
  refine c_cv0 (kc := 0) (a := (ad z x 0 (2))) C [.int ((cI M 1 (2)))] [] dX2_addRecord_54 rfl ivX2_68 imX0_putCheck rfl rfl (rcK hR (show 2 < 3 from by decide)) hR hF h (fun _ e => p_X0_putCheck (show 2 < 3 from by decide) e hR) rfl (Nat.le_of_ble_eq_true rfl) ⟨by decide, by decide⟩ ⟨Nat.le_refl _, Nat.le_refl _⟩ (fun S M4 h hR hF => ?_)
  refine vi_aload_n C dX2_addRecord_57 rfl rfl ?_
  refine c_geti (f := 1) (k := 0) (i := a1) C dX2_addRecord_58 rfl fX2_53 rfl (by decide) rfl hR ha1 ?_
  refine vi_iconst (v := 1) C dX2_addRecord_61 rfl (by decide) ?_
  refine vi_iand C dX2_addRecord_62 rfl ?_
  refine vi_iconst (v := 1) C dX2_addRecord_63 rfl (by decide) ?_
  refine r_jn h (fun k => ∀ (M8 : vC), k M8 = some R → ∀ S, RC S z x N d0 M8 → cF S0 S z x N d0 → vi_W E X 3 (vi_Z E X (D0 S0 z x N d0 R) 0 0) 75 [(0, .ref (ad z x 2 (a0)))] [] S (cz M8) 0 0) ?_ ?_
  · intro M8 h S hR hF
    refine vi_aload_n C dX2_addRecord_75 rfl rfl ?_
    refine vi_dup C dX2_addRecord_76 rfl rfl ?_
    refine c_geti (f := 202) (k := 2) (i := a0) C dX2_addRecord_77 rfl fX2_50 rfl (by decide) rfl hR ha0 ?_
    refine vi_iconst (v := 1) C dX2_addRecord_80 rfl (by decide) ?_
    refine vi_iadd C dX2_addRecord_81 rfl ?_
    refine c_puti (f := 202) (k := 2) (i := a0) C dX2_addRecord_82 rfl (fpX2_50 _) rfl (by decide) rfl hR hF ha0 h (fun S M9 h hR hF => ?_)
    refine vi_aload_n C dX2_addRecord_85 rfl rfl ?_
    refine vi_aload_n C dX2_addRecord_86 rfl rfl ?_
    refine c_gets (f := 201) (k := 2) (i := a0) C dX2_addRecord_87 rfl fX2_22 rfl (by decide) rfl hR ha0 rfl ?_
    refine c_geti (f := 1) (k := 0) (i := 2) C dX2_addRecord_90 rfl fX2_53 rfl (by decide) rfl hR (show 2 < 3 from by decide) ?_
    refine c_puti (f := 203) (k := 2) (i := a0) C dX2_addRecord_93 rfl (fpX2_71 _) rfl (by decide) rfl hR hF ha0 h (fun S M10 h hR hF => ?_)
    exact c_ret0 C dX2_addRecord_96 rfl hR hF ⟨Nat.zero_le _, Nat.zero_le _⟩ h
  · intro k75_5 h75_5 h
    refine vi_icmp_ne (t' := 75) C dX2_addRecord_64 rfl (by decide) (fun c7 => ?_) (fun c7 => ?_)
    · replace h := iN c7 h
      exact (vi_cut [(0, .ref (ad z x 2 (a0)))] ⟨rfl, trivial⟩ (h75_5 _ h _ hR hF))
    · replace h := iT c7 h
      refine vi_aload_n C dX2_addRecord_67 rfl rfl ?_
      refine c_gets (f := 201) (k := 2) (i := a0) C dX2_addRecord_68 rfl fX2_22 rfl (by decide) rfl hR ha0 rfl ?_
      refine vi_iconst (v := 0) C dX2_addRecord_71 rfl (by decide) ?_
      refine c_cv0 (kc := 0) (a := (ad z x 0 (2))) C [.int ((0 : Int32))] [] dX2_addRecord_72 rfl ivX2_56 imX0_put rfl rfl (rcK hR (show 2 < 3 from by decide)) hR hF h (fun _ e => p_X0_put (show 2 < 3 from by decide) e hR) rfl (Nat.le_of_ble_eq_true rfl) ⟨by decide, by decide⟩ ⟨Nat.le_refl _, Nat.le_refl _⟩ (fun S M6 h hR hF => ?_)
      exact (vi_cut [(0, .ref (ad z x 2 (a0)))] ⟨rfl, trivial⟩ (h75_5 _ h _ hR hF))

def F_X2_closeImage (N : Nat) (M : vC) (a0 : Nat) (a1 : Int32) : Option vC := if a1 < ((cI M 1 (2)) + (2 : Int32)) then (some M) else ((F_X0_put N M (2) ((0 : Int32))).bind fun M1 => (F_X0_put N M1 (2) ((0 : Int32))).bind fun M2 => some M2)

set_option maxRecDepth 100000 in
set_option maxHeartbeats 4000000 in
theorem p_X2_closeImage {N : Nat} {M : vC} {R : vC} {a0 : Nat} {a1 : Int32} (ha0 : a0 < N) (h : F_X2_closeImage N M a0 a1 = some R) {E : vE} {S0 : vS} {z x d0 : Nat} (hR : RC S0 z x N d0 M) : vi_Met E yX2_closeImage cX2_closeImage 2 none 1 0 0 [.ref (ad z x 2 (a0)), .int (a1)] S0 (cz M) (D0 S0 z x N d0 R) := by
  refine vi_met (by decide) (Nat.le_of_ble_eq_true rfl) ?_
  intro X C
  have hF := cF.refl S0 z x N d0
  unfold F_X2_closeImage at h
  refine vi_aload_n C dX2_closeImage_0 rfl rfl ?_
  refine c_gets (f := 201) (k := 2) (i := a0) C dX2_closeImage_1 rfl fX2_22 rfl (by decide) rfl hR ha0 rfl ?_
  refine c_geti (f := 1) (k := 0) (i := 2) C dX2_closeImage_4 rfl fX2_53 rfl (by decide) rfl hR (show 2 < 3 from by decide) ?_
  refine vi_iconst (v := 2) C dX2_closeImage_7 rfl (by decide) ?_
  refine vi_iadd C dX2_closeImage_8 rfl ?_
  refine vi_iload_n C dX2_closeImage_9 rfl rfl ?_
  refine vi_icmp_gt (t' := 29) C dX2_closeImage_10 rfl (by decide) (fun c3 => ?_) (fun c3 => ?_)
  · replace h := iT c3 h
    exact c_ret0 C dX2_closeImage_29 rfl hR hF ⟨Nat.zero_le _, Nat.zero_le _⟩ h
  · replace h := iN c3 h
    refine vi_aload_n C dX2_closeImage_13 rfl rfl ?_
    refine c_gets (f := 201) (k := 2) (i := a0) C dX2_closeImage_14 rfl fX2_22 rfl (by decide) rfl hR ha0 rfl ?_
    refine vi_iconst (v := 0) C dX2_closeImage_17 rfl (by decide) ?_
    refine c_cv0 (kc := 0) (a := (ad z x 0 (2))) C [.int ((0 : Int32))] [] dX2_closeImage_18 rfl ivX2_56 imX0_put rfl rfl (rcK hR (show 2 < 3 from by decide)) hR hF h (fun _ e => p_X0_put (show 2 < 3 from by decide) e hR) rfl (Nat.le_of_ble_eq_true rfl) ⟨by decide, by decide⟩ ⟨Nat.le_refl _, Nat.le_refl _⟩ (fun S M1 h hR hF => ?_)
    refine vi_aload_n C dX2_closeImage_21 rfl rfl ?_
    refine c_gets (f := 201) (k := 2) (i := a0) C dX2_closeImage_22 rfl fX2_22 rfl (by decide) rfl hR ha0 rfl ?_
    refine vi_iconst (v := 0) C dX2_closeImage_25 rfl (by decide) ?_
    refine c_cv0 (kc := 0) (a := (ad z x 0 (2))) C [.int ((0 : Int32))] [] dX2_closeImage_26 rfl ivX2_56 imX0_put rfl rfl (rcK hR (show 2 < 3 from by decide)) hR hF h (fun _ e => p_X0_put (show 2 < 3 from by decide) e hR) rfl (Nat.le_of_ble_eq_true rfl) ⟨by decide, by decide⟩ ⟨Nat.le_refl _, Nat.le_refl _⟩ (fun S M2 h hR hF => ?_)
    exact c_ret0 C dX2_closeImage_29 rfl hR hF ⟨Nat.zero_le _, Nat.zero_le _⟩ h

def F_X2_crashes (N : Nat) (M : vC) (a0 : Nat) : Option (vC × Int32) := if (cI M 205 (a0)) = 0 then (lt1 (uI M 205 (a0) ((-1 : Int32))) fun M6 => zb ((1 : Int32)) (some (M6, (1 : Int32)))) else (jn (fun (M4 : vC) => lt1 (uI M4 204 (a0) (((cI M4 204 (a0)) + (1 : Int32)))) fun M5 => zb ((0 : Int32)) (some (M5, (0 : Int32)))) (fun k31_1 => if (cI M 205 (a0)) ≤ 0 then ((k31_1 (M))) else (lt1 (uI M 205 (a0) (((cI M 205 (a0)) - (1 : Int32)))) fun M2 => (k31_1 (M2)))))

set_option maxRecDepth 100000 in
set_option maxHeartbeats 4000000 in
theorem p_X2_crashes {N : Nat} {M : vC} {R : (vC × Int32)} {a0 : Nat} (ha0 : a0 < N) (h : F_X2_crashes N M a0 = some R) {E : vE} {S0 : vS} {z x d0 : Nat} (hR : RC S0 z x N d0 M) : vi_Met E yX2_crashes cX2_crashes 1 (some .boolean) 0 0 0 [.ref (ad z x 2 (a0))] S0 (cz M) (D1 S0 z x N d0 R) := by
  refine vi_met (by decide) (Nat.le_of_ble_eq_true rfl) ?_
  intro X C
  have hF := cF.refl S0 z x N d0
  unfold F_X2_crashes at h
  refine vi_aload_n C dX2_crashes_0 rfl rfl ?_
  refine c_geti (f := 205) (k := 2) (i := a0) C dX2_crashes_1 rfl fX2_15 rfl (by decide) rfl hR ha0 ?_
  refine vi_if_ne (t' := 14) C dX2_crashes_4 rfl (by decide) (fun c7 => ?_) (fun c7 => ?_)
  · replace h := iN c7 h
    refine vi_aload_n C dX2_crashes_14 rfl rfl ?_
    refine c_geti (f := 205) (k := 2) (i := a0) C dX2_crashes_15 rfl fX2_15 rfl (by decide) rfl hR ha0 ?_
    refine r_jn h (fun k => ∀ (M4 : vC), k M4 = some R → ∀ S, RC S z x N d0 M4 → cF S0 S z x N d0 → vi_W E X 1 (vi_Z E X (D1 S0 z x N d0 R) 0 0) 31 [(0, .ref (ad z x 2 (a0)))] [] S (cz M4) 0 0) ?_ ?_
    · intro M4 h S hR hF
      refine vi_aload_n C dX2_crashes_31 rfl rfl ?_
      refine vi_dup C dX2_crashes_32 rfl rfl ?_
      refine c_geti (f := 204) (k := 2) (i := a0) C dX2_crashes_33 rfl fX2_42 rfl (by decide) rfl hR ha0 ?_
      refine vi_iconst (v := 1) C dX2_crashes_36 rfl (by decide) ?_
      refine vi_iadd C dX2_crashes_37 rfl ?_
      refine c_puti (f := 204) (k := 2) (i := a0) C dX2_crashes_38 rfl (fpX2_42 _) rfl (by decide) rfl hR hF ha0 h (fun S M5 h hR hF => ?_)
      refine vi_iconst (v := 0) C dX2_crashes_41 rfl (by decide) ?_
      exact c_retz C dX2_crashes_42 rfl hR hF ⟨Nat.zero_le _, Nat.zero_le _⟩ h
    · intro k31_1 h31_1 h
      refine vi_if_le (t' := 31) C dX2_crashes_18 rfl (by decide) (fun c3 => ?_) (fun c3 => ?_)
      · replace h := iT c3 h
        exact (vi_cut [(0, .ref (ad z x 2 (a0)))] ⟨rfl, trivial⟩ (h31_1 _ h _ hR hF))
      · replace h := iN c3 h
        refine vi_aload_n C dX2_crashes_21 rfl rfl ?_
        refine vi_dup C dX2_crashes_22 rfl rfl ?_
        refine c_geti (f := 205) (k := 2) (i := a0) C dX2_crashes_23 rfl fX2_15 rfl (by decide) rfl hR ha0 ?_
        refine vi_iconst (v := 1) C dX2_crashes_26 rfl (by decide) ?_
        refine vi_isub C dX2_crashes_27 rfl ?_
        refine c_puti (f := 205) (k := 2) (i := a0) C dX2_crashes_28 rfl (fpX2_15 _) rfl (by decide) rfl hR hF ha0 h (fun S M2 h hR hF => ?_)
        exact (vi_cut [(0, .ref (ad z x 2 (a0)))] ⟨rfl, trivial⟩ (h31_1 _ h _ hR hF))
  · replace h := iT c7 h
    refine vi_aload_n C dX2_crashes_7 rfl rfl ?_
    refine vi_iconst (v := -1) C dX2_crashes_8 rfl (by decide) ?_
    refine c_puti (f := 205) (k := 2) (i := a0) C dX2_crashes_9 rfl (fpX2_15 _) rfl (by decide) rfl hR hF ha0 h (fun S M6 h hR hF => ?_)
    refine vi_iconst (v := 1) C dX2_crashes_12 rfl (by decide) ?_
    exact c_retz C dX2_crashes_13 rfl hR hF ⟨Nat.zero_le _, Nat.zero_le _⟩ h

def F_X2_setByte (N : Nat) (M : vC) (a0 : Nat) (a1 : Int32) (a2 : Int32) : Option vC := if (a1 >>> ((3 : Int32) &&& 31)) < 0 then (some M) else (if (Int32.ofNat (al 200)) ≤ (a1 >>> ((3 : Int32) &&& 31)) then (some M) else ((cGJ M (a0) ((a1 >>> ((3 : Int32) &&& 31)))).bind fun v1 => (cSJ M (a0) ((a1 >>> ((3 : Int32) &&& 31))) (((v1 &&& (((255 : Int64) <<< ((((56 : Int32) - ((8 : Int32) * (a1 &&& (7 : Int32))))).toInt64 &&& 63)) ^^^ (-1 : Int64))) ||| ((a2).toInt64 <<< ((((56 : Int32) - ((8 : Int32) * (a1 &&& (7 : Int32))))).toInt64 &&& 63))))).bind fun M2 => some M2))

set_option maxRecDepth 100000 in
set_option maxHeartbeats 4000000 in
theorem p_X2_setByte {N : Nat} {M : vC} {R : vC} {a0 : Nat} {a1 : Int32} {a2 : Int32} (ha0 : a0 < N) (h : F_X2_setByte N M a0 a1 a2 = some R) {E : vE} {S0 : vS} {z x d0 : Nat} (hR : RC S0 z x N d0 M) : vi_Met E yX2_setByte cX2_setByte 5 none 0 0 0 [.ref (ad z x 2 (a0)), .int (a1), .int (a2)] S0 (cz M) (D0 S0 z x N d0 R) := by
  refine vi_met (by decide) (Nat.le_of_ble_eq_true rfl) ?_
  intro X C
  have hF := cF.refl S0 z x N d0
  unfold F_X2_setByte at h
  refine vi_iload_n C dX2_setByte_0 rfl rfl ?_
  refine vi_iconst (v := 3) C dX2_setByte_1 rfl (by decide) ?_
  refine vi_ishr C dX2_setByte_2 rfl ?_
  refine vi_istore_n C dX2_setByte_3 rfl (by decide) ?_
  refine vi_iload_n C dX2_setByte_4 rfl rfl ?_
  refine vi_if_lt (t' := 58) C dX2_setByte_5 rfl (by decide) (fun c4 => ?_) (fun c4 => ?_)
  · replace h := iT c4 h
    exact c_ret0 C dX2_setByte_58 rfl hR hF ⟨Nat.zero_le _, Nat.zero_le _⟩ h
  · replace h := iN c4 h
    refine vi_iload_n C dX2_setByte_8 rfl rfl ?_
    refine vi_aload_n C dX2_setByte_9 rfl rfl ?_
    refine c_gets (f := 200) (k := 2) (i := a0) C dX2_setByte_10 rfl fX2_9 rfl (by decide) rfl hR ha0 rfl ?_
    refine c_alen C dX2_setByte_13 rfl (by decide) hR ⟨ha0, by decide⟩ ?_
    refine vi_icmp_ge (t' := 58) C dX2_setByte_14 rfl (by decide) (fun c3 => ?_) (fun c3 => ?_)
    · replace h := iT c3 h
      exact c_ret0 C dX2_setByte_58 rfl hR hF ⟨Nat.zero_le _, Nat.zero_le _⟩ h
    · replace h := iN c3 h
      refine vi_bipush (v := 56) C dX2_setByte_17 rfl (by decide) ?_
      refine vi_bipush (v := 8) C dX2_setByte_19 rfl (by decide) ?_
      refine vi_iload_n C dX2_setByte_21 rfl rfl ?_
      refine vi_bipush (v := 7) C dX2_setByte_22 rfl (by decide) ?_
      refine vi_iand C dX2_setByte_24 rfl ?_
      refine vi_imul C dX2_setByte_25 rfl ?_
      refine vi_isub C dX2_setByte_26 rfl ?_
      refine vi_istore C dX2_setByte_27 rfl (by decide) ?_
      refine vi_aload_n C dX2_setByte_29 rfl rfl ?_
      refine c_gets (f := 200) (k := 2) (i := a0) C dX2_setByte_30 rfl fX2_9 rfl (by decide) rfl hR ha0 rfl ?_
      refine vi_iload_n C dX2_setByte_33 rfl rfl ?_
      refine vi_aload_n C dX2_setByte_34 rfl rfl ?_
      refine c_gets (f := 200) (k := 2) (i := a0) C dX2_setByte_35 rfl fX2_9 rfl (by decide) rfl hR ha0 rfl ?_
      refine vi_iload_n C dX2_setByte_38 rfl rfl ?_
      refine c_laload C dX2_setByte_39 rfl hR ha0 h (fun v1 h => ?_)
      refine vi_ldc2 C dX2_setByte_40 rfl kX2_97 ?_
      refine vi_iload C dX2_setByte_43 rfl rfl ?_
      refine vi_lshl C dX2_setByte_45 rfl ?_
      refine vi_ldc2 C dX2_setByte_46 rfl kX2_99 ?_
      refine vi_lxor C dX2_setByte_49 rfl ?_
      refine vi_land C dX2_setByte_50 rfl ?_
      refine vi_iload_n C dX2_setByte_51 rfl rfl ?_
      refine vi_i2l C dX2_setByte_52 rfl ?_
      refine vi_iload C dX2_setByte_53 rfl rfl ?_
      refine vi_lshl C dX2_setByte_55 rfl ?_
      refine vi_lor C dX2_setByte_56 rfl ?_
      refine c_lastore C dX2_setByte_57 rfl hR hF ha0 h (fun S M2 h hR hF => ?_)
      exact c_ret0 C dX2_setByte_58 rfl hR hF ⟨Nat.zero_le _, Nat.zero_le _⟩ h

def L_X2_place_19 {ρ : Type} (N : Nat) (l0 : Nat) (l2 : Int32) (l3 : Int32) (kx48 : vC → Option ρ) : Nat → vC → Int32 → Option ρ
  | 0, _, _ => none
  | f + 1, M, l4 => if l3 ≤ l4 then (kx48 M ) else (b2 (F_X0_byteAt N M (2) ((l4 - l2))) fun M1 v2 => (F_X2_setByte N M1 (l0) (l4) (v2)).bind fun M3 => L_X2_place_19 N l0 l2 l3 kx48 f M3 ((l4 + (1))))

def F_X2_place (N : Nat) (M : vC) (a0 : Nat) (a1 : Int32) (a2 : Int32) : Option vC := L_X2_place_19 N (a0) (a2) (((a1 + (1 : Int32)) * (512 : Int32))) (fun (M5 : vC)  => some M5) fu M ((mxI (a2) ((a1 * (512 : Int32)))))

set_option maxRecDepth 100000 in
set_option maxHeartbeats 4000000 in
theorem w_X2_place_19 {E : vE} {X : vX} {S0 : vS} {z x N d0 : Nat} {ρ : Type} {R : ρ} {Z : State → Prop} {l0 : Nat} {l2 : Int32} {l3 : Int32} {kx48 : vC → Option ρ} (hl0 : l0 < N) (C : vi_C E X yX2_place cX2_place 5 none 1 0 0 (45 * 1)) (hx48 : ∀ (M : vC) , kx48 M  = some R → ∀ S, RC S z x N d0 M → cF S0 S z x N d0 → vi_W E X 5 Z 48 [] [] S (cz M) 0 0) : ∀ (f : Nat) (M : vC) (l4 : Int32), L_X2_place_19 N l0 l2 l3 kx48 f M l4 = some R → ∀ S, RC S z x N d0 M → cF S0 S z x N d0 → vi_W E X 5 Z 19 [(0, .ref (ad z x 2 (l0))), (2, .int (l2)), (3, .int (l3)), (4, .int (l4))] [] S (cz M) 0 0 := by
  intro f
  induction f with
  | zero => intro M l4 h; cases h
  | succ f ih =>
    intro M l4 h S hR hF
    rw [L_X2_place_19] at h
    refine vi_iload C dX2_place_19 rfl rfl ?_
    refine vi_iload_n C dX2_place_21 rfl rfl ?_
    refine vi_icmp_ge (t' := 48) C dX2_place_22 rfl (by decide) (fun c4 => ?_) (fun c4 => ?_)
    · replace h := iT c4 h
      exact (vi_cut [] trivial (hx48 _  h _ hR hF))
    · replace h := iN c4 h
      refine vi_aload_n C dX2_place_25 rfl rfl ?_
      refine vi_iload C dX2_place_26 rfl rfl ?_
      refine vi_aload_n C dX2_place_28 rfl rfl ?_
      refine c_gets (f := 201) (k := 2) (i := l0) C dX2_place_29 rfl fX2_22 rfl (by decide) rfl hR hl0 rfl ?_
      refine vi_iload C dX2_place_32 rfl rfl ?_
      refine vi_iload_n C dX2_place_34 rfl rfl ?_
      refine vi_isub C dX2_place_35 rfl ?_
      refine c_cv1 (kc := 0) (a := (ad z x 0 (2))) C [.int ((l4 - l2))] [.int (l4), .ref (ad z x 2 (l0))] dX2_place_36 rfl ivX2_91 imX0_byteAt rfl rfl (rcK hR (show 2 < 3 from by decide)) hR hF h (fun _ e => p_X0_byteAt (show 2 < 3 from by decide) e hR) rfl (Nat.le_of_ble_eq_true rfl) ⟨by decide, by decide⟩ ⟨Nat.le_refl _, Nat.le_refl _⟩ (fun S M1 v2 h hR hF => ?_)
      refine c_cv0 (kc := 2) (a := (ad z x 2 (l0))) C [.int (l4), .int (v2)] [] dX2_place_39 rfl ivX2_94 imX2_setByte rfl rfl (rcK hR hl0) hR hF h (fun _ e => p_X2_setByte hl0 e hR) rfl (Nat.le_of_ble_eq_true rfl) ⟨by decide, by decide⟩ ⟨Nat.le_refl _, Nat.le_refl _⟩ (fun S M3 h hR hF => ?_)
      refine vi_iincv (v := 1) C dX2_place_42 rfl rfl (by decide) (by decide) ?_
      refine vi_goto (t' := 19) C dX2_place_45 (by decide) ?_
      exact vi_cut [(0, .ref (ad z x 2 (l0))), (2, .int (l2)), (3, .int (l3)), (4, .int ((l4 + (1))))] ⟨rfl, rfl, rfl, rfl, trivial⟩ (ih _ _ h _ hR hF)

set_option maxRecDepth 100000 in
set_option maxHeartbeats 4000000 in
theorem p_X2_place {N : Nat} {M : vC} {R : vC} {a0 : Nat} {a1 : Int32} {a2 : Int32} (ha0 : a0 < N) (h : F_X2_place N M a0 a1 a2 = some R) {E : vE} {S0 : vS} {z x d0 : Nat} (hR : RC S0 z x N d0 M) : vi_Met E yX2_place cX2_place 5 none 1 0 0 [.ref (ad z x 2 (a0)), .int (a1), .int (a2)] S0 (cz M) (D0 S0 z x N d0 R) := by
  refine vi_met (by decide) (Nat.le_of_ble_eq_true rfl) ?_
  intro X C
  have hF := cF.refl S0 z x N d0
  unfold F_X2_place at h
  refine vi_iload_n C dX2_place_0 rfl rfl ?_
  refine vi_iconst (v := 1) C dX2_place_1 rfl (by decide) ?_
  refine vi_iadd C dX2_place_2 rfl ?_
  refine vi_sipush (v := 512) C dX2_place_3 rfl (by decide) ?_
  refine vi_imul C dX2_place_6 rfl ?_
  refine vi_istore_n C dX2_place_7 rfl (by decide) ?_
  refine vi_iload_n C dX2_place_8 rfl rfl ?_
  refine vi_iload_n C dX2_place_9 rfl rfl ?_
  refine vi_sipush (v := 512) C dX2_place_10 rfl (by decide) ?_
  refine vi_imul C dX2_place_13 rfl ?_
  refine vi_mmax C dX2_place_14 rfl ivX2_85 mlX2_85 (by decide) (Nat.le_of_ble_eq_true rfl) (Nat.zero_le _) (Nat.zero_le _) ?_
  refine vi_istore C dX2_place_17 rfl (by decide) ?_
  refine vi_cut [(0, .ref (ad z x 2 (a0))), (2, .int (a2)), (3, .int (((a1 + (1 : Int32)) * (512 : Int32)))), (4, .int ((mxI (a2) ((a1 * (512 : Int32))))))] ⟨rfl, rfl, rfl, rfl, trivial⟩ (w_X2_place_19 ha0 C ?_ _ _ _ h _ hR hF)
  · intro M5 h S hR hF
    exact c_ret0 C dX2_place_48 rfl hR hF ⟨Nat.zero_le _, Nat.zero_le _⟩ h

def F_X2_startOf (N : Nat) (M : vC) (a0 : Int32) : Option (vC × Int32) := some (M, (((2 : Int32) + (a0 * (31 : Int32))) * (512 : Int32)))

set_option maxRecDepth 100000 in
set_option maxHeartbeats 4000000 in
theorem p_X2_startOf {N : Nat} {M : vC} {R : (vC × Int32)} {a0 : Int32}  (h : F_X2_startOf N M a0 = some R) {E : vE} {S0 : vS} {z x d0 : Nat} (hR : RC S0 z x N d0 M) : vi_Met E yX2_startOf cX2_startOf 1 (some .int) 0 0 0 [.int (a0)] S0 (cz M) (D1 S0 z x N d0 R) := by
  refine vi_met (by decide) (Nat.le_of_ble_eq_true rfl) ?_
  intro X C
  have hF := cF.refl S0 z x N d0
  unfold F_X2_startOf at h
  refine vi_iconst (v := 2) C dX2_startOf_0 rfl (by decide) ?_
  refine vi_iload_n C dX2_startOf_1 rfl rfl ?_
  refine vi_bipush (v := 31) C dX2_startOf_2 rfl (by decide) ?_
  refine vi_imul C dX2_startOf_4 rfl ?_
  refine vi_iadd C dX2_startOf_5 rfl ?_
  refine vi_sipush (v := 512) C dX2_startOf_6 rfl (by decide) ?_
  refine vi_imul C dX2_startOf_9 rfl ?_
  exact c_ret1 C dX2_startOf_10 rfl hR hF ⟨Nat.zero_le _, Nat.zero_le _⟩ h

def L_X2_writeNote_43 {ρ : Type} (N : Nat) (l0 : Nat) (l1 : Int32) (kx59 : vC → Option ρ) (kx73 : vC → Option ρ) : Nat → vC → Int32 → Option ρ
  | 0, _, _ => none
  | f + 1, M, l3 => if l3 < (l1 / (512 : Int32)) then (kx73 M ) else (b2 (F_X2_crashes N M (l0)) fun M4 v5 => if v5 = 0 then ((F_X2_place N M4 (l0) (l3) (l1)).bind fun M6 => L_X2_writeNote_43 N l0 l1 kx59 kx73 f M6 ((l3 + (-1)))) else (kx59 M4 ))

def F_X2_writeNote (N : Nat) (M : vC) (a0 : Nat) : Option (vC × Int32) := b2 (F_X2_startOf N M ((cI M 209 (a0)))) fun M1 v2 => (F_X2_closeImage N M1 (a0) (((15872 : Int32) - (cI M1 207 (a0))))).bind fun M3 => L_X2_writeNote_43 N (a0) ((v2 + (cI M1 207 (a0)))) (fun (M9 : vC)  => zb ((0 : Int32)) (some (M9, (0 : Int32)))) (fun (M10 : vC)  => lt1 (uI M10 207 (a0) (((cI M10 207 (a0)) + (cI M10 203 (a0))))) fun M11 => lt1 (uI M11 206 (a0) (((cI M11 206 (a0)) + (cI M11 202 (a0))))) fun M12 => zb ((1 : Int32)) (some (M12, (1 : Int32)))) fu M3 (((((v2 + (cI M1 207 (a0))) + (cI M3 1 (2))) - (1 : Int32)) / (512 : Int32)))

set_option maxRecDepth 100000 in
set_option maxHeartbeats 4000000 in
theorem w_X2_writeNote_43 {E : vE} {X : vX} {S0 : vS} {z x N d0 : Nat} {ρ : Type} {R : ρ} {Z : State → Prop} {l0 : Nat} {l1 : Int32} {kx59 : vC → Option ρ} {kx73 : vC → Option ρ} (hl0 : l0 < N) (C : vi_C E X yX2_writeNote cX2_writeNote 4 (some .boolean) 2 0 0 (45 * 2)) (hx59 : ∀ (M : vC) , kx59 M  = some R → ∀ S, RC S z x N d0 M → cF S0 S z x N d0 → vi_W E X 4 Z 59 [] [] S (cz M) 0 0) (hx73 : ∀ (M : vC) , kx73 M  = some R → ∀ S, RC S z x N d0 M → cF S0 S z x N d0 → vi_W E X 4 Z 73 [(0, .ref (ad z x 2 (l0)))] [] S (cz M) 0 0) : ∀ (f : Nat) (M : vC) (l3 : Int32), L_X2_writeNote_43 N l0 l1 kx59 kx73 f M l3 = some R → ∀ S, RC S z x N d0 M → cF S0 S z x N d0 → vi_W E X 4 Z 43 [(0, .ref (ad z x 2 (l0))), (1, .int (l1)), (3, .int (l3))] [] S (cz M) 0 0 := by
  intro f
  induction f with
  | zero => intro M l3 h; cases h
  | succ f ih =>
    intro M l3 h S hR hF
    rw [L_X2_writeNote_43] at h
    refine vi_iload_n C dX2_writeNote_43 rfl rfl ?_
    refine vi_iload_n C dX2_writeNote_44 rfl rfl ?_
    refine vi_sipush (v := 512) C dX2_writeNote_45 rfl (by decide) ?_
    refine vi_idiv C dX2_writeNote_48 rfl (by decide) ?_
    refine vi_icmp_lt (t' := 73) C dX2_writeNote_49 rfl (by decide) (fun c8 => ?_) (fun c8 => ?_)
    · replace h := iT c8 h
      exact (vi_cut [(0, .ref (ad z x 2 (l0)))] ⟨rfl, trivial⟩ (hx73 _  h _ hR hF))
    · replace h := iN c8 h
      refine vi_aload_n C dX2_writeNote_52 rfl rfl ?_
      refine c_cv1 (kc := 2) (a := (ad z x 2 (l0))) C [] [] dX2_writeNote_53 rfl ivX2_81 imX2_crashes rfl rfl (rcK hR hl0) hR hF h (fun _ e => p_X2_crashes hl0 e hR) rfl (Nat.le_of_ble_eq_true rfl) ⟨by decide, by decide⟩ ⟨Nat.le_refl _, Nat.le_refl _⟩ (fun S M4 v5 h hR hF => ?_)
      refine vi_if_eq (t' := 61) C dX2_writeNote_56 rfl (by decide) (fun c7 => ?_) (fun c7 => ?_)
      · replace h := iT c7 h
        refine vi_aload_n C dX2_writeNote_61 rfl rfl ?_
        refine vi_iload_n C dX2_writeNote_62 rfl rfl ?_
        refine vi_iload_n C dX2_writeNote_63 rfl rfl ?_
        refine c_cv0 (kc := 2) (a := (ad z x 2 (l0))) C [.int (l3), .int (l1)] [] dX2_writeNote_64 rfl ivX2_30 imX2_place rfl rfl (rcK hR hl0) hR hF h (fun _ e => p_X2_place hl0 e hR) rfl (Nat.le_of_ble_eq_true rfl) ⟨by decide, by decide⟩ ⟨Nat.le_refl _, Nat.le_refl _⟩ (fun S M6 h hR hF => ?_)
        refine vi_iincv (v := -1) C dX2_writeNote_67 rfl rfl (by decide) (by decide) ?_
        refine vi_goto (t' := 43) C dX2_writeNote_70 (by decide) ?_
        exact vi_cut [(0, .ref (ad z x 2 (l0))), (1, .int (l1)), (3, .int ((l3 + (-1))))] ⟨rfl, rfl, rfl, trivial⟩ (ih _ _ h _ hR hF)
      · replace h := iN c7 h
        exact (vi_cut [] trivial (hx59 _  h _ hR hF))

set_option maxRecDepth 100000 in
set_option maxHeartbeats 4000000 in
theorem p_X2_writeNote {N : Nat} {M : vC} {R : (vC × Int32)} {a0 : Nat} (ha0 : a0 < N) (h : F_X2_writeNote N M a0 = some R) {E : vE} {S0 : vS} {z x d0 : Nat} (hR : RC S0 z x N d0 M) : vi_Met E yX2_writeNote cX2_writeNote 4 (some .boolean) 2 0 0 [.ref (ad z x 2 (a0))] S0 (cz M) (D1 S0 z x N d0 R) := by
  refine vi_met (by decide) (Nat.le_of_ble_eq_true rfl) ?_
  intro X C
  have hF := cF.refl S0 z x N d0
  unfold F_X2_writeNote at h
  refine vi_aload_n C dX2_writeNote_0 rfl rfl ?_
  refine c_geti (f := 209) (k := 2) (i := a0) C dX2_writeNote_1 rfl fX2_39 rfl (by decide) rfl hR ha0 ?_
  refine c_cs1 C [.int ((cI M 209 (a0)))] [] dX2_writeNote_4 rfl ivX2_74 isX2_startOf hR hF h (fun _ e => p_X2_startOf  e hR) rfl (Nat.le_of_ble_eq_true rfl) ⟨by decide, by decide⟩ ⟨Nat.le_refl _, Nat.le_refl _⟩ (fun S M1 v2 h hR hF => ?_)
  refine vi_aload_n C dX2_writeNote_7 rfl rfl ?_
  refine c_geti (f := 207) (k := 2) (i := a0) C dX2_writeNote_8 rfl fX2_36 rfl (by decide) rfl hR ha0 ?_
  refine vi_iadd C dX2_writeNote_11 rfl ?_
  refine vi_istore_n C dX2_writeNote_12 rfl (by decide) ?_
  refine vi_aload_n C dX2_writeNote_13 rfl rfl ?_
  refine vi_sipush (v := 15872) C dX2_writeNote_14 rfl (by decide) ?_
  refine vi_aload_n C dX2_writeNote_17 rfl rfl ?_
  refine c_geti (f := 207) (k := 2) (i := a0) C dX2_writeNote_18 rfl fX2_36 rfl (by decide) rfl hR ha0 ?_
  refine vi_isub C dX2_writeNote_21 rfl ?_
  refine c_cv0 (kc := 2) (a := (ad z x 2 (a0))) C [.int (((15872 : Int32) - (cI M1 207 (a0))))] [] dX2_writeNote_22 rfl ivX2_78 imX2_closeImage rfl rfl (rcK hR ha0) hR hF h (fun _ e => p_X2_closeImage ha0 e hR) rfl (Nat.le_of_ble_eq_true rfl) ⟨by decide, by decide⟩ ⟨Nat.le_refl _, Nat.le_refl _⟩ (fun S M3 h hR hF => ?_)
  refine vi_iload_n C dX2_writeNote_25 rfl rfl ?_
  refine vi_aload_n C dX2_writeNote_26 rfl rfl ?_
  refine c_gets (f := 201) (k := 2) (i := a0) C dX2_writeNote_27 rfl fX2_22 rfl (by decide) rfl hR ha0 rfl ?_
  refine c_geti (f := 1) (k := 0) (i := 2) C dX2_writeNote_30 rfl fX2_53 rfl (by decide) rfl hR (show 2 < 3 from by decide) ?_
  refine vi_iadd C dX2_writeNote_33 rfl ?_
  refine vi_iconst (v := 1) C dX2_writeNote_34 rfl (by decide) ?_
  refine vi_isub C dX2_writeNote_35 rfl ?_
  refine vi_sipush (v := 512) C dX2_writeNote_36 rfl (by decide) ?_
  refine vi_idiv C dX2_writeNote_39 rfl (by decide) ?_
  refine vi_istore_n C dX2_writeNote_40 rfl (by decide) ?_
  refine vi_iload_n C dX2_writeNote_41 rfl rfl ?_
  refine vi_istore_n C dX2_writeNote_42 rfl (by decide) ?_
  refine vi_cut [(0, .ref (ad z x 2 (a0))), (1, .int ((v2 + (cI M1 207 (a0))))), (3, .int (((((v2 + (cI M1 207 (a0))) + (cI M3 1 (2))) - (1 : Int32)) / (512 : Int32))))] ⟨rfl, rfl, rfl, trivial⟩ (w_X2_writeNote_43 ha0 C ?_ ?_ _ _ _ h _ hR hF)
  · intro M9 h S hR hF
    refine vi_iconst (v := 0) C dX2_writeNote_59 rfl (by decide) ?_
    exact c_retz C dX2_writeNote_60 rfl hR hF ⟨Nat.zero_le _, Nat.zero_le _⟩ h
  · intro M10 h S hR hF
    refine vi_aload_n C dX2_writeNote_73 rfl rfl ?_
    refine vi_dup C dX2_writeNote_74 rfl rfl ?_
    refine c_geti (f := 207) (k := 2) (i := a0) C dX2_writeNote_75 rfl fX2_36 rfl (by decide) rfl hR ha0 ?_
    refine vi_aload_n C dX2_writeNote_78 rfl rfl ?_
    refine c_geti (f := 203) (k := 2) (i := a0) C dX2_writeNote_79 rfl fX2_71 rfl (by decide) rfl hR ha0 ?_
    refine vi_iadd C dX2_writeNote_82 rfl ?_
    refine c_puti (f := 207) (k := 2) (i := a0) C dX2_writeNote_83 rfl (fpX2_36 _) rfl (by decide) rfl hR hF ha0 h (fun S M11 h hR hF => ?_)
    refine vi_aload_n C dX2_writeNote_86 rfl rfl ?_
    refine vi_dup C dX2_writeNote_87 rfl rfl ?_
    refine c_geti (f := 206) (k := 2) (i := a0) C dX2_writeNote_88 rfl fX2_33 rfl (by decide) rfl hR ha0 ?_
    refine vi_aload_n C dX2_writeNote_91 rfl rfl ?_
    refine c_geti (f := 202) (k := 2) (i := a0) C dX2_writeNote_92 rfl fX2_50 rfl (by decide) rfl hR ha0 ?_
    refine vi_iadd C dX2_writeNote_95 rfl ?_
    refine c_puti (f := 206) (k := 2) (i := a0) C dX2_writeNote_96 rfl (fpX2_33 _) rfl (by decide) rfl hR hF ha0 h (fun S M12 h hR hF => ?_)
    refine vi_iconst (v := 1) C dX2_writeNote_99 rfl (by decide) ?_
    exact c_retz C dX2_writeNote_100 rfl hR hF ⟨Nat.zero_le _, Nat.zero_le _⟩ h

def L_X2_writeHalf_39 {ρ : Type} (N : Nat) (l0 : Nat) (l1 : Int32) (l2 : Int32) (kx51 : vC → Option ρ) (kx65 : vC → Option ρ) : Nat → vC → Int32 → Option ρ
  | 0, _, _ => none
  | f + 1, M, l3 => if l2 < l3 then (kx65 M ) else (b2 (F_X2_crashes N M (l0)) fun M4 v5 => if v5 = 0 then ((F_X2_place N M4 (l0) (l3) (l1)).bind fun M6 => L_X2_writeHalf_39 N l0 l1 l2 kx51 kx65 f M6 ((l3 + (1)))) else (kx51 M4 ))

def F_X2_writeHalf (N : Nat) (M : vC) (a0 : Nat) : Option (vC × Int32) := b2 (F_X2_startOf N M (((1 : Int32) - (cI M 209 (a0))))) fun M1 v2 => (F_X2_closeImage N M1 (a0) ((15872 : Int32))).bind fun M3 => L_X2_writeHalf_39 N (a0) (v2) ((((v2 + (cI M3 1 (2))) - (1 : Int32)) / (512 : Int32))) (fun (M9 : vC)  => zb ((0 : Int32)) (some (M9, (0 : Int32)))) (fun (M10 : vC)  => zb ((1 : Int32)) (some (M10, (1 : Int32)))) fu M3 ((v2 / (512 : Int32)))

set_option maxRecDepth 100000 in
set_option maxHeartbeats 4000000 in
theorem w_X2_writeHalf_39 {E : vE} {X : vX} {S0 : vS} {z x N d0 : Nat} {ρ : Type} {R : ρ} {Z : State → Prop} {l0 : Nat} {l1 : Int32} {l2 : Int32} {kx51 : vC → Option ρ} {kx65 : vC → Option ρ} (hl0 : l0 < N) (C : vi_C E X yX2_writeHalf cX2_writeHalf 4 (some .boolean) 2 0 0 (45 * 2)) (hx51 : ∀ (M : vC) , kx51 M  = some R → ∀ S, RC S z x N d0 M → cF S0 S z x N d0 → vi_W E X 4 Z 51 [] [] S (cz M) 0 0) (hx65 : ∀ (M : vC) , kx65 M  = some R → ∀ S, RC S z x N d0 M → cF S0 S z x N d0 → vi_W E X 4 Z 65 [] [] S (cz M) 0 0) : ∀ (f : Nat) (M : vC) (l3 : Int32), L_X2_writeHalf_39 N l0 l1 l2 kx51 kx65 f M l3 = some R → ∀ S, RC S z x N d0 M → cF S0 S z x N d0 → vi_W E X 4 Z 39 [(0, .ref (ad z x 2 (l0))), (1, .int (l1)), (2, .int (l2)), (3, .int (l3))] [] S (cz M) 0 0 := by
  intro f
  induction f with
  | zero => intro M l3 h; cases h
  | succ f ih =>
    intro M l3 h S hR hF
    rw [L_X2_writeHalf_39] at h
    refine vi_iload_n C dX2_writeHalf_39 rfl rfl ?_
    refine vi_iload_n C dX2_writeHalf_40 rfl rfl ?_
    refine vi_icmp_gt (t' := 65) C dX2_writeHalf_41 rfl (by decide) (fun c8 => ?_) (fun c8 => ?_)
    · replace h := iT c8 h
      exact (vi_cut [] trivial (hx65 _  h _ hR hF))
    · replace h := iN c8 h
      refine vi_aload_n C dX2_writeHalf_44 rfl rfl ?_
      refine c_cv1 (kc := 2) (a := (ad z x 2 (l0))) C [] [] dX2_writeHalf_45 rfl ivX2_81 imX2_crashes rfl rfl (rcK hR hl0) hR hF h (fun _ e => p_X2_crashes hl0 e hR) rfl (Nat.le_of_ble_eq_true rfl) ⟨by decide, by decide⟩ ⟨Nat.le_refl _, Nat.le_refl _⟩ (fun S M4 v5 h hR hF => ?_)
      refine vi_if_eq (t' := 53) C dX2_writeHalf_48 rfl (by decide) (fun c7 => ?_) (fun c7 => ?_)
      · replace h := iT c7 h
        refine vi_aload_n C dX2_writeHalf_53 rfl rfl ?_
        refine vi_iload_n C dX2_writeHalf_54 rfl rfl ?_
        refine vi_iload_n C dX2_writeHalf_55 rfl rfl ?_
        refine c_cv0 (kc := 2) (a := (ad z x 2 (l0))) C [.int (l3), .int (l1)] [] dX2_writeHalf_56 rfl ivX2_30 imX2_place rfl rfl (rcK hR hl0) hR hF h (fun _ e => p_X2_place hl0 e hR) rfl (Nat.le_of_ble_eq_true rfl) ⟨by decide, by decide⟩ ⟨Nat.le_refl _, Nat.le_refl _⟩ (fun S M6 h hR hF => ?_)
        refine vi_iincv (v := 1) C dX2_writeHalf_59 rfl rfl (by decide) (by decide) ?_
        refine vi_goto (t' := 39) C dX2_writeHalf_62 (by decide) ?_
        exact vi_cut [(0, .ref (ad z x 2 (l0))), (1, .int (l1)), (2, .int (l2)), (3, .int ((l3 + (1))))] ⟨rfl, rfl, rfl, rfl, trivial⟩ (ih _ _ h _ hR hF)
      · replace h := iN c7 h
        exact (vi_cut [] trivial (hx51 _  h _ hR hF))

set_option maxRecDepth 100000 in
set_option maxHeartbeats 4000000 in
theorem p_X2_writeHalf {N : Nat} {M : vC} {R : (vC × Int32)} {a0 : Nat} (ha0 : a0 < N) (h : F_X2_writeHalf N M a0 = some R) {E : vE} {S0 : vS} {z x d0 : Nat} (hR : RC S0 z x N d0 M) : vi_Met E yX2_writeHalf cX2_writeHalf 4 (some .boolean) 2 0 0 [.ref (ad z x 2 (a0))] S0 (cz M) (D1 S0 z x N d0 R) := by
  refine vi_met (by decide) (Nat.le_of_ble_eq_true rfl) ?_
  intro X C
  have hF := cF.refl S0 z x N d0
  unfold F_X2_writeHalf at h
  refine vi_iconst (v := 1) C dX2_writeHalf_0 rfl (by decide) ?_
  refine vi_aload_n C dX2_writeHalf_1 rfl rfl ?_
  refine c_geti (f := 209) (k := 2) (i := a0) C dX2_writeHalf_2 rfl fX2_39 rfl (by decide) rfl hR ha0 ?_
  refine vi_isub C dX2_writeHalf_5 rfl ?_
  refine c_cs1 C [.int (((1 : Int32) - (cI M 209 (a0))))] [] dX2_writeHalf_6 rfl ivX2_74 isX2_startOf hR hF h (fun _ e => p_X2_startOf  e hR) rfl (Nat.le_of_ble_eq_true rfl) ⟨by decide, by decide⟩ ⟨Nat.le_refl _, Nat.le_refl _⟩ (fun S M1 v2 h hR hF => ?_)
  refine vi_istore_n C dX2_writeHalf_9 rfl (by decide) ?_
  refine vi_aload_n C dX2_writeHalf_10 rfl rfl ?_
  refine vi_sipush (v := 15872) C dX2_writeHalf_11 rfl (by decide) ?_
  refine c_cv0 (kc := 2) (a := (ad z x 2 (a0))) C [.int ((15872 : Int32))] [] dX2_writeHalf_14 rfl ivX2_78 imX2_closeImage rfl rfl (rcK hR ha0) hR hF h (fun _ e => p_X2_closeImage ha0 e hR) rfl (Nat.le_of_ble_eq_true rfl) ⟨by decide, by decide⟩ ⟨Nat.le_refl _, Nat.le_refl _⟩ (fun S M3 h hR hF => ?_)
  refine vi_iload_n C dX2_writeHalf_17 rfl rfl ?_
  refine vi_aload_n C dX2_writeHalf_18 rfl rfl ?_
  refine c_gets (f := 201) (k := 2) (i := a0) C dX2_writeHalf_19 rfl fX2_22 rfl (by decide) rfl hR ha0 rfl ?_
  refine c_geti (f := 1) (k := 0) (i := 2) C dX2_writeHalf_22 rfl fX2_53 rfl (by decide) rfl hR (show 2 < 3 from by decide) ?_
  refine vi_iadd C dX2_writeHalf_25 rfl ?_
  refine vi_iconst (v := 1) C dX2_writeHalf_26 rfl (by decide) ?_
  refine vi_isub C dX2_writeHalf_27 rfl ?_
  refine vi_sipush (v := 512) C dX2_writeHalf_28 rfl (by decide) ?_
  refine vi_idiv C dX2_writeHalf_31 rfl (by decide) ?_
  refine vi_istore_n C dX2_writeHalf_32 rfl (by decide) ?_
  refine vi_iload_n C dX2_writeHalf_33 rfl rfl ?_
  refine vi_sipush (v := 512) C dX2_writeHalf_34 rfl (by decide) ?_
  refine vi_idiv C dX2_writeHalf_37 rfl (by decide) ?_
  refine vi_istore_n C dX2_writeHalf_38 rfl (by decide) ?_
  refine vi_cut [(0, .ref (ad z x 2 (a0))), (1, .int (v2)), (2, .int ((((v2 + (cI M3 1 (2))) - (1 : Int32)) / (512 : Int32)))), (3, .int ((v2 / (512 : Int32))))] ⟨rfl, rfl, rfl, rfl, trivial⟩ (w_X2_writeHalf_39 ha0 C ?_ ?_ _ _ _ h _ hR hF)
  · intro M9 h S hR hF
    refine vi_iconst (v := 0) C dX2_writeHalf_51 rfl (by decide) ?_
    exact c_retz C dX2_writeHalf_52 rfl hR hF ⟨Nat.zero_le _, Nat.zero_le _⟩ h
  · intro M10 h S hR hF
    refine vi_iconst (v := 1) C dX2_writeHalf_65 rfl (by decide) ?_
    exact c_retz C dX2_writeHalf_66 rfl hR hF ⟨Nat.zero_le _, Nat.zero_le _⟩ h
