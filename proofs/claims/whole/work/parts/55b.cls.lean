def L_X2_makeHead_43 {ρ : Type} (N : Nat) (l0 : Nat) (l1 : Int32) (kx65 : vC → Option ρ) : Nat → vC → Int32 → Option ρ
  | 0, _, _ => none
  | f + 1, M, l3 => if (32 : Int32) ≤ l3 then (kx65 M ) else ((F_X0_put N M (2) (((l1).toUInt32 >>> ((l3).toUInt32 &&& Int32.toUInt32 31)).toInt32)).bind fun M6 => L_X2_makeHead_43 N l0 l1 kx65 f M6 ((l3 + (8))))

def F_X2_makeHead (N : Nat) (M : vC) (a0 : Nat) (a1 : Int32) (a2 : Int32) : Option vC := (F_X0_clear N M (2)).bind fun M1 => (F_X0_put N M1 (2) ((74 : Int32))).bind fun M2 => (F_X0_put N M2 (2) ((49 : Int32))).bind fun M3 => (F_X0_put N M3 (2) (a2)).bind fun M4 => (F_X0_put N M4 (2) ((0 : Int32))).bind fun M5 => L_X2_makeHead_43 N (a0) (a1) (fun (M8 : vC)  => (F_X0_putCheck N M8 (2) ((0 : Int32))).bind fun M9 => some M9) fu M5 ((0 : Int32))

set_option maxRecDepth 100000 in
set_option maxHeartbeats 4000000 in
theorem w_X2_makeHead_43 {E : vE} {X : vX} {S0 : vS} {z x N d0 : Nat} {ρ : Type} {R : ρ} {Z : State → Prop} {l0 : Nat} {l1 : Int32} {kx65 : vC → Option ρ} (hl0 : l0 < N) (C : vi_C E X yX2_makeHead cX2_makeHead 4 none 2 0 0 (45 * 2)) (hx65 : ∀ (M : vC) , kx65 M  = some R → ∀ S, RC S z x N d0 M → cF S0 S z x N d0 → vi_W E X 4 Z 65 [(0, .ref (ad z x 2 (l0)))] [] S (cz M) 0 0) : ∀ (f : Nat) (M : vC) (l3 : Int32), L_X2_makeHead_43 N l0 l1 kx65 f M l3 = some R → ∀ S, RC S z x N d0 M → cF S0 S z x N d0 → vi_W E X 4 Z 43 [(0, .ref (ad z x 2 (l0))), (1, .int (l1)), (3, .int (l3))] [] S (cz M) 0 0 := by
  intro f
  induction f with
  | zero => intro M l3 h; cases h
  | succ f ih =>
    intro M l3 h S hR hF
    rw [L_X2_makeHead_43] at h
    refine vi_iload_n C dX2_makeHead_43 rfl rfl ?_
    refine vi_bipush (v := 32) C dX2_makeHead_44 rfl (by decide) ?_
    refine vi_icmp_ge (t' := 65) C dX2_makeHead_46 rfl (by decide) (fun c7 => ?_) (fun c7 => ?_)
    · replace h := iT c7 h
      exact (vi_cut [(0, .ref (ad z x 2 (l0)))] ⟨rfl, trivial⟩ (hx65 _  h _ hR hF))
    · replace h := iN c7 h
      refine vi_aload_n C dX2_makeHead_49 rfl rfl ?_
      refine c_gets (f := 201) (k := 2) (i := l0) C dX2_makeHead_50 rfl fX2_22 rfl (by decide) rfl hR hl0 rfl ?_
      refine vi_iload_n C dX2_makeHead_53 rfl rfl ?_
      refine vi_iload_n C dX2_makeHead_54 rfl rfl ?_
      refine vi_iushr C dX2_makeHead_55 rfl ?_
      refine c_cv0 (kc := 0) (a := (ad z x 0 (2))) C [.int (((l1).toUInt32 >>> ((l3).toUInt32 &&& Int32.toUInt32 31)).toInt32)] [] dX2_makeHead_56 rfl ivX2_56 imX0_put rfl rfl (rcK hR (show 2 < 3 from by decide)) hR hF h (fun _ e => p_X0_put (show 2 < 3 from by decide) e hR) rfl (Nat.le_of_ble_eq_true rfl) ⟨by decide, by decide⟩ ⟨Nat.le_refl _, Nat.le_refl _⟩ (fun S M6 h hR hF => ?_)
      refine vi_iincv (v := 8) C dX2_makeHead_59 rfl rfl (by decide) (by decide) ?_
      refine vi_goto (t' := 43) C dX2_makeHead_62 (by decide) ?_
      exact vi_cut [(0, .ref (ad z x 2 (l0))), (1, .int (l1)), (3, .int ((l3 + (8))))] ⟨rfl, rfl, rfl, trivial⟩ (ih _ _ h _ hR hF)

set_option maxRecDepth 100000 in
set_option maxHeartbeats 4000000 in
theorem p_X2_makeHead {N : Nat} {M : vC} {R : vC} {a0 : Nat} {a1 : Int32} {a2 : Int32} (ha0 : a0 < N) (h : F_X2_makeHead N M a0 a1 a2 = some R) {E : vE} {S0 : vS} {z x d0 : Nat} (hR : RC S0 z x N d0 M) : vi_Met E yX2_makeHead cX2_makeHead 4 none 2 0 0 [.ref (ad z x 2 (a0)), .int (a1), .int (a2)] S0 (cz M) (D0 S0 z x N d0 R) := by
  refine vi_met (by decide) (Nat.le_of_ble_eq_true rfl) ?_
  intro X C
  have hF := cF.refl S0 z x N d0
  unfold F_X2_makeHead at h
  refine vi_aload_n C dX2_makeHead_0 rfl rfl ?_
  refine c_gets (f := 201) (k := 2) (i := a0) C dX2_makeHead_1 rfl fX2_22 rfl (by decide) rfl hR ha0 rfl ?_
  refine c_cv0 (kc := 0) (a := (ad z x 0 (2))) C [] [] dX2_makeHead_4 rfl ivX2_45 imX0_clear rfl rfl (rcK hR (show 2 < 3 from by decide)) hR hF h (fun _ e => p_X0_clear (show 2 < 3 from by decide) e hR) rfl (Nat.le_of_ble_eq_true rfl) ⟨by decide, by decide⟩ ⟨Nat.le_refl _, Nat.le_refl _⟩ (fun S M1 h hR hF => ?_)
  refine vi_aload_n C dX2_makeHead_7 rfl rfl ?_
  refine c_gets (f := 201) (k := 2) (i := a0) C dX2_makeHead_8 rfl fX2_22 rfl (by decide) rfl hR ha0 rfl ?_
  refine vi_bipush (v := 74) C dX2_makeHead_11 rfl (by decide) ?_
  refine c_cv0 (kc := 0) (a := (ad z x 0 (2))) C [.int ((74 : Int32))] [] dX2_makeHead_13 rfl ivX2_56 imX0_put rfl rfl (rcK hR (show 2 < 3 from by decide)) hR hF h (fun _ e => p_X0_put (show 2 < 3 from by decide) e hR) rfl (Nat.le_of_ble_eq_true rfl) ⟨by decide, by decide⟩ ⟨Nat.le_refl _, Nat.le_refl _⟩ (fun S M2 h hR hF => ?_)
  refine vi_aload_n C dX2_makeHead_16 rfl rfl ?_
  refine c_gets (f := 201) (k := 2) (i := a0) C dX2_makeHead_17 rfl fX2_22 rfl (by decide) rfl hR ha0 rfl ?_
  refine vi_bipush (v := 49) C dX2_makeHead_20 rfl (by decide) ?_
  refine c_cv0 (kc := 0) (a := (ad z x 0 (2))) C [.int ((49 : Int32))] [] dX2_makeHead_22 rfl ivX2_56 imX0_put rfl rfl (rcK hR (show 2 < 3 from by decide)) hR hF h (fun _ e => p_X0_put (show 2 < 3 from by decide) e hR) rfl (Nat.le_of_ble_eq_true rfl) ⟨by decide, by decide⟩ ⟨Nat.le_refl _, Nat.le_refl _⟩ (fun S M3 h hR hF => ?_)
  refine vi_aload_n C dX2_makeHead_25 rfl rfl ?_
  refine c_gets (f := 201) (k := 2) (i := a0) C dX2_makeHead_26 rfl fX2_22 rfl (by decide) rfl hR ha0 rfl ?_
  refine vi_iload_n C dX2_makeHead_29 rfl rfl ?_
  refine c_cv0 (kc := 0) (a := (ad z x 0 (2))) C [.int (a2)] [] dX2_makeHead_30 rfl ivX2_56 imX0_put rfl rfl (rcK hR (show 2 < 3 from by decide)) hR hF h (fun _ e => p_X0_put (show 2 < 3 from by decide) e hR) rfl (Nat.le_of_ble_eq_true rfl) ⟨by decide, by decide⟩ ⟨Nat.le_refl _, Nat.le_refl _⟩ (fun S M4 h hR hF => ?_)
  refine vi_aload_n C dX2_makeHead_33 rfl rfl ?_
  refine c_gets (f := 201) (k := 2) (i := a0) C dX2_makeHead_34 rfl fX2_22 rfl (by decide) rfl hR ha0 rfl ?_
  refine vi_iconst (v := 0) C dX2_makeHead_37 rfl (by decide) ?_
  refine c_cv0 (kc := 0) (a := (ad z x 0 (2))) C [.int ((0 : Int32))] [] dX2_makeHead_38 rfl ivX2_56 imX0_put rfl rfl (rcK hR (show 2 < 3 from by decide)) hR hF h (fun _ e => p_X0_put (show 2 < 3 from by decide) e hR) rfl (Nat.le_of_ble_eq_true rfl) ⟨by decide, by decide⟩ ⟨Nat.le_refl _, Nat.le_refl _⟩ (fun S M5 h hR hF => ?_)
  refine vi_iconst (v := 0) C dX2_makeHead_41 rfl (by decide) ?_
  refine vi_istore_n C dX2_makeHead_42 rfl (by decide) ?_
  refine vi_cut [(0, .ref (ad z x 2 (a0))), (1, .int (a1)), (3, .int ((0 : Int32)))] ⟨rfl, rfl, rfl, trivial⟩ (w_X2_makeHead_43 ha0 C ?_ _ _ _ h _ hR hF)
  · intro M8 h S hR hF
    refine vi_aload_n C dX2_makeHead_65 rfl rfl ?_
    refine c_gets (f := 201) (k := 2) (i := a0) C dX2_makeHead_66 rfl fX2_22 rfl (by decide) rfl hR ha0 rfl ?_
    refine vi_iconst (v := 0) C dX2_makeHead_69 rfl (by decide) ?_
    refine c_cv0 (kc := 0) (a := (ad z x 0 (2))) C [.int ((0 : Int32))] [] dX2_makeHead_70 rfl ivX2_68 imX0_putCheck rfl rfl (rcK hR (show 2 < 3 from by decide)) hR hF h (fun _ e => p_X0_putCheck (show 2 < 3 from by decide) e hR) rfl (Nat.le_of_ble_eq_true rfl) ⟨by decide, by decide⟩ ⟨Nat.le_refl _, Nat.le_refl _⟩ (fun S M9 h hR hF => ?_)
    exact c_ret0 C dX2_makeHead_73 rfl hR hF ⟨Nat.zero_le _, Nat.zero_le _⟩ h

def F_X2_writeHead (N : Nat) (M : vC) (a0 : Nat) : Option (vC × Int32) := b2 (F_X2_crashes N M (a0)) fun M1 v2 => if v2 = 0 then (lt1 (uI M1 208 (a0) (((cI M1 208 (a0)) + (1 : Int32)))) fun M3 => lt1 (uI M3 209 (a0) (((1 : Int32) - (cI M3 209 (a0))))) fun M4 => lt1 (uI M4 207 (a0) ((cI M4 203 (a0)))) fun M5 => lt1 (uI M5 206 (a0) ((cI M5 202 (a0)))) fun M6 => (F_X2_place N M6 (a0) (((cI M6 208 (a0)) &&& (1 : Int32))) ((((cI M6 208 (a0)) &&& (1 : Int32)) * (512 : Int32)))).bind fun M7 => zb ((1 : Int32)) (some (M7, (1 : Int32)))) else (zb ((0 : Int32)) (some (M1, (0 : Int32))))

set_option maxRecDepth 100000 in
set_option maxHeartbeats 4000000 in
theorem p_X2_writeHead {N : Nat} {M : vC} {R : (vC × Int32)} {a0 : Nat} (ha0 : a0 < N) (h : F_X2_writeHead N M a0 = some R) {E : vE} {S0 : vS} {z x d0 : Nat} (hR : RC S0 z x N d0 M) : vi_Met E yX2_writeHead cX2_writeHead 2 (some .boolean) 2 0 0 [.ref (ad z x 2 (a0))] S0 (cz M) (D1 S0 z x N d0 R) := by
  refine vi_met (by decide) (Nat.le_of_ble_eq_true rfl) ?_
  intro X C
  have hF := cF.refl S0 z x N d0
  unfold F_X2_writeHead at h
  refine vi_aload_n C dX2_writeHead_0 rfl rfl ?_
  refine c_cv1 (kc := 2) (a := (ad z x 2 (a0))) C [] [] dX2_writeHead_1 rfl ivX2_81 imX2_crashes rfl rfl (rcK hR ha0) hR hF h (fun _ e => p_X2_crashes ha0 e hR) rfl (Nat.le_of_ble_eq_true rfl) ⟨by decide, by decide⟩ ⟨Nat.le_refl _, Nat.le_refl _⟩ (fun S M1 v2 h hR hF => ?_)
  refine vi_if_eq (t' := 9) C dX2_writeHead_4 rfl (by decide) (fun c8 => ?_) (fun c8 => ?_)
  · replace h := iT c8 h
    refine vi_aload_n C dX2_writeHead_9 rfl rfl ?_
    refine vi_dup C dX2_writeHead_10 rfl rfl ?_
    refine c_geti (f := 208) (k := 2) (i := a0) C dX2_writeHead_11 rfl fX2_19 rfl (by decide) rfl hR ha0 ?_
    refine vi_iconst (v := 1) C dX2_writeHead_14 rfl (by decide) ?_
    refine vi_iadd C dX2_writeHead_15 rfl ?_
    refine c_puti (f := 208) (k := 2) (i := a0) C dX2_writeHead_16 rfl (fpX2_19 _) rfl (by decide) rfl hR hF ha0 h (fun S M3 h hR hF => ?_)
    refine vi_aload_n C dX2_writeHead_19 rfl rfl ?_
    refine vi_iconst (v := 1) C dX2_writeHead_20 rfl (by decide) ?_
    refine vi_aload_n C dX2_writeHead_21 rfl rfl ?_
    refine c_geti (f := 209) (k := 2) (i := a0) C dX2_writeHead_22 rfl fX2_39 rfl (by decide) rfl hR ha0 ?_
    refine vi_isub C dX2_writeHead_25 rfl ?_
    refine c_puti (f := 209) (k := 2) (i := a0) C dX2_writeHead_26 rfl (fpX2_39 _) rfl (by decide) rfl hR hF ha0 h (fun S M4 h hR hF => ?_)
    refine vi_aload_n C dX2_writeHead_29 rfl rfl ?_
    refine vi_aload_n C dX2_writeHead_30 rfl rfl ?_
    refine c_geti (f := 203) (k := 2) (i := a0) C dX2_writeHead_31 rfl fX2_71 rfl (by decide) rfl hR ha0 ?_
    refine c_puti (f := 207) (k := 2) (i := a0) C dX2_writeHead_34 rfl (fpX2_36 _) rfl (by decide) rfl hR hF ha0 h (fun S M5 h hR hF => ?_)
    refine vi_aload_n C dX2_writeHead_37 rfl rfl ?_
    refine vi_aload_n C dX2_writeHead_38 rfl rfl ?_
    refine c_geti (f := 202) (k := 2) (i := a0) C dX2_writeHead_39 rfl fX2_50 rfl (by decide) rfl hR ha0 ?_
    refine c_puti (f := 206) (k := 2) (i := a0) C dX2_writeHead_42 rfl (fpX2_33 _) rfl (by decide) rfl hR hF ha0 h (fun S M6 h hR hF => ?_)
    refine vi_aload_n C dX2_writeHead_45 rfl rfl ?_
    refine c_geti (f := 208) (k := 2) (i := a0) C dX2_writeHead_46 rfl fX2_19 rfl (by decide) rfl hR ha0 ?_
    refine vi_iconst (v := 1) C dX2_writeHead_49 rfl (by decide) ?_
    refine vi_iand C dX2_writeHead_50 rfl ?_
    refine vi_istore_n C dX2_writeHead_51 rfl (by decide) ?_
    refine vi_aload_n C dX2_writeHead_52 rfl rfl ?_
    refine vi_iload_n C dX2_writeHead_53 rfl rfl ?_
    refine vi_iload_n C dX2_writeHead_54 rfl rfl ?_
    refine vi_sipush (v := 512) C dX2_writeHead_55 rfl (by decide) ?_
    refine vi_imul C dX2_writeHead_58 rfl ?_
    refine c_cv0 (kc := 2) (a := (ad z x 2 (a0))) C [.int (((cI M6 208 (a0)) &&& (1 : Int32))), .int ((((cI M6 208 (a0)) &&& (1 : Int32)) * (512 : Int32)))] [] dX2_writeHead_59 rfl ivX2_30 imX2_place rfl rfl (rcK hR ha0) hR hF h (fun _ e => p_X2_place ha0 e hR) rfl (Nat.le_of_ble_eq_true rfl) ⟨by decide, by decide⟩ ⟨Nat.le_refl _, Nat.le_refl _⟩ (fun S M7 h hR hF => ?_)
    refine vi_iconst (v := 1) C dX2_writeHead_62 rfl (by decide) ?_
    exact c_retz C dX2_writeHead_63 rfl hR hF ⟨Nat.zero_le _, Nat.zero_le _⟩ h
  · replace h := iN c8 h
    refine vi_iconst (v := 0) C dX2_writeHead_7 rfl (by decide) ?_
    exact c_retz C dX2_writeHead_8 rfl hR hF ⟨Nat.zero_le _, Nat.zero_le _⟩ h

def F_X2_byteAt (N : Nat) (M : vC) (a0 : Nat) (a1 : Int32) : Option (vC × Int32) := if (a1 >>> ((3 : Int32) &&& 31)) < 0 then (some (M, (0 : Int32))) else (if (a1 >>> ((3 : Int32) &&& 31)) < (Int32.ofNat (al 200)) then ((cGJ M (a0) ((a1 >>> ((3 : Int32) &&& 31)))).bind fun v1 => some (M, ((((v1).toUInt64 >>> ((((56 : Int32) - ((8 : Int32) * (a1 &&& (7 : Int32))))).toInt64.toUInt64 &&& Int64.toUInt64 63)).toInt64).toInt32 &&& (255 : Int32)))) else (some (M, (0 : Int32))))

set_option maxRecDepth 100000 in
set_option maxHeartbeats 4000000 in
theorem p_X2_byteAt {N : Nat} {M : vC} {R : (vC × Int32)} {a0 : Nat} {a1 : Int32} (ha0 : a0 < N) (h : F_X2_byteAt N M a0 a1 = some R) {E : vE} {S0 : vS} {z x d0 : Nat} (hR : RC S0 z x N d0 M) : vi_Met E yX2_byteAt cX2_byteAt 3 (some .int) 0 0 0 [.ref (ad z x 2 (a0)), .int (a1)] S0 (cz M) (D1 S0 z x N d0 R) := by
  refine vi_met (by decide) (Nat.le_of_ble_eq_true rfl) ?_
  intro X C
  have hF := cF.refl S0 z x N d0
  unfold F_X2_byteAt at h
  refine vi_iload_n C dX2_byteAt_0 rfl rfl ?_
  refine vi_iconst (v := 3) C dX2_byteAt_1 rfl (by decide) ?_
  refine vi_ishr C dX2_byteAt_2 rfl ?_
  refine vi_istore_n C dX2_byteAt_3 rfl (by decide) ?_
  refine vi_iload_n C dX2_byteAt_4 rfl rfl ?_
  refine vi_if_lt (t' := 17) C dX2_byteAt_5 rfl (by decide) (fun c3 => ?_) (fun c3 => ?_)
  · replace h := iT c3 h
    refine vi_iconst (v := 0) C dX2_byteAt_17 rfl (by decide) ?_
    exact c_ret1 C dX2_byteAt_18 rfl hR hF ⟨Nat.zero_le _, Nat.zero_le _⟩ h
  · replace h := iN c3 h
    refine vi_iload_n C dX2_byteAt_8 rfl rfl ?_
    refine vi_aload_n C dX2_byteAt_9 rfl rfl ?_
    refine c_gets (f := 200) (k := 2) (i := a0) C dX2_byteAt_10 rfl fX2_9 rfl (by decide) rfl hR ha0 rfl ?_
    refine c_alen C dX2_byteAt_13 rfl (by decide) hR ⟨ha0, by decide⟩ ?_
    refine vi_icmp_lt (t' := 19) C dX2_byteAt_14 rfl (by decide) (fun c2 => ?_) (fun c2 => ?_)
    · replace h := iT c2 h
      refine vi_aload_n C dX2_byteAt_19 rfl rfl ?_
      refine c_gets (f := 200) (k := 2) (i := a0) C dX2_byteAt_20 rfl fX2_9 rfl (by decide) rfl hR ha0 rfl ?_
      refine vi_iload_n C dX2_byteAt_23 rfl rfl ?_
      refine c_laload C dX2_byteAt_24 rfl hR ha0 h (fun v1 h => ?_)
      refine vi_bipush (v := 56) C dX2_byteAt_25 rfl (by decide) ?_
      refine vi_bipush (v := 8) C dX2_byteAt_27 rfl (by decide) ?_
      refine vi_iload_n C dX2_byteAt_29 rfl rfl ?_
      refine vi_bipush (v := 7) C dX2_byteAt_30 rfl (by decide) ?_
      refine vi_iand C dX2_byteAt_32 rfl ?_
      refine vi_imul C dX2_byteAt_33 rfl ?_
      refine vi_isub C dX2_byteAt_34 rfl ?_
      refine vi_lushr C dX2_byteAt_35 rfl ?_
      refine vi_l2i C dX2_byteAt_36 rfl ?_
      refine vi_sipush (v := 255) C dX2_byteAt_37 rfl (by decide) ?_
      refine vi_iand C dX2_byteAt_40 rfl ?_
      exact c_ret1 C dX2_byteAt_41 rfl hR hF ⟨Nat.zero_le _, Nat.zero_le _⟩ h
    · replace h := iN c2 h
      refine vi_iconst (v := 0) C dX2_byteAt_17 rfl (by decide) ?_
      exact c_ret1 C dX2_byteAt_18 rfl hR hF ⟨Nat.zero_le _, Nat.zero_le _⟩ h

def F_X2_twoLowFirst (N : Nat) (M : vC) (a0 : Nat) (a1 : Int32) : Option (vC × Int32) := b2 (F_X2_byteAt N M (a0) (a1)) fun M1 v2 => b2 (F_X2_byteAt N M1 (a0) ((a1 + (1 : Int32)))) fun M3 v4 => some (M3, (v2 ||| (v4 <<< ((8 : Int32) &&& 31))))

set_option maxRecDepth 100000 in
set_option maxHeartbeats 4000000 in
theorem p_X2_twoLowFirst {N : Nat} {M : vC} {R : (vC × Int32)} {a0 : Nat} {a1 : Int32} (ha0 : a0 < N) (h : F_X2_twoLowFirst N M a0 a1 = some R) {E : vE} {S0 : vS} {z x d0 : Nat} (hR : RC S0 z x N d0 M) : vi_Met E yX2_twoLowFirst cX2_twoLowFirst 2 (some .int) 1 0 0 [.ref (ad z x 2 (a0)), .int (a1)] S0 (cz M) (D1 S0 z x N d0 R) := by
  refine vi_met (by decide) (Nat.le_of_ble_eq_true rfl) ?_
  intro X C
  have hF := cF.refl S0 z x N d0
  unfold F_X2_twoLowFirst at h
  refine vi_aload_n C dX2_twoLowFirst_0 rfl rfl ?_
  refine vi_iload_n C dX2_twoLowFirst_1 rfl rfl ?_
  refine c_cv1 (kc := 2) (a := (ad z x 2 (a0))) C [.int (a1)] [] dX2_twoLowFirst_2 rfl ivX2_101 imX2_byteAt rfl rfl (rcK hR ha0) hR hF h (fun _ e => p_X2_byteAt ha0 e hR) rfl (Nat.le_of_ble_eq_true rfl) ⟨by decide, by decide⟩ ⟨Nat.le_refl _, Nat.le_refl _⟩ (fun S M1 v2 h hR hF => ?_)
  refine vi_aload_n C dX2_twoLowFirst_5 rfl rfl ?_
  refine vi_iload_n C dX2_twoLowFirst_6 rfl rfl ?_
  refine vi_iconst (v := 1) C dX2_twoLowFirst_7 rfl (by decide) ?_
  refine vi_iadd C dX2_twoLowFirst_8 rfl ?_
  refine c_cv1 (kc := 2) (a := (ad z x 2 (a0))) C [.int ((a1 + (1 : Int32)))] [.int (v2)] dX2_twoLowFirst_9 rfl ivX2_101 imX2_byteAt rfl rfl (rcK hR ha0) hR hF h (fun _ e => p_X2_byteAt ha0 e hR) rfl (Nat.le_of_ble_eq_true rfl) ⟨by decide, by decide⟩ ⟨Nat.le_refl _, Nat.le_refl _⟩ (fun S M3 v4 h hR hF => ?_)
  refine vi_bipush (v := 8) C dX2_twoLowFirst_12 rfl (by decide) ?_
  refine vi_ishl C dX2_twoLowFirst_14 rfl ?_
  refine vi_ior C dX2_twoLowFirst_15 rfl ?_
  exact c_ret1 C dX2_twoLowFirst_16 rfl hR hF ⟨Nat.zero_le _, Nat.zero_le _⟩ h

def F_X2_fourLowFirst (N : Nat) (M : vC) (a0 : Nat) (a1 : Int32) : Option (vC × Int32) := b2 (F_X2_twoLowFirst N M (a0) (a1)) fun M1 v2 => b2 (F_X2_twoLowFirst N M1 (a0) ((a1 + (2 : Int32)))) fun M3 v4 => some (M3, (v2 ||| (v4 <<< ((16 : Int32) &&& 31))))

set_option maxRecDepth 100000 in
set_option maxHeartbeats 4000000 in
theorem p_X2_fourLowFirst {N : Nat} {M : vC} {R : (vC × Int32)} {a0 : Nat} {a1 : Int32} (ha0 : a0 < N) (h : F_X2_fourLowFirst N M a0 a1 = some R) {E : vE} {S0 : vS} {z x d0 : Nat} (hR : RC S0 z x N d0 M) : vi_Met E yX2_fourLowFirst cX2_fourLowFirst 2 (some .int) 2 0 0 [.ref (ad z x 2 (a0)), .int (a1)] S0 (cz M) (D1 S0 z x N d0 R) := by
  refine vi_met (by decide) (Nat.le_of_ble_eq_true rfl) ?_
  intro X C
  have hF := cF.refl S0 z x N d0
  unfold F_X2_fourLowFirst at h
  refine vi_aload_n C dX2_fourLowFirst_0 rfl rfl ?_
  refine vi_iload_n C dX2_fourLowFirst_1 rfl rfl ?_
  refine c_cv1 (kc := 2) (a := (ad z x 2 (a0))) C [.int (a1)] [] dX2_fourLowFirst_2 rfl ivX2_102 imX2_twoLowFirst rfl rfl (rcK hR ha0) hR hF h (fun _ e => p_X2_twoLowFirst ha0 e hR) rfl (Nat.le_of_ble_eq_true rfl) ⟨by decide, by decide⟩ ⟨Nat.le_refl _, Nat.le_refl _⟩ (fun S M1 v2 h hR hF => ?_)
  refine vi_aload_n C dX2_fourLowFirst_5 rfl rfl ?_
  refine vi_iload_n C dX2_fourLowFirst_6 rfl rfl ?_
  refine vi_iconst (v := 2) C dX2_fourLowFirst_7 rfl (by decide) ?_
  refine vi_iadd C dX2_fourLowFirst_8 rfl ?_
  refine c_cv1 (kc := 2) (a := (ad z x 2 (a0))) C [.int ((a1 + (2 : Int32)))] [.int (v2)] dX2_fourLowFirst_9 rfl ivX2_102 imX2_twoLowFirst rfl rfl (rcK hR ha0) hR hF h (fun _ e => p_X2_twoLowFirst ha0 e hR) rfl (Nat.le_of_ble_eq_true rfl) ⟨by decide, by decide⟩ ⟨Nat.le_refl _, Nat.le_refl _⟩ (fun S M3 v4 h hR hF => ?_)
  refine vi_bipush (v := 16) C dX2_fourLowFirst_12 rfl (by decide) ?_
  refine vi_ishl C dX2_fourLowFirst_14 rfl ?_
  refine vi_ior C dX2_fourLowFirst_15 rfl ?_
  exact c_ret1 C dX2_fourLowFirst_16 rfl hR hF ⟨Nat.zero_le _, Nat.zero_le _⟩ h

def L_X2_isChecked_5 {ρ : Type} (N : Nat) (l0 : Nat) (l1 : Int32) (l2 : Int32) (kx30 : vC → Int32 → Option ρ) : Nat → vC → Int32 → Int32 → Option ρ
  | 0, _, _, _ => none
  | f + 1, M, l3, l4 => if l2 ≤ l4 then (kx30 M (l3)) else (b2 (F_X2_byteAt N M (l0) ((l1 + l4))) fun M1 v2 => b2 (F_X0_checkStep N M1 (l3) (v2)) fun M3 v4 => L_X2_isChecked_5 N l0 l1 l2 kx30 f M3 (v4) ((l4 + (1))))

def F_X2_isChecked (N : Nat) (M : vC) (a0 : Nat) (a1 : Int32) (a2 : Int32) : Option (vC × Int32) := L_X2_isChecked_5 N (a0) (a1) (a2) (fun (M6 : vC) (l7 : Int32) => b2 (F_X2_fourLowFirst N M6 (a0) ((a1 + a2))) fun M8 v9 => if (l7 ^^^ (-1 : Int32)) = v9 then (zb ((1 : Int32)) (some (M8, (1 : Int32)))) else (zb ((0 : Int32)) (some (M8, (0 : Int32))))) fu M ((-1 : Int32)) ((0 : Int32))

set_option maxRecDepth 100000 in
set_option maxHeartbeats 4000000 in
theorem w_X2_isChecked_5 {E : vE} {X : vX} {S0 : vS} {z x N d0 : Nat} {ρ : Type} {R : ρ} {Z : State → Prop} {l0 : Nat} {l1 : Int32} {l2 : Int32} {kx30 : vC → Int32 → Option ρ} (hl0 : l0 < N) (C : vi_C E X yX2_isChecked cX2_isChecked 5 (some .boolean) 3 0 0 (45 * 3)) (hx30 : ∀ (M : vC) (l3 : Int32), kx30 M l3 = some R → ∀ S, RC S z x N d0 M → cF S0 S z x N d0 → vi_W E X 5 Z 30 [(0, .ref (ad z x 2 (l0))), (1, .int (l1)), (2, .int (l2)), (3, .int (l3))] [] S (cz M) 0 0) : ∀ (f : Nat) (M : vC) (l3 : Int32) (l4 : Int32), L_X2_isChecked_5 N l0 l1 l2 kx30 f M l3 l4 = some R → ∀ S, RC S z x N d0 M → cF S0 S z x N d0 → vi_W E X 5 Z 5 [(0, .ref (ad z x 2 (l0))), (1, .int (l1)), (2, .int (l2)), (3, .int (l3)), (4, .int (l4))] [] S (cz M) 0 0 := by
  intro f
  induction f with
  | zero => intro M l3 l4 h; cases h
  | succ f ih =>
    intro M l3 l4 h S hR hF
    rw [L_X2_isChecked_5] at h
    refine vi_iload C dX2_isChecked_5 rfl rfl ?_
    refine vi_iload_n C dX2_isChecked_7 rfl rfl ?_
    refine vi_icmp_ge (t' := 30) C dX2_isChecked_8 rfl (by decide) (fun c5 => ?_) (fun c5 => ?_)
    · replace h := iT c5 h
      exact (vi_cut [(0, .ref (ad z x 2 (l0))), (1, .int (l1)), (2, .int (l2)), (3, .int (l3))] ⟨rfl, rfl, rfl, rfl, trivial⟩ (hx30 _ _ h _ hR hF))
    · replace h := iN c5 h
      refine vi_iload_n C dX2_isChecked_11 rfl rfl ?_
      refine vi_aload_n C dX2_isChecked_12 rfl rfl ?_
      refine vi_iload_n C dX2_isChecked_13 rfl rfl ?_
      refine vi_iload C dX2_isChecked_14 rfl rfl ?_
      refine vi_iadd C dX2_isChecked_16 rfl ?_
      refine c_cv1 (kc := 2) (a := (ad z x 2 (l0))) C [.int ((l1 + l4))] [.int (l3)] dX2_isChecked_17 rfl ivX2_101 imX2_byteAt rfl rfl (rcK hR hl0) hR hF h (fun _ e => p_X2_byteAt hl0 e hR) rfl (Nat.le_of_ble_eq_true rfl) ⟨by decide, by decide⟩ ⟨Nat.le_refl _, Nat.le_refl _⟩ (fun S M1 v2 h hR hF => ?_)
      refine c_cs1 C [.int (l3), .int (v2)] [] dX2_isChecked_20 rfl ivX2_115 isX0_checkStep hR hF h (fun _ e => p_X0_checkStep  e hR) rfl (Nat.le_of_ble_eq_true rfl) ⟨by decide, by decide⟩ ⟨Nat.le_refl _, Nat.le_refl _⟩ (fun S M3 v4 h hR hF => ?_)
      refine vi_istore_n C dX2_isChecked_23 rfl (by decide) ?_
      refine vi_iincv (v := 1) C dX2_isChecked_24 rfl rfl (by decide) (by decide) ?_
      refine vi_goto (t' := 5) C dX2_isChecked_27 (by decide) ?_
      exact vi_cut [(0, .ref (ad z x 2 (l0))), (1, .int (l1)), (2, .int (l2)), (3, .int (v4)), (4, .int ((l4 + (1))))] ⟨rfl, rfl, rfl, rfl, rfl, trivial⟩ (ih _ _ _ h _ hR hF)

set_option maxRecDepth 100000 in
set_option maxHeartbeats 4000000 in
theorem p_X2_isChecked {N : Nat} {M : vC} {R : (vC × Int32)} {a0 : Nat} {a1 : Int32} {a2 : Int32} (ha0 : a0 < N) (h : F_X2_isChecked N M a0 a1 a2 = some R) {E : vE} {S0 : vS} {z x d0 : Nat} (hR : RC S0 z x N d0 M) : vi_Met E yX2_isChecked cX2_isChecked 5 (some .boolean) 3 0 0 [.ref (ad z x 2 (a0)), .int (a1), .int (a2)] S0 (cz M) (D1 S0 z x N d0 R) := by
  refine vi_met (by decide) (Nat.le_of_ble_eq_true rfl) ?_
  intro X C
  have hF := cF.refl S0 z x N d0
  unfold F_X2_isChecked at h
  refine vi_iconst (v := -1) C dX2_isChecked_0 rfl (by decide) ?_
  refine vi_istore_n C dX2_isChecked_1 rfl (by decide) ?_
  refine vi_iconst (v := 0) C dX2_isChecked_2 rfl (by decide) ?_
  refine vi_istore C dX2_isChecked_3 rfl (by decide) ?_
  refine vi_cut [(0, .ref (ad z x 2 (a0))), (1, .int (a1)), (2, .int (a2)), (3, .int ((-1 : Int32))), (4, .int ((0 : Int32)))] ⟨rfl, rfl, rfl, rfl, rfl, trivial⟩ (w_X2_isChecked_5 ha0 C ?_ _ _ _ _ h _ hR hF)
  · intro M6 l7 h S hR hF
    refine vi_iload_n C dX2_isChecked_30 rfl rfl ?_
    refine vi_iconst (v := -1) C dX2_isChecked_31 rfl (by decide) ?_
    refine vi_ixor C dX2_isChecked_32 rfl ?_
    refine vi_aload_n C dX2_isChecked_33 rfl rfl ?_
    refine vi_iload_n C dX2_isChecked_34 rfl rfl ?_
    refine vi_iload_n C dX2_isChecked_35 rfl rfl ?_
    refine vi_iadd C dX2_isChecked_36 rfl ?_
    refine c_cv1 (kc := 2) (a := (ad z x 2 (a0))) C [.int ((a1 + a2))] [.int ((l7 ^^^ (-1 : Int32)))] dX2_isChecked_37 rfl ivX2_108 imX2_fourLowFirst rfl rfl (rcK hR ha0) hR hF h (fun _ e => p_X2_fourLowFirst ha0 e hR) rfl (Nat.le_of_ble_eq_true rfl) ⟨by decide, by decide⟩ ⟨Nat.le_refl _, Nat.le_refl _⟩ (fun S M8 v9 h hR hF => ?_)
    refine vi_icmp_ne (t' := 47) C dX2_isChecked_40 rfl (by decide) (fun c10 => ?_) (fun c10 => ?_)
    · replace h := iN c10 h
      refine vi_iconst (v := 0) C dX2_isChecked_47 rfl (by decide) ?_
      exact c_retz C dX2_isChecked_48 rfl hR hF ⟨Nat.zero_le _, Nat.zero_le _⟩ h
    · replace h := iT c10 h
      refine vi_iconst (v := 1) C dX2_isChecked_43 rfl (by decide) ?_
      refine vi_goto (t' := 48) C dX2_isChecked_44 (by decide) ?_
      exact c_retz C dX2_isChecked_48 rfl hR hF ⟨Nat.zero_le _, Nat.zero_le _⟩ h

def F_X2_generationIn (N : Nat) (M : vC) (a0 : Nat) (a1 : Int32) : Option (vC × Int32) := b2 (F_X2_byteAt N M (a0) ((a1 * (512 : Int32)))) fun M1 v2 => jn (fun (M14 : vC) (s0_54 : Int32) => b2 (F_X2_fourLowFirst N M14 (a0) (((a1 * (512 : Int32)) + (4 : Int32)))) fun M15 v16 => if s0_54 = 0 then (some (M15, (0 : Int32))) else (if v16 ≤ 0 then (some (M15, (0 : Int32))) else (b2 (F_X2_isChecked N M15 (a0) ((a1 * (512 : Int32))) ((8 : Int32))) fun M17 v18 => if v18 = 0 then (some (M17, (0 : Int32))) else (some (M17, v16))))) (fun k54_3 => if v2 = (74 : Int32) then (b2 (F_X2_byteAt N M1 (a0) (((a1 * (512 : Int32)) + (1 : Int32)))) fun M4 v5 => if v5 = (49 : Int32) then (b2 (F_X2_byteAt N M4 (a0) (((a1 * (512 : Int32)) + (2 : Int32)))) fun M6 v7 => if (1 : Int32) < v7 then ((k54_3 (M6) ((0 : Int32)))) else (b2 (F_X2_byteAt N M6 (a0) (((a1 * (512 : Int32)) + (3 : Int32)))) fun M8 v9 => if v9 = 0 then ((k54_3 (M8) ((1 : Int32)))) else ((k54_3 (M8) ((0 : Int32)))))) else ((k54_3 (M4) ((0 : Int32))))) else ((k54_3 (M1) ((0 : Int32)))))

set_option maxRecDepth 100000 in
set_option maxHeartbeats 4000000 in
theorem p_X2_generationIn {N : Nat} {M : vC} {R : (vC × Int32)} {a0 : Nat} {a1 : Int32} (ha0 : a0 < N) (h : F_X2_generationIn N M a0 a1 = some R) {E : vE} {S0 : vS} {z x d0 : Nat} (hR : RC S0 z x N d0 M) : vi_Met E yX2_generationIn cX2_generationIn 5 (some .int) 4 0 0 [.ref (ad z x 2 (a0)), .int (a1)] S0 (cz M) (D1 S0 z x N d0 R) := by
  refine vi_met (by decide) (Nat.le_of_ble_eq_true rfl) ?_
  intro X C
  have hF := cF.refl S0 z x N d0
  unfold F_X2_generationIn at h
  refine vi_iload_n C dX2_generationIn_0 rfl rfl ?_
  refine vi_sipush (v := 512) C dX2_generationIn_1 rfl (by decide) ?_
  refine vi_imul C dX2_generationIn_4 rfl ?_
  refine vi_istore_n C dX2_generationIn_5 rfl (by decide) ?_
  refine vi_aload_n C dX2_generationIn_6 rfl rfl ?_
  refine vi_iload_n C dX2_generationIn_7 rfl rfl ?_
  refine c_cv1 (kc := 2) (a := (ad z x 2 (a0))) C [.int ((a1 * (512 : Int32)))] [] dX2_generationIn_8 rfl ivX2_101 imX2_byteAt rfl rfl (rcK hR ha0) hR hF h (fun _ e => p_X2_byteAt ha0 e hR) rfl (Nat.le_of_ble_eq_true rfl) ⟨by decide, by decide⟩ ⟨Nat.le_refl _, Nat.le_refl _⟩ (fun S M1 v2 h hR hF => ?_)
  refine vi_bipush (v := 74) C dX2_generationIn_11 rfl (by decide) ?_
  refine r_jn h (fun k => ∀ (M14 : vC) (s0_54 : Int32), k M14 s0_54 = some R → ∀ S, RC S z x N d0 M14 → cF S0 S z x N d0 → vi_W E X 5 (vi_Z E X (D1 S0 z x N d0 R) 0 0) 54 [(0, .ref (ad z x 2 (a0))), (2, .int ((a1 * (512 : Int32))))] [.int (s0_54)] S (cz M14) 0 0) ?_ ?_
  · intro M14 s0_54 h S hR hF
    refine vi_istore_n C dX2_generationIn_54 rfl (by decide) ?_
    refine vi_aload_n C dX2_generationIn_55 rfl rfl ?_
    refine vi_iload_n C dX2_generationIn_56 rfl rfl ?_
    refine vi_iconst (v := 4) C dX2_generationIn_57 rfl (by decide) ?_
    refine vi_iadd C dX2_generationIn_58 rfl ?_
    refine c_cv1 (kc := 2) (a := (ad z x 2 (a0))) C [.int (((a1 * (512 : Int32)) + (4 : Int32)))] [] dX2_generationIn_59 rfl ivX2_108 imX2_fourLowFirst rfl rfl (rcK hR ha0) hR hF h (fun _ e => p_X2_fourLowFirst ha0 e hR) rfl (Nat.le_of_ble_eq_true rfl) ⟨by decide, by decide⟩ ⟨Nat.le_refl _, Nat.le_refl _⟩ (fun S M15 v16 h hR hF => ?_)
    refine vi_istore C dX2_generationIn_62 rfl (by decide) ?_
    refine vi_iload_n C dX2_generationIn_64 rfl rfl ?_
    refine vi_if_eq (t' := 88) C dX2_generationIn_65 rfl (by decide) (fun c21 => ?_) (fun c21 => ?_)
    · replace h := iT c21 h
      refine vi_iconst (v := 0) C dX2_generationIn_88 rfl (by decide) ?_
      exact c_ret1 C dX2_generationIn_89 rfl hR hF ⟨Nat.zero_le _, Nat.zero_le _⟩ h
    · replace h := iN c21 h
      refine vi_iload C dX2_generationIn_68 rfl rfl ?_
      refine vi_if_le (t' := 88) C dX2_generationIn_70 rfl (by decide) (fun c20 => ?_) (fun c20 => ?_)
      · replace h := iT c20 h
        refine vi_iconst (v := 0) C dX2_generationIn_88 rfl (by decide) ?_
        exact c_ret1 C dX2_generationIn_89 rfl hR hF ⟨Nat.zero_le _, Nat.zero_le _⟩ h
      · replace h := iN c20 h
        refine vi_aload_n C dX2_generationIn_73 rfl rfl ?_
        refine vi_iload_n C dX2_generationIn_74 rfl rfl ?_
        refine vi_bipush (v := 8) C dX2_generationIn_75 rfl (by decide) ?_
        refine c_cv1 (kc := 2) (a := (ad z x 2 (a0))) C [.int ((a1 * (512 : Int32))), .int ((8 : Int32))] [] dX2_generationIn_77 rfl ivX2_111 imX2_isChecked rfl rfl (rcK hR ha0) hR hF h (fun _ e => p_X2_isChecked ha0 e hR) rfl (Nat.le_of_ble_eq_true rfl) ⟨by decide, by decide⟩ ⟨Nat.le_refl _, Nat.le_refl _⟩ (fun S M17 v18 h hR hF => ?_)
        refine vi_if_eq (t' := 88) C dX2_generationIn_80 rfl (by decide) (fun c19 => ?_) (fun c19 => ?_)
        · replace h := iT c19 h
          refine vi_iconst (v := 0) C dX2_generationIn_88 rfl (by decide) ?_
          exact c_ret1 C dX2_generationIn_89 rfl hR hF ⟨Nat.zero_le _, Nat.zero_le _⟩ h
        · replace h := iN c19 h
          refine vi_iload C dX2_generationIn_83 rfl rfl ?_
          refine vi_goto (t' := 89) C dX2_generationIn_85 (by decide) ?_
          exact c_ret1 C dX2_generationIn_89 rfl hR hF ⟨Nat.zero_le _, Nat.zero_le _⟩ h
  · intro k54_3 h54_3 h
    refine vi_icmp_ne (t' := 53) C dX2_generationIn_13 rfl (by decide) (fun c13 => ?_) (fun c13 => ?_)
    · replace h := iN c13 h
      refine vi_iconst (v := 0) C dX2_generationIn_53 rfl (by decide) ?_
      exact (vi_cut [(0, .ref (ad z x 2 (a0))), (2, .int ((a1 * (512 : Int32))))] ⟨rfl, rfl, trivial⟩ (h54_3 _ _ h _ hR hF))
    · replace h := iT c13 h
      refine vi_aload_n C dX2_generationIn_16 rfl rfl ?_
      refine vi_iload_n C dX2_generationIn_17 rfl rfl ?_
      refine vi_iconst (v := 1) C dX2_generationIn_18 rfl (by decide) ?_
      refine vi_iadd C dX2_generationIn_19 rfl ?_
      refine c_cv1 (kc := 2) (a := (ad z x 2 (a0))) C [.int (((a1 * (512 : Int32)) + (1 : Int32)))] [] dX2_generationIn_20 rfl ivX2_101 imX2_byteAt rfl rfl (rcK hR ha0) hR hF h (fun _ e => p_X2_byteAt ha0 e hR) rfl (Nat.le_of_ble_eq_true rfl) ⟨by decide, by decide⟩ ⟨Nat.le_refl _, Nat.le_refl _⟩ (fun S M4 v5 h hR hF => ?_)
      refine vi_bipush (v := 49) C dX2_generationIn_23 rfl (by decide) ?_
      refine vi_icmp_ne (t' := 53) C dX2_generationIn_25 rfl (by decide) (fun c12 => ?_) (fun c12 => ?_)
      · replace h := iN c12 h
        refine vi_iconst (v := 0) C dX2_generationIn_53 rfl (by decide) ?_
        exact (vi_cut [(0, .ref (ad z x 2 (a0))), (2, .int ((a1 * (512 : Int32))))] ⟨rfl, rfl, trivial⟩ (h54_3 _ _ h _ hR hF))
      · replace h := iT c12 h
        refine vi_aload_n C dX2_generationIn_28 rfl rfl ?_
        refine vi_iload_n C dX2_generationIn_29 rfl rfl ?_
        refine vi_iconst (v := 2) C dX2_generationIn_30 rfl (by decide) ?_
        refine vi_iadd C dX2_generationIn_31 rfl ?_
        refine c_cv1 (kc := 2) (a := (ad z x 2 (a0))) C [.int (((a1 * (512 : Int32)) + (2 : Int32)))] [] dX2_generationIn_32 rfl ivX2_101 imX2_byteAt rfl rfl (rcK hR ha0) hR hF h (fun _ e => p_X2_byteAt ha0 e hR) rfl (Nat.le_of_ble_eq_true rfl) ⟨by decide, by decide⟩ ⟨Nat.le_refl _, Nat.le_refl _⟩ (fun S M6 v7 h hR hF => ?_)
        refine vi_iconst (v := 1) C dX2_generationIn_35 rfl (by decide) ?_
        refine vi_icmp_gt (t' := 53) C dX2_generationIn_36 rfl (by decide) (fun c11 => ?_) (fun c11 => ?_)
        · replace h := iT c11 h
          refine vi_iconst (v := 0) C dX2_generationIn_53 rfl (by decide) ?_
          exact (vi_cut [(0, .ref (ad z x 2 (a0))), (2, .int ((a1 * (512 : Int32))))] ⟨rfl, rfl, trivial⟩ (h54_3 _ _ h _ hR hF))
        · replace h := iN c11 h
          refine vi_aload_n C dX2_generationIn_39 rfl rfl ?_
          refine vi_iload_n C dX2_generationIn_40 rfl rfl ?_
          refine vi_iconst (v := 3) C dX2_generationIn_41 rfl (by decide) ?_
          refine vi_iadd C dX2_generationIn_42 rfl ?_
          refine c_cv1 (kc := 2) (a := (ad z x 2 (a0))) C [.int (((a1 * (512 : Int32)) + (3 : Int32)))] [] dX2_generationIn_43 rfl ivX2_101 imX2_byteAt rfl rfl (rcK hR ha0) hR hF h (fun _ e => p_X2_byteAt ha0 e hR) rfl (Nat.le_of_ble_eq_true rfl) ⟨by decide, by decide⟩ ⟨Nat.le_refl _, Nat.le_refl _⟩ (fun S M8 v9 h hR hF => ?_)
          refine vi_if_ne (t' := 53) C dX2_generationIn_46 rfl (by decide) (fun c10 => ?_) (fun c10 => ?_)
          · replace h := iN c10 h
            refine vi_iconst (v := 0) C dX2_generationIn_53 rfl (by decide) ?_
            exact (vi_cut [(0, .ref (ad z x 2 (a0))), (2, .int ((a1 * (512 : Int32))))] ⟨rfl, rfl, trivial⟩ (h54_3 _ _ h _ hR hF))
          · replace h := iT c10 h
            refine vi_iconst (v := 1) C dX2_generationIn_49 rfl (by decide) ?_
            refine vi_goto (t' := 54) C dX2_generationIn_50 (by decide) ?_
            exact (vi_cut [(0, .ref (ad z x 2 (a0))), (2, .int ((a1 * (512 : Int32))))] ⟨rfl, rfl, trivial⟩ (h54_3 _ _ h _ hR hF))

def F_X2_open (N : Nat) (M : vC) (a0 : Nat) : Option vC := b2 (F_X2_generationIn N M (a0) ((0 : Int32))) fun M1 v2 => b2 (F_X2_generationIn N M1 (a0) ((1 : Int32))) fun M3 v4 => jn (fun (s0_22 : Int32) => lt1 (uI M3 208 (a0) ((mxI (v2) (v4)))) fun M7 => b2 (F_X2_byteAt N M7 (a0) (((s0_22 * (512 : Int32)) + (2 : Int32)))) fun M8 v9 => lt1 (uI M8 209 (a0) ((v9 &&& (1 : Int32)))) fun M10 => lt1 (uI M10 206 (a0) ((0 : Int32))) fun M11 => lt1 (uI M11 207 (a0) ((0 : Int32))) fun M12 => some M12) (fun k22_5 => if v2 ≤ v4 then ((k22_5 ((1 : Int32)))) else ((k22_5 ((0 : Int32)))))

set_option maxRecDepth 100000 in
set_option maxHeartbeats 4000000 in
theorem p_X2_open {N : Nat} {M : vC} {R : vC} {a0 : Nat} (ha0 : a0 < N) (h : F_X2_open N M a0 = some R) {E : vE} {S0 : vS} {z x d0 : Nat} (hR : RC S0 z x N d0 M) : vi_Met E yX2_open cX2_open 4 none 5 0 0 [.ref (ad z x 2 (a0))] S0 (cz M) (D0 S0 z x N d0 R) := by
  refine vi_met (by decide) (Nat.le_of_ble_eq_true rfl) ?_
  intro X C
  have hF := cF.refl S0 z x N d0
  unfold F_X2_open at h
  refine vi_aload_n C dX2_open_0 rfl rfl ?_
  refine vi_iconst (v := 0) C dX2_open_1 rfl (by decide) ?_
  refine c_cv1 (kc := 2) (a := (ad z x 2 (a0))) C [.int ((0 : Int32))] [] dX2_open_2 rfl ivX2_105 imX2_generationIn rfl rfl (rcK hR ha0) hR hF h (fun _ e => p_X2_generationIn ha0 e hR) rfl (Nat.le_of_ble_eq_true rfl) ⟨by decide, by decide⟩ ⟨Nat.le_refl _, Nat.le_refl _⟩ (fun S M1 v2 h hR hF => ?_)
  refine vi_istore_n C dX2_open_5 rfl (by decide) ?_
  refine vi_aload_n C dX2_open_6 rfl rfl ?_
  refine vi_iconst (v := 1) C dX2_open_7 rfl (by decide) ?_
  refine c_cv1 (kc := 2) (a := (ad z x 2 (a0))) C [.int ((1 : Int32))] [] dX2_open_8 rfl ivX2_105 imX2_generationIn rfl rfl (rcK hR ha0) hR hF h (fun _ e => p_X2_generationIn ha0 e hR) rfl (Nat.le_of_ble_eq_true rfl) ⟨by decide, by decide⟩ ⟨Nat.le_refl _, Nat.le_refl _⟩ (fun S M3 v4 h hR hF => ?_)
  refine vi_istore_n C dX2_open_11 rfl (by decide) ?_
  refine vi_iload_n C dX2_open_12 rfl rfl ?_
  refine vi_iload_n C dX2_open_13 rfl rfl ?_
  refine r_jn h (fun k => ∀ (s0_22 : Int32), k s0_22 = some R → ∀ S, RC S z x N d0 M3 → cF S0 S z x N d0 → vi_W E X 4 (vi_Z E X (D0 S0 z x N d0 R) 0 0) 22 [(0, .ref (ad z x 2 (a0))), (1, .int (v2)), (2, .int (v4))] [.int (s0_22)] S (cz M3) 0 0) ?_ ?_
  · intro s0_22 h S hR hF
    refine vi_istore_n C dX2_open_22 rfl (by decide) ?_
    refine vi_aload_n C dX2_open_23 rfl rfl ?_
    refine vi_iload_n C dX2_open_24 rfl rfl ?_
    refine vi_iload_n C dX2_open_25 rfl rfl ?_
    refine vi_mmax C dX2_open_26 rfl ivX2_85 mlX2_85 (by decide) (Nat.le_of_ble_eq_true rfl) (Nat.zero_le _) (Nat.zero_le _) ?_
    refine c_puti (f := 208) (k := 2) (i := a0) C dX2_open_29 rfl (fpX2_19 _) rfl (by decide) rfl hR hF ha0 h (fun S M7 h hR hF => ?_)
    refine vi_aload_n C dX2_open_32 rfl rfl ?_
    refine vi_aload_n C dX2_open_33 rfl rfl ?_
    refine vi_iload_n C dX2_open_34 rfl rfl ?_
    refine vi_sipush (v := 512) C dX2_open_35 rfl (by decide) ?_
    refine vi_imul C dX2_open_38 rfl ?_
    refine vi_iconst (v := 2) C dX2_open_39 rfl (by decide) ?_
    refine vi_iadd C dX2_open_40 rfl ?_
    refine c_cv1 (kc := 2) (a := (ad z x 2 (a0))) C [.int (((s0_22 * (512 : Int32)) + (2 : Int32)))] [.ref (ad z x 2 (a0))] dX2_open_41 rfl ivX2_101 imX2_byteAt rfl rfl (rcK hR ha0) hR hF h (fun _ e => p_X2_byteAt ha0 e hR) rfl (Nat.le_of_ble_eq_true rfl) ⟨by decide, by decide⟩ ⟨Nat.le_refl _, Nat.le_refl _⟩ (fun S M8 v9 h hR hF => ?_)
    refine vi_iconst (v := 1) C dX2_open_44 rfl (by decide) ?_
    refine vi_iand C dX2_open_45 rfl ?_
    refine c_puti (f := 209) (k := 2) (i := a0) C dX2_open_46 rfl (fpX2_39 _) rfl (by decide) rfl hR hF ha0 h (fun S M10 h hR hF => ?_)
    refine vi_aload_n C dX2_open_49 rfl rfl ?_
    refine vi_iconst (v := 0) C dX2_open_50 rfl (by decide) ?_
    refine c_puti (f := 206) (k := 2) (i := a0) C dX2_open_51 rfl (fpX2_33 _) rfl (by decide) rfl hR hF ha0 h (fun S M11 h hR hF => ?_)
    refine vi_aload_n C dX2_open_54 rfl rfl ?_
    refine vi_iconst (v := 0) C dX2_open_55 rfl (by decide) ?_
    refine c_puti (f := 207) (k := 2) (i := a0) C dX2_open_56 rfl (fpX2_36 _) rfl (by decide) rfl hR hF ha0 h (fun S M12 h hR hF => ?_)
    exact c_ret0 C dX2_open_59 rfl hR hF ⟨Nat.zero_le _, Nat.zero_le _⟩ h
  · intro k22_5 h22_5 h
    refine vi_icmp_le (t' := 21) C dX2_open_14 rfl (by decide) (fun c6 => ?_) (fun c6 => ?_)
    · replace h := iT c6 h
      refine vi_iconst (v := 1) C dX2_open_21 rfl (by decide) ?_
      exact (vi_cut [(0, .ref (ad z x 2 (a0))), (1, .int (v2)), (2, .int (v4))] ⟨rfl, rfl, rfl, trivial⟩ (h22_5 _ h _ hR hF))
    · replace h := iN c6 h
      refine vi_iconst (v := 0) C dX2_open_17 rfl (by decide) ?_
      refine vi_goto (t' := 22) C dX2_open_18 (by decide) ?_
      exact (vi_cut [(0, .ref (ad z x 2 (a0))), (1, .int (v2)), (2, .int (v4))] ⟨rfl, rfl, rfl, trivial⟩ (h22_5 _ h _ hR hF))

def L_X2_readNext_82 {ρ : Type} (N : Nat) (l0 : Nat) (l1 : Nat) (l3 : Int32) (l4 : Int32) (l5 : Int32) (kx109 : vC → Option ρ) : Nat → vC → Int32 → Option ρ
  | 0, _, _ => none
  | f + 1, M, l6 => if l4 ≤ l6 then (kx109 M ) else (b2 (F_X2_byteAt N M (l0) (((l3 + (2 : Int32)) + l6))) fun M8 v9 => (F_X0_put N M8 (l1) (v9)).bind fun M10 => L_X2_readNext_82 N l0 l1 l3 l4 l5 kx109 f M10 ((l6 + (1))))

def F_X2_readNext (N : Nat) (M : vC) (a0 : Nat) (a1 : Nat) : Option (vC × Int32) := if (2 : Int32) ≤ ((15872 : Int32) - (cI M 207 (a0))) then (b2 (F_X2_startOf N M ((cI M 209 (a0)))) fun M1 v2 => b2 (F_X2_twoLowFirst N M1 (a0) ((v2 + (cI M1 207 (a0))))) fun M3 v4 => if v4 < (1 : Int32) then (zb ((0 : Int32)) (some (M3, (0 : Int32)))) else (if ((15872 : Int32) - (cI M 207 (a0))) < ((((2 : Int32) + v4) + (4 : Int32)) + (v4 &&& (1 : Int32))) then (zb ((0 : Int32)) (some (M3, (0 : Int32)))) else (b2 (F_X2_isChecked N M3 (a0) ((v2 + (cI M1 207 (a0)))) (((2 : Int32) + v4))) fun M5 v6 => if v6 = 0 then (zb ((0 : Int32)) (some (M5, (0 : Int32)))) else ((F_X0_clear N M5 (a1)).bind fun M7 => L_X2_readNext_82 N (a0) (a1) ((v2 + (cI M1 207 (a0)))) (v4) (((((2 : Int32) + v4) + (4 : Int32)) + (v4 &&& (1 : Int32)))) (fun (M12 : vC)  => lt1 (uI M12 207 (a0) (((cI M12 207 (a0)) + ((((2 : Int32) + v4) + (4 : Int32)) + (v4 &&& (1 : Int32)))))) fun M13 => lt1 (uI M13 206 (a0) (((cI M13 206 (a0)) + (1 : Int32)))) fun M14 => zb ((1 : Int32)) (some (M14, (1 : Int32)))) fu M7 ((0 : Int32)))))) else (zb ((0 : Int32)) (some (M, (0 : Int32))))

set_option maxRecDepth 100000 in
set_option maxHeartbeats 4000000 in
theorem w_X2_readNext_82 {E : vE} {X : vX} {S0 : vS} {z x N d0 : Nat} {ρ : Type} {R : ρ} {Z : State → Prop} {l0 : Nat} {l1 : Nat} {l3 : Int32} {l4 : Int32} {l5 : Int32} {kx109 : vC → Option ρ} (hl0 : l0 < N) (hl1 : l1 < 3) (C : vi_C E X yX2_readNext cX2_readNext 7 (some .boolean) 4 0 0 (45 * 4)) (hx109 : ∀ (M : vC) , kx109 M  = some R → ∀ S, RC S z x N d0 M → cF S0 S z x N d0 → vi_W E X 7 Z 109 [(0, .ref (ad z x 2 (l0))), (5, .int (l5))] [] S (cz M) 0 0) : ∀ (f : Nat) (M : vC) (l6 : Int32), L_X2_readNext_82 N l0 l1 l3 l4 l5 kx109 f M l6 = some R → ∀ S, RC S z x N d0 M → cF S0 S z x N d0 → vi_W E X 7 Z 82 [(0, .ref (ad z x 2 (l0))), (1, .ref (ad z x 0 (l1))), (3, .int (l3)), (4, .int (l4)), (5, .int (l5)), (6, .int (l6))] [] S (cz M) 0 0 := by
  intro f
  induction f with
  | zero => intro M l6 h; cases h
  | succ f ih =>
    intro M l6 h S hR hF
    rw [L_X2_readNext_82] at h
    refine vi_iload C dX2_readNext_82 rfl rfl ?_
    refine vi_iload C dX2_readNext_84 rfl rfl ?_
    refine vi_icmp_ge (t' := 109) C dX2_readNext_86 rfl (by decide) (fun c11 => ?_) (fun c11 => ?_)
    · replace h := iT c11 h
      exact (vi_cut [(0, .ref (ad z x 2 (l0))), (5, .int (l5))] ⟨rfl, rfl, trivial⟩ (hx109 _  h _ hR hF))
    · replace h := iN c11 h
      refine vi_aload_n C dX2_readNext_89 rfl rfl ?_
      refine vi_aload_n C dX2_readNext_90 rfl rfl ?_
      refine vi_iload_n C dX2_readNext_91 rfl rfl ?_
      refine vi_iconst (v := 2) C dX2_readNext_92 rfl (by decide) ?_
      refine vi_iadd C dX2_readNext_93 rfl ?_
      refine vi_iload C dX2_readNext_94 rfl rfl ?_
      refine vi_iadd C dX2_readNext_96 rfl ?_
      refine c_cv1 (kc := 2) (a := (ad z x 2 (l0))) C [.int (((l3 + (2 : Int32)) + l6))] [.ref (ad z x 0 (l1))] dX2_readNext_97 rfl ivX2_101 imX2_byteAt rfl rfl (rcK hR hl0) hR hF h (fun _ e => p_X2_byteAt hl0 e hR) rfl (Nat.le_of_ble_eq_true rfl) ⟨by decide, by decide⟩ ⟨Nat.le_refl _, Nat.le_refl _⟩ (fun S M8 v9 h hR hF => ?_)
      refine c_cv0 (kc := 0) (a := (ad z x 0 (l1))) C [.int (v9)] [] dX2_readNext_100 rfl ivX2_56 imX0_put rfl rfl (rcK hR hl1) hR hF h (fun _ e => p_X0_put hl1 e hR) rfl (Nat.le_of_ble_eq_true rfl) ⟨by decide, by decide⟩ ⟨Nat.le_refl _, Nat.le_refl _⟩ (fun S M10 h hR hF => ?_)
      refine vi_iincv (v := 1) C dX2_readNext_103 rfl rfl (by decide) (by decide) ?_
      refine vi_goto (t' := 82) C dX2_readNext_106 (by decide) ?_
      exact vi_cut [(0, .ref (ad z x 2 (l0))), (1, .ref (ad z x 0 (l1))), (3, .int (l3)), (4, .int (l4)), (5, .int (l5)), (6, .int ((l6 + (1))))] ⟨rfl, rfl, rfl, rfl, rfl, rfl, trivial⟩ (ih _ _ h _ hR hF)

set_option maxRecDepth 100000 in
set_option maxHeartbeats 4000000 in
theorem p_X2_readNext {N : Nat} {M : vC} {R : (vC × Int32)} {a0 : Nat} {a1 : Nat} (ha0 : a0 < N) (ha1 : a1 < 3) (h : F_X2_readNext N M a0 a1 = some R) {E : vE} {S0 : vS} {z x d0 : Nat} (hR : RC S0 z x N d0 M) : vi_Met E yX2_readNext cX2_readNext 7 (some .boolean) 4 0 0 [.ref (ad z x 2 (a0)), .ref (ad z x 0 (a1))] S0 (cz M) (D1 S0 z x N d0 R) := by
  refine vi_met (by decide) (Nat.le_of_ble_eq_true rfl) ?_
  intro X C
  have hF := cF.refl S0 z x N d0
  unfold F_X2_readNext at h
  refine vi_sipush (v := 15872) C dX2_readNext_0 rfl (by decide) ?_
  refine vi_aload_n C dX2_readNext_3 rfl rfl ?_
  refine c_geti (f := 207) (k := 2) (i := a0) C dX2_readNext_4 rfl fX2_36 rfl (by decide) rfl hR ha0 ?_
  refine vi_isub C dX2_readNext_7 rfl ?_
  refine vi_istore_n C dX2_readNext_8 rfl (by decide) ?_
  refine vi_iload_n C dX2_readNext_9 rfl rfl ?_
  refine vi_iconst (v := 2) C dX2_readNext_10 rfl (by decide) ?_
  refine vi_icmp_ge (t' := 16) C dX2_readNext_11 rfl (by decide) (fun c18 => ?_) (fun c18 => ?_)
  · replace h := iT c18 h
    refine vi_aload_n C dX2_readNext_16 rfl rfl ?_
    refine c_geti (f := 209) (k := 2) (i := a0) C dX2_readNext_17 rfl fX2_39 rfl (by decide) rfl hR ha0 ?_
    refine c_cs1 C [.int ((cI M 209 (a0)))] [] dX2_readNext_20 rfl ivX2_74 isX2_startOf hR hF h (fun _ e => p_X2_startOf  e hR) rfl (Nat.le_of_ble_eq_true rfl) ⟨by decide, by decide⟩ ⟨Nat.le_refl _, Nat.le_refl _⟩ (fun S M1 v2 h hR hF => ?_)
    refine vi_aload_n C dX2_readNext_23 rfl rfl ?_
    refine c_geti (f := 207) (k := 2) (i := a0) C dX2_readNext_24 rfl fX2_36 rfl (by decide) rfl hR ha0 ?_
    refine vi_iadd C dX2_readNext_27 rfl ?_
    refine vi_istore_n C dX2_readNext_28 rfl (by decide) ?_
    refine vi_aload_n C dX2_readNext_29 rfl rfl ?_
    refine vi_iload_n C dX2_readNext_30 rfl rfl ?_
    refine c_cv1 (kc := 2) (a := (ad z x 2 (a0))) C [.int ((v2 + (cI M1 207 (a0))))] [] dX2_readNext_31 rfl ivX2_102 imX2_twoLowFirst rfl rfl (rcK hR ha0) hR hF h (fun _ e => p_X2_twoLowFirst ha0 e hR) rfl (Nat.le_of_ble_eq_true rfl) ⟨by decide, by decide⟩ ⟨Nat.le_refl _, Nat.le_refl _⟩ (fun S M3 v4 h hR hF => ?_)
    refine vi_istore C dX2_readNext_34 rfl (by decide) ?_
    refine vi_iconst (v := 2) C dX2_readNext_36 rfl (by decide) ?_
    refine vi_iload C dX2_readNext_37 rfl rfl ?_
    refine vi_iadd C dX2_readNext_39 rfl ?_
    refine vi_iconst (v := 4) C dX2_readNext_40 rfl (by decide) ?_
    refine vi_iadd C dX2_readNext_41 rfl ?_
    refine vi_iload C dX2_readNext_42 rfl rfl ?_
    refine vi_iconst (v := 1) C dX2_readNext_44 rfl (by decide) ?_
    refine vi_iand C dX2_readNext_45 rfl ?_
    refine vi_iadd C dX2_readNext_46 rfl ?_
    refine vi_istore C dX2_readNext_47 rfl (by decide) ?_
    refine vi_iload C dX2_readNext_49 rfl rfl ?_
    refine vi_iconst (v := 1) C dX2_readNext_51 rfl (by decide) ?_
    refine vi_icmp_lt (t' := 73) C dX2_readNext_52 rfl (by decide) (fun c17 => ?_) (fun c17 => ?_)
    · replace h := iT c17 h
      refine vi_iconst (v := 0) C dX2_readNext_73 rfl (by decide) ?_
      exact c_retz C dX2_readNext_74 rfl hR hF ⟨Nat.zero_le _, Nat.zero_le _⟩ h
    · replace h := iN c17 h
      refine vi_iload C dX2_readNext_55 rfl rfl ?_
      refine vi_iload_n C dX2_readNext_57 rfl rfl ?_
      refine vi_icmp_gt (t' := 73) C dX2_readNext_58 rfl (by decide) (fun c16 => ?_) (fun c16 => ?_)
      · replace h := iT c16 h
        refine vi_iconst (v := 0) C dX2_readNext_73 rfl (by decide) ?_
        exact c_retz C dX2_readNext_74 rfl hR hF ⟨Nat.zero_le _, Nat.zero_le _⟩ h
      · replace h := iN c16 h
        refine vi_aload_n C dX2_readNext_61 rfl rfl ?_
        refine vi_iload_n C dX2_readNext_62 rfl rfl ?_
        refine vi_iconst (v := 2) C dX2_readNext_63 rfl (by decide) ?_
        refine vi_iload C dX2_readNext_64 rfl rfl ?_
        refine vi_iadd C dX2_readNext_66 rfl ?_
        refine c_cv1 (kc := 2) (a := (ad z x 2 (a0))) C [.int ((v2 + (cI M1 207 (a0)))), .int (((2 : Int32) + v4))] [] dX2_readNext_67 rfl ivX2_111 imX2_isChecked rfl rfl (rcK hR ha0) hR hF h (fun _ e => p_X2_isChecked ha0 e hR) rfl (Nat.le_of_ble_eq_true rfl) ⟨by decide, by decide⟩ ⟨Nat.le_refl _, Nat.le_refl _⟩ (fun S M5 v6 h hR hF => ?_)
        refine vi_if_ne (t' := 75) C dX2_readNext_70 rfl (by decide) (fun c15 => ?_) (fun c15 => ?_)
        · replace h := iN c15 h
          refine vi_aload_n C dX2_readNext_75 rfl rfl ?_
          refine c_cv0 (kc := 0) (a := (ad z x 0 (a1))) C [] [] dX2_readNext_76 rfl ivX2_45 imX0_clear rfl rfl (rcK hR ha1) hR hF h (fun _ e => p_X0_clear ha1 e hR) rfl (Nat.le_of_ble_eq_true rfl) ⟨by decide, by decide⟩ ⟨Nat.le_refl _, Nat.le_refl _⟩ (fun S M7 h hR hF => ?_)
          refine vi_iconst (v := 0) C dX2_readNext_79 rfl (by decide) ?_
          refine vi_istore C dX2_readNext_80 rfl (by decide) ?_
          refine vi_cut [(0, .ref (ad z x 2 (a0))), (1, .ref (ad z x 0 (a1))), (3, .int ((v2 + (cI M1 207 (a0))))), (4, .int (v4)), (5, .int (((((2 : Int32) + v4) + (4 : Int32)) + (v4 &&& (1 : Int32))))), (6, .int ((0 : Int32)))] ⟨rfl, rfl, rfl, rfl, rfl, rfl, trivial⟩ (w_X2_readNext_82 ha0 ha1 C ?_ _ _ _ h _ hR hF)
          · intro M12 h S hR hF
            refine vi_aload_n C dX2_readNext_109 rfl rfl ?_
            refine vi_dup C dX2_readNext_110 rfl rfl ?_
            refine c_geti (f := 207) (k := 2) (i := a0) C dX2_readNext_111 rfl fX2_36 rfl (by decide) rfl hR ha0 ?_
            refine vi_iload C dX2_readNext_114 rfl rfl ?_
            refine vi_iadd C dX2_readNext_116 rfl ?_
            refine c_puti (f := 207) (k := 2) (i := a0) C dX2_readNext_117 rfl (fpX2_36 _) rfl (by decide) rfl hR hF ha0 h (fun S M13 h hR hF => ?_)
            refine vi_aload_n C dX2_readNext_120 rfl rfl ?_
            refine vi_dup C dX2_readNext_121 rfl rfl ?_
            refine c_geti (f := 206) (k := 2) (i := a0) C dX2_readNext_122 rfl fX2_33 rfl (by decide) rfl hR ha0 ?_
            refine vi_iconst (v := 1) C dX2_readNext_125 rfl (by decide) ?_
            refine vi_iadd C dX2_readNext_126 rfl ?_
            refine c_puti (f := 206) (k := 2) (i := a0) C dX2_readNext_127 rfl (fpX2_33 _) rfl (by decide) rfl hR hF ha0 h (fun S M14 h hR hF => ?_)
            refine vi_iconst (v := 1) C dX2_readNext_130 rfl (by decide) ?_
            exact c_retz C dX2_readNext_131 rfl hR hF ⟨Nat.zero_le _, Nat.zero_le _⟩ h
        · replace h := iT c15 h
          refine vi_iconst (v := 0) C dX2_readNext_73 rfl (by decide) ?_
          exact c_retz C dX2_readNext_74 rfl hR hF ⟨Nat.zero_le _, Nat.zero_le _⟩ h
  · replace h := iN c18 h
    refine vi_iconst (v := 0) C dX2_readNext_14 rfl (by decide) ?_
    exact c_retz C dX2_readNext_15 rfl hR hF ⟨Nat.zero_le _, Nat.zero_le _⟩ h

def F_X3_look (N : Nat) (M : vC) (a1 : Int32) : Option (vC × Option Nat) := if a1 < 0 then (some (M, none)) else (if (cI M 303 (0)) ≤ a1 then (some (M, none)) else ((cGQ M 300 0 (a1)).bind fun v1 => some (M, (v1))))

set_option maxRecDepth 100000 in
set_option maxHeartbeats 4000000 in
theorem p_X3_look {N : Nat} {M : vC} {R : (vC × Option Nat)} {a1 : Int32}  (h : F_X3_look N M a1 = some R) {E : vE} {S0 : vS} {z x d0 : Nat} (hR : RC S0 z x N d0 M) : vi_Met E yX3_look cX3_look 2 (some (.object "SnapCluster$Frame")) 0 0 0 [.ref (ad z x 3 (0)), .int (a1)] S0 (cz M) (D3 1 S0 z x N d0 R) := by
  refine vi_met (by decide) (Nat.le_of_ble_eq_true rfl) ?_
  intro X C
  have hF := cF.refl S0 z x N d0
  unfold F_X3_look at h
  refine vi_iload_n C dX3_look_0 rfl rfl ?_
  refine vi_if_lt (t' := 21) C dX3_look_1 rfl (by decide) (fun c3 => ?_) (fun c3 => ?_)
  · replace h := iT c3 h
    refine vi_null C dX3_look_21 rfl ?_
    exact c_ret3 (k := 1) (v := none) C dX3_look_22 rfl (Or.inl ⟨_, rfl⟩) hR hF ⟨Nat.zero_le _, Nat.zero_le _⟩ h
  · replace h := iN c3 h
    refine vi_iload_n C dX3_look_4 rfl rfl ?_
    refine vi_aload_n C dX3_look_5 rfl rfl ?_
    refine c_geti (f := 303) (k := 3) (i := 0) C dX3_look_6 rfl fX3_25 rfl (by decide) rfl hR (rfl : 0 = 0) ?_
    refine vi_icmp_ge (t' := 21) C dX3_look_9 rfl (by decide) (fun c2 => ?_) (fun c2 => ?_)
    · replace h := iT c2 h
      refine vi_null C dX3_look_21 rfl ?_
      exact c_ret3 (k := 1) (v := none) C dX3_look_22 rfl (Or.inl ⟨_, rfl⟩) hR hF ⟨Nat.zero_le _, Nat.zero_le _⟩ h
    · replace h := iN c2 h
      refine vi_aload_n C dX3_look_12 rfl rfl ?_
      refine c_gets (f := 300) (k := 3) (i := 0) C dX3_look_13 rfl fX3_11 rfl (by decide) rfl hR (rfl : 0 = 0) rfl ?_
      refine vi_iload_n C dX3_look_16 rfl rfl ?_
      refine c_aaloadF C dX3_look_17 rfl hR h (fun v1 h => ?_)
      refine vi_goto (t' := 22) C dX3_look_18 (by decide) ?_
      exact c_ret3 (k := 1) (v := (v1)) C dX3_look_22 rfl (Or.inl ⟨_, rfl⟩) hR hF ⟨Nat.zero_le _, Nat.zero_le _⟩ h

def L_X3_take_14 {ρ : Type} (N : Nat) (l2 : Nat) (kx44 : vC → Option ρ) : Nat → vC → Int32 → Option ρ
  | 0, _, _ => none
  | f + 1, M, l3 => if (cI M 303 (0)) ≤ (l3 + (1 : Int32)) then (kx44 M ) else ((cGQ M 300 0 ((l3 + (1 : Int32)))).bind fun v5 => (cSF M (l3) (v5)).bind fun M6 => L_X3_take_14 N l2 kx44 f M6 ((l3 + (1))))

def F_X3_take (N : Nat) (M : vC) (a1 : Int32) : Option (vC × Option Nat) := b2 (F_X3_look N M (a1)) fun M1 v2 => oc (v2) (some (M1, none)) (fun o3 => gd (o3 < 202) <| L_X3_take_14 N (o3) (fun (M8 : vC)  => lt1 (uI M8 303 (0) (((cI M8 303 (0)) - (1 : Int32)))) fun M9 => lt1 (cP M9 301 0) fun v10 => (cSF M9 ((cI M9 303 (0))) (v10)).bind fun M11 => lt1 (uP M11 301 0 (some (o3))) fun M12 => some (M12, (some (o3)))) fu M1 (a1))

set_option maxRecDepth 100000 in
set_option maxHeartbeats 4000000 in
theorem w_X3_take_14 {E : vE} {X : vX} {S0 : vS} {z x N d0 : Nat} {ρ : Type} {R : ρ} {Z : State → Prop} {l2 : Nat} {kx44 : vC → Option ρ} (hl2 : l2 < 202) (C : vi_C E X yX3_take cX3_take 4 (some (.object "SnapCluster$Frame")) 1 0 0 (45 * 1)) (hx44 : ∀ (M : vC) , kx44 M  = some R → ∀ S, RC S z x N d0 M → cF S0 S z x N d0 → vi_W E X 4 Z 44 [(0, .ref (ad z x 3 (0))), (2, .ref (ad z x 1 (l2)))] [] S (cz M) 0 0) : ∀ (f : Nat) (M : vC) (l3 : Int32), L_X3_take_14 N l2 kx44 f M l3 = some R → ∀ S, RC S z x N d0 M → cF S0 S z x N d0 → vi_W E X 4 Z 14 [(0, .ref (ad z x 3 (0))), (2, .ref (ad z x 1 (l2))), (3, .int (l3))] [] S (cz M) 0 0 := by
  intro f
  induction f with
  | zero => intro M l3 h; cases h
  | succ f ih =>
    intro M l3 h S hR hF
    rw [L_X3_take_14] at h
    refine vi_iload_n C dX3_take_14 rfl rfl ?_
    refine vi_iconst (v := 1) C dX3_take_15 rfl (by decide) ?_
    refine vi_iadd C dX3_take_16 rfl ?_
    refine vi_aload_n C dX3_take_17 rfl rfl ?_
    refine c_geti (f := 303) (k := 3) (i := 0) C dX3_take_18 rfl fX3_25 rfl (by decide) rfl hR (rfl : 0 = 0) ?_
    refine vi_icmp_ge (t' := 44) C dX3_take_21 rfl (by decide) (fun c7 => ?_) (fun c7 => ?_)
    · replace h := iT c7 h
      exact (vi_cut [(0, .ref (ad z x 3 (0))), (2, .ref (ad z x 1 (l2)))] ⟨rfl, rfl, trivial⟩ (hx44 _  h _ hR hF))
    · replace h := iN c7 h
      refine vi_aload_n C dX3_take_24 rfl rfl ?_
      refine c_gets (f := 300) (k := 3) (i := 0) C dX3_take_25 rfl fX3_11 rfl (by decide) rfl hR (rfl : 0 = 0) rfl ?_
      refine vi_iload_n C dX3_take_28 rfl rfl ?_
      refine vi_aload_n C dX3_take_29 rfl rfl ?_
      refine c_gets (f := 300) (k := 3) (i := 0) C dX3_take_30 rfl fX3_11 rfl (by decide) rfl hR (rfl : 0 = 0) rfl ?_
      refine vi_iload_n C dX3_take_33 rfl rfl ?_
      refine vi_iconst (v := 1) C dX3_take_34 rfl (by decide) ?_
      refine vi_iadd C dX3_take_35 rfl ?_
      refine c_aaloadF C dX3_take_36 rfl hR h (fun v5 h => ?_)
      refine c_aastoreF (v := (v5)) C dX3_take_37 rfl hR hF h (fun S M6 h hR hF => ?_)
      refine vi_iincv (v := 1) C dX3_take_38 rfl rfl (by decide) (by decide) ?_
      refine vi_goto (t' := 14) C dX3_take_41 (by decide) ?_
      exact vi_cut [(0, .ref (ad z x 3 (0))), (2, .ref (ad z x 1 (l2))), (3, .int ((l3 + (1))))] ⟨rfl, rfl, rfl, trivial⟩ (ih _ _ h _ hR hF)

set_option maxRecDepth 100000 in
set_option maxHeartbeats 4000000 in
theorem p_X3_take {N : Nat} {M : vC} {R : (vC × Option Nat)} {a1 : Int32}  (h : F_X3_take N M a1 = some R) {E : vE} {S0 : vS} {z x d0 : Nat} (hR : RC S0 z x N d0 M) : vi_Met E yX3_take cX3_take 4 (some (.object "SnapCluster$Frame")) 1 0 0 [.ref (ad z x 3 (0)), .int (a1)] S0 (cz M) (D3 1 S0 z x N d0 R) := by
  refine vi_met (by decide) (Nat.le_of_ble_eq_true rfl) ?_
  intro X C
  have hF := cF.refl S0 z x N d0
  unfold F_X3_take at h
  refine vi_aload_n C dX3_take_0 rfl rfl ?_
  refine vi_iload_n C dX3_take_1 rfl rfl ?_
  refine c_cv3 (kc := 3) (a := (ad z x 3 (0))) (kt := 1) C [.int (a1)] [] dX3_take_2 rfl ivX3_29 imX3_look rfl rfl (rcK hR (rfl : 0 = 0)) hR hF h (fun _ e => p_X3_look  e hR) rfl (Nat.le_of_ble_eq_true rfl) ⟨by decide, by decide⟩ ⟨Nat.le_refl _, Nat.le_refl _⟩ (fun S M1 v2 h hR hF => ?_)
  refine vi_astore_nq (o := ((v2).map (ad z x 1))) C dX3_take_5 rfl (by decide) ?_
  refine vi_aload_nq (o := ((v2).map (ad z x 1))) C dX3_take_6 rfl rfl ?_
  rcases oco h with ⟨rfl, hh⟩ | ⟨o3, rfl, hh⟩
  · replace h := hh
    clear hh
    refine vi_ifnonnull (o := none) (t' := 12) C dX3_take_7 rfl (by decide) (fun e => absurd rfl e) (fun _ => ?_)
    refine vi_null C dX3_take_10 rfl ?_
    exact c_ret3 (k := 1) (v := none) C dX3_take_11 rfl (Or.inl ⟨_, rfl⟩) hR hF ⟨Nat.zero_le _, Nat.zero_le _⟩ h
  · replace h := hh
    clear hh
    refine vi_ifnonnull (o := (some (ad z x 1 (o3)))) (t' := 12) C dX3_take_7 rfl (by decide) (fun _ => ?_) (fun e => by cases e)
    obtain ⟨c4, h⟩ := gdo h
    refine vi_iload_n C dX3_take_12 rfl rfl ?_
    refine vi_istore_n C dX3_take_13 rfl (by decide) ?_
    refine vi_cut [(0, .ref (ad z x 3 (0))), (2, .ref (ad z x 1 (o3))), (3, .int (a1))] ⟨rfl, rfl, rfl, trivial⟩ (w_X3_take_14 c4 C ?_ _ _ _ h _ hR hF)
    · intro M8 h S hR hF
      refine vi_aload_n C dX3_take_44 rfl rfl ?_
      refine vi_dup C dX3_take_45 rfl rfl ?_
      refine c_geti (f := 303) (k := 3) (i := 0) C dX3_take_46 rfl fX3_25 rfl (by decide) rfl hR (rfl : 0 = 0) ?_
      refine vi_iconst (v := 1) C dX3_take_49 rfl (by decide) ?_
      refine vi_isub C dX3_take_50 rfl ?_
      refine c_puti (f := 303) (k := 3) (i := 0) C dX3_take_51 rfl (fpX3_25 _) rfl (by decide) rfl hR hF (rfl : 0 = 0) h (fun S M9 h hR hF => ?_)
      refine vi_aload_n C dX3_take_54 rfl rfl ?_
      refine c_gets (f := 300) (k := 3) (i := 0) C dX3_take_55 rfl fX3_11 rfl (by decide) rfl hR (rfl : 0 = 0) rfl ?_
      refine vi_aload_n C dX3_take_58 rfl rfl ?_
      refine c_geti (f := 303) (k := 3) (i := 0) C dX3_take_59 rfl fX3_25 rfl (by decide) rfl hR (rfl : 0 = 0) ?_
      refine vi_aload_n C dX3_take_62 rfl rfl ?_
      refine c_getpFL C dX3_take_63 rfl fX3_18 hR h (fun v10 h => ?_)
      refine c_aastoreF (v := (v10)) C dX3_take_66 rfl hR hF h (fun S M11 h hR hF => ?_)
      refine vi_aload_n C dX3_take_67 rfl rfl ?_
      refine vi_aload_n C dX3_take_68 rfl rfl ?_
      refine c_putpF (v := (some (o3))) C dX3_take_69 rfl (fpX3_18 _) hR hF h (fun S M12 h hR hF => ?_)
      refine vi_aload_n C dX3_take_72 rfl rfl ?_
      exact c_ret3 (k := 1) (v := (some (o3))) C dX3_take_73 rfl (Or.inl ⟨_, rfl⟩) hR hF ⟨Nat.zero_le _, Nat.zero_le _⟩ h

def F_X3_send (N : Nat) (M : vC)  : Option (vC × Option Nat) := lt1 (uI M 304 (0) (((cI M 304 (0)) + (1 : Int32)))) fun M1 => if (cI M1 303 (0)) < (200 : Int32) then (lt1 (uI M1 303 (0) (((cI M1 303 (0)) + (1 : Int32)))) fun M2 => (cGQ M2 300 0 (((cI M2 303 (0)) - (1 : Int32)))).bind fun v3 => some (M2, (v3))) else (lt1 (uI M1 305 (0) (((cI M1 305 (0)) + (1 : Int32)))) fun M4 => some (M4, (some (1))))

set_option maxRecDepth 100000 in
set_option maxHeartbeats 4000000 in
theorem p_X3_send {N : Nat} {M : vC} {R : (vC × Option Nat)}   (h : F_X3_send N M  = some R) {E : vE} {S0 : vS} {z x d0 : Nat} (hR : RC S0 z x N d0 M) : vi_Met E yX3_send cX3_send 1 (some (.object "SnapCluster$Frame")) 0 0 0 [.ref (ad z x 3 (0))] S0 (cz M) (D3 1 S0 z x N d0 R) := by
  refine vi_met (by decide) (Nat.le_of_ble_eq_true rfl) ?_
  intro X C
  have hF := cF.refl S0 z x N d0
  unfold F_X3_send at h
  refine vi_aload_n C dX3_send_0 rfl rfl ?_
  refine vi_dup C dX3_send_1 rfl rfl ?_
  refine c_geti (f := 304) (k := 3) (i := 0) C dX3_send_2 rfl fX3_33 rfl (by decide) rfl hR (rfl : 0 = 0) ?_
  refine vi_iconst (v := 1) C dX3_send_5 rfl (by decide) ?_
  refine vi_iadd C dX3_send_6 rfl ?_
  refine c_puti (f := 304) (k := 3) (i := 0) C dX3_send_7 rfl (fpX3_33 _) rfl (by decide) rfl hR hF (rfl : 0 = 0) h (fun S M1 h hR hF => ?_)
  refine vi_aload_n C dX3_send_10 rfl rfl ?_
  refine c_geti (f := 303) (k := 3) (i := 0) C dX3_send_11 rfl fX3_25 rfl (by decide) rfl hR (rfl : 0 = 0) ?_
  refine vi_sipush (v := 200) C dX3_send_14 rfl (by decide) ?_
  refine vi_icmp_lt (t' := 35) C dX3_send_17 rfl (by decide) (fun c5 => ?_) (fun c5 => ?_)
  · replace h := iT c5 h
    refine vi_aload_n C dX3_send_35 rfl rfl ?_
    refine vi_dup C dX3_send_36 rfl rfl ?_
    refine c_geti (f := 303) (k := 3) (i := 0) C dX3_send_37 rfl fX3_25 rfl (by decide) rfl hR (rfl : 0 = 0) ?_
    refine vi_iconst (v := 1) C dX3_send_40 rfl (by decide) ?_
    refine vi_iadd C dX3_send_41 rfl ?_
    refine c_puti (f := 303) (k := 3) (i := 0) C dX3_send_42 rfl (fpX3_25 _) rfl (by decide) rfl hR hF (rfl : 0 = 0) h (fun S M2 h hR hF => ?_)
    refine vi_aload_n C dX3_send_45 rfl rfl ?_
    refine c_gets (f := 300) (k := 3) (i := 0) C dX3_send_46 rfl fX3_11 rfl (by decide) rfl hR (rfl : 0 = 0) rfl ?_
    refine vi_aload_n C dX3_send_49 rfl rfl ?_
    refine c_geti (f := 303) (k := 3) (i := 0) C dX3_send_50 rfl fX3_25 rfl (by decide) rfl hR (rfl : 0 = 0) ?_
    refine vi_iconst (v := 1) C dX3_send_53 rfl (by decide) ?_
    refine vi_isub C dX3_send_54 rfl ?_
    refine c_aaloadF C dX3_send_55 rfl hR h (fun v3 h => ?_)
    exact c_ret3 (k := 1) (v := (v3)) C dX3_send_56 rfl (Or.inl ⟨_, rfl⟩) hR hF ⟨Nat.zero_le _, Nat.zero_le _⟩ h
  · replace h := iN c5 h
    refine vi_aload_n C dX3_send_20 rfl rfl ?_
    refine vi_dup C dX3_send_21 rfl rfl ?_
    refine c_geti (f := 305) (k := 3) (i := 0) C dX3_send_22 rfl fX3_36 rfl (by decide) rfl hR (rfl : 0 = 0) ?_
    refine vi_iconst (v := 1) C dX3_send_25 rfl (by decide) ?_
    refine vi_iadd C dX3_send_26 rfl ?_
    refine c_puti (f := 305) (k := 3) (i := 0) C dX3_send_27 rfl (fpX3_36 _) rfl (by decide) rfl hR hF (rfl : 0 = 0) h (fun S M4 h hR hF => ?_)
    refine vi_aload_n C dX3_send_30 rfl rfl ?_
    refine c_gets (f := 302) (k := 3) (i := 0) C dX3_send_31 rfl fX3_22 rfl (by decide) rfl hR (rfl : 0 = 0) rfl ?_
    exact c_ret3 (k := 1) (v := (some (1))) C dX3_send_34 rfl (Or.inl ⟨_, rfl⟩) hR hF ⟨Nat.zero_le _, Nat.zero_le _⟩ h

def F_X3_repeat (N : Nat) (M : vC) (a1 : Nat) : Option vC := if (200 : Int32) ≤ (cI M 303 (0)) then (some M) else ((cGQ M 300 0 ((cI M 303 (0)))).bind fun v1 => (v1).bind fun o2 => gd (o2 < 202) <| (F_X1_copy N M (o2) (a1)).bind fun M4 => lt1 (uI M4 303 (0) (((cI M4 303 (0)) + (1 : Int32)))) fun M5 => some M5)

set_option maxRecDepth 100000 in
set_option maxHeartbeats 4000000 in
theorem p_X3_repeat {N : Nat} {M : vC} {R : vC} {a1 : Nat} (ha1 : a1 < 202) (h : F_X3_repeat N M a1 = some R) {E : vE} {S0 : vS} {z x d0 : Nat} (hR : RC S0 z x N d0 M) : vi_Met E yX3_repeat cX3_repeat 2 none 2 0 0 [.ref (ad z x 3 (0)), .ref (ad z x 1 (a1))] S0 (cz M) (D0 S0 z x N d0 R) := by
  refine vi_met (by decide) (Nat.le_of_ble_eq_true rfl) ?_
  intro X C
  have hF := cF.refl S0 z x N d0
  unfold F_X3_repeat at h
  refine vi_aload_n C dX3_repeat_0 rfl rfl ?_
  refine c_geti (f := 303) (k := 3) (i := 0) C dX3_repeat_1 rfl fX3_25 rfl (by decide) rfl hR (rfl : 0 = 0) ?_
  refine vi_sipush (v := 200) C dX3_repeat_4 rfl (by decide) ?_
  refine vi_icmp_ge (t' := 33) C dX3_repeat_7 rfl (by decide) (fun c6 => ?_) (fun c6 => ?_)
  · replace h := iT c6 h
    exact c_ret0 C dX3_repeat_33 rfl hR hF ⟨Nat.zero_le _, Nat.zero_le _⟩ h
  · replace h := iN c6 h
    refine vi_aload_n C dX3_repeat_10 rfl rfl ?_
    refine c_gets (f := 300) (k := 3) (i := 0) C dX3_repeat_11 rfl fX3_11 rfl (by decide) rfl hR (rfl : 0 = 0) rfl ?_
    refine vi_aload_n C dX3_repeat_14 rfl rfl ?_
    refine c_geti (f := 303) (k := 3) (i := 0) C dX3_repeat_15 rfl fX3_25 rfl (by decide) rfl hR (rfl : 0 = 0) ?_
    refine c_aaloadF C dX3_repeat_18 rfl hR h (fun v1 h => ?_)
    refine vi_aload_n C dX3_repeat_19 rfl rfl ?_
    obtain ⟨o2, rfl, hh⟩ := bdo h
    replace h := hh
    clear hh
    obtain ⟨c3, h⟩ := gdo h
    refine c_cv0 (kc := 1) (a := (ad z x 1 (o2))) C [.ref (ad z x 1 (a1))] [] dX3_repeat_20 rfl ivX3_39 imX1_copy rfl rfl (rcK hR c3) hR hF h (fun _ e => p_X1_copy c3 ha1 e hR) rfl (Nat.le_of_ble_eq_true rfl) ⟨by decide, by decide⟩ ⟨Nat.le_refl _, Nat.le_refl _⟩ (fun S M4 h hR hF => ?_)
    refine vi_aload_n C dX3_repeat_23 rfl rfl ?_
    refine vi_dup C dX3_repeat_24 rfl rfl ?_
    refine c_geti (f := 303) (k := 3) (i := 0) C dX3_repeat_25 rfl fX3_25 rfl (by decide) rfl hR (rfl : 0 = 0) ?_
    refine vi_iconst (v := 1) C dX3_repeat_28 rfl (by decide) ?_
    refine vi_iadd C dX3_repeat_29 rfl ?_
    refine c_puti (f := 303) (k := 3) (i := 0) C dX3_repeat_30 rfl (fpX3_25 _) rfl (by decide) rfl hR hF (rfl : 0 = 0) h (fun S M5 h hR hF => ?_)
    exact c_ret0 C dX3_repeat_33 rfl hR hF ⟨Nat.zero_le _, Nat.zero_le _⟩ h

def F_X4_dropProposed (N : Nat) (M : vC) (a0 : Nat) : Option vC := lt1 (uP M 403 (a0) none) fun M1 => lt1 (uI M1 402 (a0) ((0 : Int32))) fun M2 => some M2

set_option maxRecDepth 100000 in
set_option maxHeartbeats 4000000 in
theorem p_X4_dropProposed {N : Nat} {M : vC} {R : vC} {a0 : Nat} (ha0 : a0 < N) (h : F_X4_dropProposed N M a0 = some R) {E : vE} {S0 : vS} {z x d0 : Nat} (hR : RC S0 z x N d0 M) : vi_Met E yX4_dropProposed cX4_dropProposed 1 none 0 0 0 [.ref (ad z x 4 (a0))] S0 (cz M) (D0 S0 z x N d0 R) := by
  refine vi_met (by decide) (Nat.le_of_ble_eq_true rfl) ?_
  intro X C
  have hF := cF.refl S0 z x N d0
  unfold F_X4_dropProposed at h
  refine vi_aload_n C dX4_dropProposed_0 rfl rfl ?_
  refine vi_null C dX4_dropProposed_1 rfl ?_
  refine c_putp (f := 403) (k := 4) (i := a0) (v := none) C dX4_dropProposed_2 rfl (fpX4_34 _) rfl (by decide) rfl hR hF ha0 rfl h (fun S M1 h hR hF => ?_)
  refine vi_aload_n C dX4_dropProposed_5 rfl rfl ?_
  refine vi_iconst (v := 0) C dX4_dropProposed_6 rfl (by decide) ?_
  refine c_puti (f := 402) (k := 4) (i := a0) C dX4_dropProposed_7 rfl (fpX4_31 _) rfl (by decide) rfl hR hF ha0 h (fun S M2 h hR hF => ?_)
  exact c_ret0 C dX4_dropProposed_10 rfl hR hF ⟨Nat.zero_le _, Nat.zero_le _⟩ h

def F_X4_follow (N : Nat) (M : vC) (a0 : Nat) : Option vC := lt1 (uI M 400 (a0) ((0 : Int32))) fun M1 => lt1 (uI M1 401 (a0) ((0 : Int32))) fun M2 => (F_X4_dropProposed N M2 (a0)).bind fun M3 => lt1 (uP M3 404 (a0) none) fun M4 => lt1 (uI M4 405 (a0) ((0 : Int32))) fun M5 => some M5

set_option maxRecDepth 100000 in
set_option maxHeartbeats 4000000 in
theorem p_X4_follow {N : Nat} {M : vC} {R : vC} {a0 : Nat} (ha0 : a0 < N) (h : F_X4_follow N M a0 = some R) {E : vE} {S0 : vS} {z x d0 : Nat} (hR : RC S0 z x N d0 M) : vi_Met E yX4_follow cX4_follow 1 none 1 0 0 [.ref (ad z x 4 (a0))] S0 (cz M) (D0 S0 z x N d0 R) := by
  refine vi_met (by decide) (Nat.le_of_ble_eq_true rfl) ?_
  intro X C
  have hF := cF.refl S0 z x N d0
  unfold F_X4_follow at h
  refine vi_aload_n C dX4_follow_0 rfl rfl ?_
  refine vi_iconst (v := 0) C dX4_follow_1 rfl (by decide) ?_
  refine c_puti (f := 400) (k := 4) (i := a0) C dX4_follow_2 rfl (fpX4_9 _) rfl (by decide) rfl hR hF ha0 h (fun S M1 h hR hF => ?_)
  refine vi_aload_n C dX4_follow_5 rfl rfl ?_
  refine vi_iconst (v := 0) C dX4_follow_6 rfl (by decide) ?_
  refine c_puti (f := 401) (k := 4) (i := a0) C dX4_follow_7 rfl (fpX4_15 _) rfl (by decide) rfl hR hF ha0 h (fun S M2 h hR hF => ?_)
  refine vi_aload_n C dX4_follow_10 rfl rfl ?_
  refine c_cv0 (kc := 4) (a := (ad z x 4 (a0))) C [] [] dX4_follow_11 rfl ivX4_18 imX4_dropProposed rfl rfl (rcK hR ha0) hR hF h (fun _ e => p_X4_dropProposed ha0 e hR) rfl (Nat.le_of_ble_eq_true rfl) ⟨by decide, by decide⟩ ⟨Nat.le_refl _, Nat.le_refl _⟩ (fun S M3 h hR hF => ?_)
  refine vi_aload_n C dX4_follow_14 rfl rfl ?_
  refine vi_null C dX4_follow_15 rfl ?_
  refine c_putp (f := 404) (k := 4) (i := a0) (v := none) C dX4_follow_16 rfl (fpX4_21 _) rfl (by decide) rfl hR hF ha0 rfl h (fun S M4 h hR hF => ?_)
  refine vi_aload_n C dX4_follow_19 rfl rfl ?_
  refine vi_iconst (v := 0) C dX4_follow_20 rfl (by decide) ?_
  refine c_puti (f := 405) (k := 4) (i := a0) C dX4_follow_21 rfl (fpX4_25 _) rfl (by decide) rfl hR hF ha0 h (fun S M5 h hR hF => ?_)
  exact c_ret0 C dX4_follow_24 rfl hR hF ⟨Nat.zero_le _, Nat.zero_le _⟩ h

def F_X4_followAbove (N : Nat) (M : vC) (a0 : Nat) (a1 : Int32) : Option vC := if a1 ≤ (cI M 401 (a0)) then (some M) else ((F_X4_follow N M (a0)).bind fun M1 => some M1)

set_option maxRecDepth 100000 in
set_option maxHeartbeats 4000000 in
theorem p_X4_followAbove {N : Nat} {M : vC} {R : vC} {a0 : Nat} {a1 : Int32} (ha0 : a0 < N) (h : F_X4_followAbove N M a0 a1 = some R) {E : vE} {S0 : vS} {z x d0 : Nat} (hR : RC S0 z x N d0 M) : vi_Met E yX4_followAbove cX4_followAbove 2 none 2 0 0 [.ref (ad z x 4 (a0)), .int (a1)] S0 (cz M) (D0 S0 z x N d0 R) := by
  refine vi_met (by decide) (Nat.le_of_ble_eq_true rfl) ?_
  intro X C
  have hF := cF.refl S0 z x N d0
  unfold F_X4_followAbove at h
  refine vi_aload_n C dX4_followAbove_0 rfl rfl ?_
  refine c_geti (f := 401) (k := 4) (i := a0) C dX4_followAbove_1 rfl fX4_15 rfl (by decide) rfl hR ha0 ?_
  refine vi_iload_n C dX4_followAbove_4 rfl rfl ?_
  refine vi_icmp_ge (t' := 12) C dX4_followAbove_5 rfl (by decide) (fun c2 => ?_) (fun c2 => ?_)
  · replace h := iT c2 h
    exact c_ret0 C dX4_followAbove_12 rfl hR hF ⟨Nat.zero_le _, Nat.zero_le _⟩ h
  · replace h := iN c2 h
    refine vi_aload_n C dX4_followAbove_8 rfl rfl ?_
    refine c_cv0 (kc := 4) (a := (ad z x 4 (a0))) C [] [] dX4_followAbove_9 rfl ivX4_28 imX4_follow rfl rfl (rcK hR ha0) hR hF h (fun _ e => p_X4_follow ha0 e hR) rfl (Nat.le_of_ble_eq_true rfl) ⟨by decide, by decide⟩ ⟨Nat.le_refl _, Nat.le_refl _⟩ (fun S M1 h hR hF => ?_)
    exact c_ret0 C dX4_followAbove_12 rfl hR hF ⟨Nat.zero_le _, Nat.zero_le _⟩ h

def F_X4_stand (N : Nat) (M : vC) (a0 : Nat) (a1 : Int32) (a2 : Int32) : Option vC := (F_X4_follow N M (a0)).bind fun M1 => lt1 (uI M1 400 (a0) ((1 : Int32))) fun M2 => lt1 (uI M2 401 (a0) (a1)) fun M3 => lt1 (uI M3 402 (a0) (((1 : Int32) <<< (a2 &&& 31)))) fun M4 => some M4

set_option maxRecDepth 100000 in
set_option maxHeartbeats 4000000 in
theorem p_X4_stand {N : Nat} {M : vC} {R : vC} {a0 : Nat} {a1 : Int32} {a2 : Int32} (ha0 : a0 < N) (h : F_X4_stand N M a0 a1 a2 = some R) {E : vE} {S0 : vS} {z x d0 : Nat} (hR : RC S0 z x N d0 M) : vi_Met E yX4_stand cX4_stand 3 none 2 0 0 [.ref (ad z x 4 (a0)), .int (a1), .int (a2)] S0 (cz M) (D0 S0 z x N d0 R) := by
  refine vi_met (by decide) (Nat.le_of_ble_eq_true rfl) ?_
  intro X C
  have hF := cF.refl S0 z x N d0
  unfold F_X4_stand at h
  refine vi_aload_n C dX4_stand_0 rfl rfl ?_
  refine c_cv0 (kc := 4) (a := (ad z x 4 (a0))) C [] [] dX4_stand_1 rfl ivX4_28 imX4_follow rfl rfl (rcK hR ha0) hR hF h (fun _ e => p_X4_follow ha0 e hR) rfl (Nat.le_of_ble_eq_true rfl) ⟨by decide, by decide⟩ ⟨Nat.le_refl _, Nat.le_refl _⟩ (fun S M1 h hR hF => ?_)
  refine vi_aload_n C dX4_stand_4 rfl rfl ?_
  refine vi_iconst (v := 1) C dX4_stand_5 rfl (by decide) ?_
  refine c_puti (f := 400) (k := 4) (i := a0) C dX4_stand_6 rfl (fpX4_9 _) rfl (by decide) rfl hR hF ha0 h (fun S M2 h hR hF => ?_)
  refine vi_aload_n C dX4_stand_9 rfl rfl ?_
  refine vi_iload_n C dX4_stand_10 rfl rfl ?_
  refine c_puti (f := 401) (k := 4) (i := a0) C dX4_stand_11 rfl (fpX4_15 _) rfl (by decide) rfl hR hF ha0 h (fun S M3 h hR hF => ?_)
  refine vi_aload_n C dX4_stand_14 rfl rfl ?_
  refine vi_iconst (v := 1) C dX4_stand_15 rfl (by decide) ?_
  refine vi_iload_n C dX4_stand_16 rfl rfl ?_
  refine vi_ishl C dX4_stand_17 rfl ?_
  refine c_puti (f := 402) (k := 4) (i := a0) C dX4_stand_18 rfl (fpX4_31 _) rfl (by decide) rfl hR hF ha0 h (fun S M4 h hR hF => ?_)
  exact c_ret0 C dX4_stand_21 rfl hR hF ⟨Nat.zero_le _, Nat.zero_le _⟩ h

def F_X4_lead (N : Nat) (M : vC) (a0 : Nat) : Option vC := lt1 (uI M 400 (a0) ((2 : Int32))) fun M1 => lt1 (uI M1 402 (a0) ((0 : Int32))) fun M2 => some M2

set_option maxRecDepth 100000 in
set_option maxHeartbeats 4000000 in
theorem p_X4_lead {N : Nat} {M : vC} {R : vC} {a0 : Nat} (ha0 : a0 < N) (h : F_X4_lead N M a0 = some R) {E : vE} {S0 : vS} {z x d0 : Nat} (hR : RC S0 z x N d0 M) : vi_Met E yX4_lead cX4_lead 1 none 0 0 0 [.ref (ad z x 4 (a0))] S0 (cz M) (D0 S0 z x N d0 R) := by
  refine vi_met (by decide) (Nat.le_of_ble_eq_true rfl) ?_
  intro X C
  have hF := cF.refl S0 z x N d0
  unfold F_X4_lead at h
  refine vi_aload_n C dX4_lead_0 rfl rfl ?_
  refine vi_iconst (v := 2) C dX4_lead_1 rfl (by decide) ?_
  refine c_puti (f := 400) (k := 4) (i := a0) C dX4_lead_2 rfl (fpX4_9 _) rfl (by decide) rfl hR hF ha0 h (fun S M1 h hR hF => ?_)
  refine vi_aload_n C dX4_lead_5 rfl rfl ?_
  refine vi_iconst (v := 0) C dX4_lead_6 rfl (by decide) ?_
  refine c_puti (f := 402) (k := 4) (i := a0) C dX4_lead_7 rfl (fpX4_31 _) rfl (by decide) rfl hR hF ha0 h (fun S M2 h hR hF => ?_)
  exact c_ret0 C dX4_lead_10 rfl hR hF ⟨Nat.zero_le _, Nat.zero_le _⟩ h

def F_X4_propose (N : Nat) (M : vC) (a0 : Nat) (a1 : Option Nat) (a2 : Int32) : Option vC := lt1 (uP M 403 (a0) (a1)) fun M1 => lt1 (uI M1 402 (a0) (((1 : Int32) <<< (a2 &&& 31)))) fun M2 => some M2

set_option maxRecDepth 100000 in
set_option maxHeartbeats 4000000 in
theorem p_X4_propose {N : Nat} {M : vC} {R : vC} {a0 : Nat} {a1 : Option Nat} {a2 : Int32} (ha0 : a0 < N) (h : F_X4_propose N M a0 a1 a2 = some R) {E : vE} {S0 : vS} {z x d0 : Nat} (hR : RC S0 z x N d0 M) : vi_Met E yX4_propose cX4_propose 3 none 0 0 0 [.ref (ad z x 4 (a0)), va_rf (a1), .int (a2)] S0 (cz M) (D0 S0 z x N d0 R) := by
  refine vi_met (by decide) (by cases a1 <;> exact Nat.le_of_ble_eq_true rfl) ?_
  intro X C
  rw [show lv_args 0 [.ref (ad z x 4 (a0)), va_rf (a1), .int (a2)] = [(0, .ref (ad z x 4 (a0))), (1, va_rf (a1)), (2, .int (a2))] from by cases a1 <;> rfl]
  have hF := cF.refl S0 z x N d0
  unfold F_X4_propose at h
  refine vi_aload_n C dX4_propose_0 rfl rfl ?_
  refine vi_aload_nq (o := (a1)) C dX4_propose_1 rfl rfl ?_
  refine c_putp (f := 403) (k := 4) (i := a0) (v := (a1)) C dX4_propose_2 rfl (fpX4_34 _) rfl (by decide) rfl hR hF ha0 rfl h (fun S M1 h hR hF => ?_)
  refine vi_aload_n C dX4_propose_5 rfl rfl ?_
  refine vi_iconst (v := 1) C dX4_propose_6 rfl (by decide) ?_
  refine vi_iload_n C dX4_propose_7 rfl rfl ?_
  refine vi_ishl C dX4_propose_8 rfl ?_
  refine c_puti (f := 402) (k := 4) (i := a0) C dX4_propose_9 rfl (fpX4_31 _) rfl (by decide) rfl hR hF ha0 h (fun S M2 h hR hF => ?_)
  exact c_ret0 C dX4_propose_12 rfl hR hF ⟨Nat.zero_le _, Nat.zero_le _⟩ h

def F_X4_hear (N : Nat) (M : vC) (a0 : Nat) (a1 : Option Nat) (a2 : Int32) : Option vC := oc (a1) (some M) (fun o1 => lt1 (cP M 404 (a0)) fun v2 => jn (fun (u : Unit) => lt1 (uP M 404 (a0) (some (o1))) fun M6 => lt1 (uI M6 405 (a0) (a2)) fun M7 => some M7) (fun k19_3 => oc (v2) ((k19_3 (()))) (fun o4 => if a2 ≤ (cI M 405 (a0)) then (some M) else ((k19_3 (()))))))

set_option maxRecDepth 100000 in
set_option maxHeartbeats 4000000 in
theorem p_X4_hear {N : Nat} {M : vC} {R : vC} {a0 : Nat} {a1 : Option Nat} {a2 : Int32} (ha0 : a0 < N) (h : F_X4_hear N M a0 a1 a2 = some R) {E : vE} {S0 : vS} {z x d0 : Nat} (hR : RC S0 z x N d0 M) : vi_Met E yX4_hear cX4_hear 3 none 0 0 0 [.ref (ad z x 4 (a0)), va_rf (a1), .int (a2)] S0 (cz M) (D0 S0 z x N d0 R) := by
  refine vi_met (by decide) (by cases a1 <;> exact Nat.le_of_ble_eq_true rfl) ?_
  intro X C
  rw [show lv_args 0 [.ref (ad z x 4 (a0)), va_rf (a1), .int (a2)] = [(0, .ref (ad z x 4 (a0))), (1, va_rf (a1)), (2, .int (a2))] from by cases a1 <;> rfl]
  have hF := cF.refl S0 z x N d0
  unfold F_X4_hear at h
  refine vi_aload_nq (o := (a1)) C dX4_hear_0 rfl rfl ?_
  rcases oco h with ⟨rfl, hh⟩ | ⟨o1, rfl, hh⟩
  · replace h := hh
    clear hh
    refine vi_ifnull (o := none) (t' := 29) C dX4_hear_1 rfl (by decide) (fun _ => ?_) (fun e => absurd rfl e)
    exact c_ret0 C dX4_hear_29 rfl hR hF ⟨Nat.zero_le _, Nat.zero_le _⟩ h
  · replace h := hh
    clear hh
    refine vi_ifnull (o := (some (o1))) (t' := 29) C dX4_hear_1 rfl (by decide) (fun e => by cases e) (fun _ => ?_)
    refine vi_aload_n C dX4_hear_4 rfl rfl ?_
    refine c_getpL (f := 404) (k := 4) (i := a0) C dX4_hear_5 rfl fX4_21 rfl (by decide) rfl hR ha0 rfl h (fun v2 h => ?_)
    refine r_jn h (fun k => ∀ (u : Unit), k u = some R → ∀ S, RC S z x N d0 M → cF S0 S z x N d0 → vi_W E X 3 (vi_Z E X (D0 S0 z x N d0 R) 0 0) 19 [(0, .ref (ad z x 4 (a0))), (1, .ref (o1)), (2, .int (a2))] [] S (cz M) 0 0) ?_ ?_
    · intro u h S hR hF
      refine vi_aload_n C dX4_hear_19 rfl rfl ?_
      refine vi_aload_n C dX4_hear_20 rfl rfl ?_
      refine c_putp (f := 404) (k := 4) (i := a0) (v := (some (o1))) C dX4_hear_21 rfl (fpX4_21 _) rfl (by decide) rfl hR hF ha0 rfl h (fun S M6 h hR hF => ?_)
      refine vi_aload_n C dX4_hear_24 rfl rfl ?_
      refine vi_iload_n C dX4_hear_25 rfl rfl ?_
      refine c_puti (f := 405) (k := 4) (i := a0) C dX4_hear_26 rfl (fpX4_25 _) rfl (by decide) rfl hR hF ha0 h (fun S M7 h hR hF => ?_)
      exact c_ret0 C dX4_hear_29 rfl hR hF ⟨Nat.zero_le _, Nat.zero_le _⟩ h
    · intro k19_3 h19_3 h
      rcases oco h with ⟨rfl, hh⟩ | ⟨o4, rfl, hh⟩
      · replace h := hh
        clear hh
        refine vi_ifnull (o := none) (t' := 19) C dX4_hear_8 rfl (by decide) (fun _ => ?_) (fun e => absurd rfl e)
        exact (vi_cut [(0, .ref (ad z x 4 (a0))), (1, .ref (o1)), (2, .int (a2))] ⟨rfl, rfl, rfl, trivial⟩ (h19_3 _ h _ hR hF))
      · replace h := hh
        clear hh
        refine vi_ifnull (o := (some (o4))) (t' := 19) C dX4_hear_8 rfl (by decide) (fun e => by cases e) (fun _ => ?_)
        refine vi_iload_n C dX4_hear_11 rfl rfl ?_
        refine vi_aload_n C dX4_hear_12 rfl rfl ?_
        refine c_geti (f := 405) (k := 4) (i := a0) C dX4_hear_13 rfl fX4_25 rfl (by decide) rfl hR ha0 ?_
        refine vi_icmp_le (t' := 29) C dX4_hear_16 rfl (by decide) (fun c5 => ?_) (fun c5 => ?_)
        · replace h := iT c5 h
          exact c_ret0 C dX4_hear_29 rfl hR hF ⟨Nat.zero_le _, Nat.zero_le _⟩ h
        · replace h := iN c5 h
          exact (vi_cut [(0, .ref (ad z x 4 (a0))), (1, .ref (o1)), (2, .int (a2))] ⟨rfl, rfl, rfl, trivial⟩ (h19_3 _ h _ hR hF))

def F_X4_is (N : Nat) (M : vC) (a0 : Nat) (a1 : Int32) (a2 : Int32) : Option (vC × Int32) := if (cI M 400 (a0)) = a1 then (if (cI M 401 (a0)) = a2 then (zb ((1 : Int32)) (some (M, (1 : Int32)))) else (zb ((0 : Int32)) (some (M, (0 : Int32))))) else (zb ((0 : Int32)) (some (M, (0 : Int32))))

set_option maxRecDepth 100000 in
set_option maxHeartbeats 4000000 in
theorem p_X4_is {N : Nat} {M : vC} {R : (vC × Int32)} {a0 : Nat} {a1 : Int32} {a2 : Int32} (ha0 : a0 < N) (h : F_X4_is N M a0 a1 a2 = some R) {E : vE} {S0 : vS} {z x d0 : Nat} (hR : RC S0 z x N d0 M) : vi_Met E yX4_is cX4_is 3 (some .boolean) 0 0 0 [.ref (ad z x 4 (a0)), .int (a1), .int (a2)] S0 (cz M) (D1 S0 z x N d0 R) := by
  refine vi_met (by decide) (Nat.le_of_ble_eq_true rfl) ?_
  intro X C
  have hF := cF.refl S0 z x N d0
  unfold F_X4_is at h
  refine vi_aload_n C dX4_is_0 rfl rfl ?_
  refine c_geti (f := 400) (k := 4) (i := a0) C dX4_is_1 rfl fX4_9 rfl (by decide) rfl hR ha0 ?_
  refine vi_iload_n C dX4_is_4 rfl rfl ?_
  refine vi_icmp_ne (t' := 20) C dX4_is_5 rfl (by decide) (fun c2 => ?_) (fun c2 => ?_)
  · replace h := iN c2 h
    refine vi_iconst (v := 0) C dX4_is_20 rfl (by decide) ?_
    exact c_retz C dX4_is_21 rfl hR hF ⟨Nat.zero_le _, Nat.zero_le _⟩ h
  · replace h := iT c2 h
    refine vi_aload_n C dX4_is_8 rfl rfl ?_
    refine c_geti (f := 401) (k := 4) (i := a0) C dX4_is_9 rfl fX4_15 rfl (by decide) rfl hR ha0 ?_
    refine vi_iload_n C dX4_is_12 rfl rfl ?_
    refine vi_icmp_ne (t' := 20) C dX4_is_13 rfl (by decide) (fun c1 => ?_) (fun c1 => ?_)
    · replace h := iN c1 h
      refine vi_iconst (v := 0) C dX4_is_20 rfl (by decide) ?_
      exact c_retz C dX4_is_21 rfl hR hF ⟨Nat.zero_le _, Nat.zero_le _⟩ h
    · replace h := iT c1 h
      refine vi_iconst (v := 1) C dX4_is_16 rfl (by decide) ?_
      refine vi_goto (t' := 21) C dX4_is_17 (by decide) ?_
      exact c_retz C dX4_is_21 rfl hR hF ⟨Nat.zero_le _, Nat.zero_le _⟩ h

def F_X4_hasAnswer (N : Nat) (M : vC) (a0 : Nat) (a1 : Int32) : Option (vC × Int32) := b2 (F_X11_isIn N M (a1) ((cI M 402 (a0)))) fun M1 v2 => zb (v2) (some (M1, v2))

set_option maxRecDepth 100000 in
set_option maxHeartbeats 4000000 in
theorem p_X4_hasAnswer {N : Nat} {M : vC} {R : (vC × Int32)} {a0 : Nat} {a1 : Int32} (ha0 : a0 < N) (h : F_X4_hasAnswer N M a0 a1 = some R) {E : vE} {S0 : vS} {z x d0 : Nat} (hR : RC S0 z x N d0 M) : vi_Met E yX4_hasAnswer cX4_hasAnswer 2 (some .boolean) 1 0 0 [.ref (ad z x 4 (a0)), .int (a1)] S0 (cz M) (D1 S0 z x N d0 R) := by
  refine vi_met (by decide) (Nat.le_of_ble_eq_true rfl) ?_
  intro X C
  have hF := cF.refl S0 z x N d0
  unfold F_X4_hasAnswer at h
  refine vi_iload_n C dX4_hasAnswer_0 rfl rfl ?_
  refine vi_aload_n C dX4_hasAnswer_1 rfl rfl ?_
  refine c_geti (f := 402) (k := 4) (i := a0) C dX4_hasAnswer_2 rfl fX4_31 rfl (by decide) rfl hR ha0 ?_
  refine c_cs1 C [.int (a1), .int ((cI M 402 (a0)))] [] dX4_hasAnswer_5 rfl ivX4_37 isX11_isIn hR hF h (fun _ e => p_X11_isIn  e hR) rfl (Nat.le_of_ble_eq_true rfl) ⟨by decide, by decide⟩ ⟨Nat.le_refl _, Nat.le_refl _⟩ (fun S M1 v2 h hR hF => ?_)
  exact c_retz C dX4_hasAnswer_8 rfl hR hF ⟨Nat.zero_le _, Nat.zero_le _⟩ h

def F_X4_answer (N : Nat) (M : vC) (a0 : Nat) (a1 : Int32) (a2 : Int32) : Option (vC × Int32) := lt1 (uI M 402 (a0) (((cI M 402 (a0)) ||| ((1 : Int32) <<< (a1 &&& 31))))) fun M1 => b2 (F_J6_bitCount_0f7a4 N M1 ((cI M1 402 (a0)))) fun M2 v3 => if ((2 : Int32) * v3) ≤ a2 then (zb ((0 : Int32)) (some (M2, (0 : Int32)))) else (zb ((1 : Int32)) (some (M2, (1 : Int32))))

set_option maxRecDepth 100000 in
set_option maxHeartbeats 4000000 in
theorem p_X4_answer {N : Nat} {M : vC} {R : (vC × Int32)} {a0 : Nat} {a1 : Int32} {a2 : Int32} (ha0 : a0 < N) (h : F_X4_answer N M a0 a1 a2 = some R) {E : vE} {S0 : vS} {z x d0 : Nat} (hR : RC S0 z x N d0 M) : vi_Met E yX4_answer cX4_answer 3 (some .boolean) 1 0 0 [.ref (ad z x 4 (a0)), .int (a1), .int (a2)] S0 (cz M) (D1 S0 z x N d0 R) := by
  refine vi_met (by decide) (Nat.le_of_ble_eq_true rfl) ?_
  intro X C
  have hF := cF.refl S0 z x N d0
  unfold F_X4_answer at h
  refine vi_aload_n C dX4_answer_0 rfl rfl ?_
  refine vi_dup C dX4_answer_1 rfl rfl ?_
  refine c_geti (f := 402) (k := 4) (i := a0) C dX4_answer_2 rfl fX4_31 rfl (by decide) rfl hR ha0 ?_
  refine vi_iconst (v := 1) C dX4_answer_5 rfl (by decide) ?_
  refine vi_iload_n C dX4_answer_6 rfl rfl ?_
  refine vi_ishl C dX4_answer_7 rfl ?_
  refine vi_ior C dX4_answer_8 rfl ?_
  refine c_puti (f := 402) (k := 4) (i := a0) C dX4_answer_9 rfl (fpX4_31 _) rfl (by decide) rfl hR hF ha0 h (fun S M1 h hR hF => ?_)
  refine vi_iconst (v := 2) C dX4_answer_12 rfl (by decide) ?_
  refine vi_aload_n C dX4_answer_13 rfl rfl ?_
  refine c_geti (f := 402) (k := 4) (i := a0) C dX4_answer_14 rfl fX4_31 rfl (by decide) rfl hR ha0 ?_
  refine c_cs1 C [.int ((cI M1 402 (a0)))] [.int ((2 : Int32))] dX4_answer_17 rfl ivX4_41 isJ6_bitCount_0f7a4 hR hF h (fun _ e => p_J6_bitCount_0f7a4  e hR) rfl (Nat.le_of_ble_eq_true rfl) ⟨by decide, by decide⟩ ⟨Nat.le_refl _, Nat.le_refl _⟩ (fun S M2 v3 h hR hF => ?_)
  refine vi_imul C dX4_answer_20 rfl ?_
  refine vi_iload_n C dX4_answer_21 rfl rfl ?_
  refine vi_icmp_le (t' := 29) C dX4_answer_22 rfl (by decide) (fun c4 => ?_) (fun c4 => ?_)
  · replace h := iT c4 h
    refine vi_iconst (v := 0) C dX4_answer_29 rfl (by decide) ?_
    exact c_retz C dX4_answer_30 rfl hR hF ⟨Nat.zero_le _, Nat.zero_le _⟩ h
  · replace h := iN c4 h
    refine vi_iconst (v := 1) C dX4_answer_25 rfl (by decide) ?_
    refine vi_goto (t' := 30) C dX4_answer_26 (by decide) ?_
    exact c_retz C dX4_answer_30 rfl hR hF ⟨Nat.zero_le _, Nat.zero_le _⟩ h

def F_X5_drop (N : Nat) (M : vC) (a0 : Nat) : Option vC := lt1 (uI M 501 (a0) ((-1 : Int32))) fun M1 => lt1 (uI M1 502 (a0) ((0 : Int32))) fun M2 => lt1 (uI M2 503 (a0) ((0 : Int32))) fun M3 => some M3

set_option maxRecDepth 100000 in
set_option maxHeartbeats 4000000 in
theorem p_X5_drop {N : Nat} {M : vC} {R : vC} {a0 : Nat} (ha0 : a0 < N) (h : F_X5_drop N M a0 = some R) {E : vE} {S0 : vS} {z x d0 : Nat} (hR : RC S0 z x N d0 M) : vi_Met E yX5_drop cX5_drop 1 none 0 0 0 [.ref (ad z x 5 (a0))] S0 (cz M) (D0 S0 z x N d0 R) := by
  refine vi_met (by decide) (Nat.le_of_ble_eq_true rfl) ?_
  intro X C
  have hF := cF.refl S0 z x N d0
  unfold F_X5_drop at h
  refine vi_aload_n C dX5_drop_0 rfl rfl ?_
  refine vi_iconst (v := -1) C dX5_drop_1 rfl (by decide) ?_
  refine c_puti (f := 501) (k := 5) (i := a0) C dX5_drop_2 rfl (fpX5_15 _) rfl (by decide) rfl hR hF ha0 h (fun S M1 h hR hF => ?_)
  refine vi_aload_n C dX5_drop_5 rfl rfl ?_
  refine vi_iconst (v := 0) C dX5_drop_6 rfl (by decide) ?_
  refine c_puti (f := 502) (k := 5) (i := a0) C dX5_drop_7 rfl (fpX5_19 _) rfl (by decide) rfl hR hF ha0 h (fun S M2 h hR hF => ?_)
  refine vi_aload_n C dX5_drop_10 rfl rfl ?_
  refine vi_iconst (v := 0) C dX5_drop_11 rfl (by decide) ?_
  refine c_puti (f := 503) (k := 5) (i := a0) C dX5_drop_12 rfl (fpX5_22 _) rfl (by decide) rfl hR hF ha0 h (fun S M3 h hR hF => ?_)
  exact c_ret0 C dX5_drop_15 rfl hR hF ⟨Nat.zero_le _, Nat.zero_le _⟩ h

def L_X5_gather_60 {ρ : Type} (N : Nat) (l0 : Nat) (l1 : Nat) (l3 : Int32) (kx86 : vC → Option ρ) : Nat → vC → Int32 → Option ρ
  | 0, _, _ => none
  | f + 1, M, l4 => if l3 ≤ l4 then (kx86 M ) else (lt1 (cP M 107 (l1)) fun v15 => (v15).bind fun o16 => (dG M 20 (o16) (l4)).bind fun v17 => (cS M 500 (l0) (l4) ((v17).toInt8.toInt32)).bind fun M18 => L_X5_gather_60 N l0 l1 l3 kx86 f M18 ((l4 + (1))))

def F_X5_gather (N : Nat) (M : vC) (a0 : Nat) (a1 : Nat) : Option (vC × Int32) := lt1 (cP M 107 (a1)) fun v1 => oc (v1) (zb ((0 : Int32)) (some (M, (0 : Int32)))) (fun o2 => lt1 (cP M 107 (a1)) fun v3 => (v3).bind fun o4 => gd (cK M (o4) = 20) <| if (Int32.ofNat (cN M (o4))) ≤ (256 : Int32) then (jn (fun (M10 : vC) => b2 (F_X1_pieceStart N M10 (a1)) fun M11 v12 => b2 (F_X1_pieceEnd N M11 (a1)) fun M13 v14 => L_X5_gather_60 N (a0) (a1) (v14) (fun (M20 : vC)  => lt1 (uI M20 502 (a0) (((cI M20 502 (a0)) ||| ((1 : Int32) <<< ((cI M20 108 (a1)) &&& 31))))) fun M21 => lt1 (uI M21 503 (a0) ((mxI ((cI M21 503 (a0))) (v14)))) fun M22 => lt1 (cP M22 107 (a1)) fun v23 => b2 (F_X1_piecesOf N M22 (v23)) fun M24 v25 => if (cI M22 502 (a0)) = (((1 : Int32) <<< (v25 &&& 31)) - (1 : Int32)) then (zb ((1 : Int32)) (some (M24, (1 : Int32)))) else (zb ((0 : Int32)) (some (M24, (0 : Int32))))) fu M13 ((mxI ((0 : Int32)) (v12)))) (fun k43_6 => if (cI M 104 (a1)) ≤ (cI M 501 (a0)) then ((k43_6 (M))) else ((F_X5_drop N M (a0)).bind fun M7 => lt1 (uI M7 501 (a0) ((cI M7 104 (a1)))) fun M8 => (k43_6 (M8))))) else (zb ((0 : Int32)) (some (M, (0 : Int32)))))

set_option maxRecDepth 100000 in
set_option maxHeartbeats 4000000 in
theorem w_X5_gather_60 {E : vE} {X : vX} {S0 : vS} {z x N d0 : Nat} {ρ : Type} {R : ρ} {Z : State → Prop} {l0 : Nat} {l1 : Nat} {l3 : Int32} {kx86 : vC → Option ρ} (hl0 : l0 < N) (hl1 : l1 < 202) (C : vi_C E X yX5_gather cX5_gather 5 (some .boolean) 2 0 0 (45 * 2)) (hx86 : ∀ (M : vC) , kx86 M  = some R → ∀ S, RC S z x N d0 M → cF S0 S z x N d0 → vi_W E X 5 Z 86 [(0, .ref (ad z x 5 (l0))), (1, .ref (ad z x 1 (l1))), (3, .int (l3))] [] S (cz M) 0 0) : ∀ (f : Nat) (M : vC) (l4 : Int32), L_X5_gather_60 N l0 l1 l3 kx86 f M l4 = some R → ∀ S, RC S z x N d0 M → cF S0 S z x N d0 → vi_W E X 5 Z 60 [(0, .ref (ad z x 5 (l0))), (1, .ref (ad z x 1 (l1))), (3, .int (l3)), (4, .int (l4))] [] S (cz M) 0 0 := by
  intro f
  induction f with
  | zero => intro M l4 h; cases h
  | succ f ih =>
    intro M l4 h S hR hF
    rw [L_X5_gather_60] at h
    refine vi_iload C dX5_gather_60 rfl rfl ?_
    refine vi_iload_n C dX5_gather_62 rfl rfl ?_
    refine vi_icmp_ge (t' := 86) C dX5_gather_63 rfl (by decide) (fun c19 => ?_) (fun c19 => ?_)
    · replace h := iT c19 h
      exact (vi_cut [(0, .ref (ad z x 5 (l0))), (1, .ref (ad z x 1 (l1))), (3, .int (l3))] ⟨rfl, rfl, rfl, trivial⟩ (hx86 _  h _ hR hF))
    · replace h := iN c19 h
      refine vi_aload_n C dX5_gather_66 rfl rfl ?_
      refine c_gets (f := 500) (k := 5) (i := l0) C dX5_gather_67 rfl fX5_9 rfl (by decide) rfl hR hl0 rfl ?_
      refine vi_iload C dX5_gather_70 rfl rfl ?_
      refine vi_aload_n C dX5_gather_72 rfl rfl ?_
      refine c_getpL (f := 107) (k := 1) (i := l1) C dX5_gather_73 rfl fX5_25 rfl (by decide) rfl hR hl1 rfl h (fun v15 h => ?_)
      refine vi_iload C dX5_gather_76 rfl rfl ?_
      obtain ⟨o16, rfl, hh⟩ := bdo h
      replace h := hh
      clear hh
      refine c_baloadD C dX5_gather_78 rfl hR h (fun v17 h => ?_)
      refine c_bastore C dX5_gather_79 rfl rfl hR hF ⟨hl0, by decide⟩ h (fun S M18 h hR hF => ?_)
      refine vi_iincv (v := 1) C dX5_gather_80 rfl rfl (by decide) (by decide) ?_
      refine vi_goto (t' := 60) C dX5_gather_83 (by decide) ?_
      exact vi_cut [(0, .ref (ad z x 5 (l0))), (1, .ref (ad z x 1 (l1))), (3, .int (l3)), (4, .int ((l4 + (1))))] ⟨rfl, rfl, rfl, rfl, trivial⟩ (ih _ _ h _ hR hF)

set_option maxRecDepth 100000 in
set_option maxHeartbeats 4000000 in
theorem p_X5_gather {N : Nat} {M : vC} {R : (vC × Int32)} {a0 : Nat} {a1 : Nat} (ha0 : a0 < N) (ha1 : a1 < 202) (h : F_X5_gather N M a0 a1 = some R) {E : vE} {S0 : vS} {z x d0 : Nat} (hR : RC S0 z x N d0 M) : vi_Met E yX5_gather cX5_gather 5 (some .boolean) 2 0 0 [.ref (ad z x 5 (a0)), .ref (ad z x 1 (a1))] S0 (cz M) (D1 S0 z x N d0 R) := by
  refine vi_met (by decide) (Nat.le_of_ble_eq_true rfl) ?_
  intro X C
  have hF := cF.refl S0 z x N d0
  unfold F_X5_gather at h
  refine vi_aload_n C dX5_gather_0 rfl rfl ?_
  refine c_getpL (f := 107) (k := 1) (i := a1) C dX5_gather_1 rfl fX5_25 rfl (by decide) rfl hR ha1 rfl h (fun v1 h => ?_)
  rcases oco h with ⟨rfl, hh⟩ | ⟨o2, rfl, hh⟩
  · replace h := hh
    clear hh
    refine vi_ifnull (o := none) (t' := 18) C dX5_gather_4 rfl (by decide) (fun _ => ?_) (fun e => absurd rfl e)
    refine vi_iconst (v := 0) C dX5_gather_18 rfl (by decide) ?_
    exact c_retz C dX5_gather_19 rfl hR hF ⟨Nat.zero_le _, Nat.zero_le _⟩ h
  · replace h := hh
    clear hh
    refine vi_ifnull (o := (some (o2))) (t' := 18) C dX5_gather_4 rfl (by decide) (fun e => by cases e) (fun _ => ?_)
    refine vi_aload_n C dX5_gather_7 rfl rfl ?_
    refine c_getpL (f := 107) (k := 1) (i := a1) C dX5_gather_8 rfl fX5_25 rfl (by decide) rfl hR ha1 rfl h (fun v3 h => ?_)
    obtain ⟨o4, rfl, hh⟩ := bdo h
    replace h := hh
    clear hh
    obtain ⟨c5, h⟩ := gdo h
    refine c_alenD C dX5_gather_11 rfl hR c5 ?_
    refine vi_sipush (v := 256) C dX5_gather_12 rfl (by decide) ?_
    refine vi_icmp_le (t' := 20) C dX5_gather_15 rfl (by decide) (fun c27 => ?_) (fun c27 => ?_)
    · replace h := iT c27 h
      refine vi_aload_n C dX5_gather_20 rfl rfl ?_
      refine c_geti (f := 501) (k := 5) (i := a0) C dX5_gather_21 rfl fX5_15 rfl (by decide) rfl hR ha0 ?_
      refine vi_aload_n C dX5_gather_24 rfl rfl ?_
      refine c_geti (f := 104) (k := 1) (i := a1) C dX5_gather_25 rfl fX5_30 rfl (by decide) rfl hR ha1 ?_
      refine r_jn h (fun k => ∀ (M10 : vC), k M10 = some R → ∀ S, RC S z x N d0 M10 → cF S0 S z x N d0 → vi_W E X 5 (vi_Z E X (D1 S0 z x N d0 R) 0 0) 43 [(0, .ref (ad z x 5 (a0))), (1, .ref (ad z x 1 (a1)))] [] S (cz M10) 0 0) ?_ ?_
      · intro M10 h S hR hF
        refine vi_aload_n C dX5_gather_43 rfl rfl ?_
        refine c_cv1 (kc := 1) (a := (ad z x 1 (a1))) C [] [] dX5_gather_44 rfl ivX5_36 imX1_pieceStart rfl rfl (rcK hR ha1) hR hF h (fun _ e => p_X1_pieceStart ha1 e hR) rfl (Nat.le_of_ble_eq_true rfl) ⟨by decide, by decide⟩ ⟨Nat.le_refl _, Nat.le_refl _⟩ (fun S M11 v12 h hR hF => ?_)
        refine vi_istore_n C dX5_gather_47 rfl (by decide) ?_
        refine vi_aload_n C dX5_gather_48 rfl rfl ?_
        refine c_cv1 (kc := 1) (a := (ad z x 1 (a1))) C [] [] dX5_gather_49 rfl ivX5_40 imX1_pieceEnd rfl rfl (rcK hR ha1) hR hF h (fun _ e => p_X1_pieceEnd ha1 e hR) rfl (Nat.le_of_ble_eq_true rfl) ⟨by decide, by decide⟩ ⟨Nat.le_refl _, Nat.le_refl _⟩ (fun S M13 v14 h hR hF => ?_)
        refine vi_istore_n C dX5_gather_52 rfl (by decide) ?_
        refine vi_iconst (v := 0) C dX5_gather_53 rfl (by decide) ?_
        refine vi_iload_n C dX5_gather_54 rfl rfl ?_
        refine vi_mmax C dX5_gather_55 rfl ivX5_43 mlX5_43 (by decide) (Nat.le_of_ble_eq_true rfl) (Nat.zero_le _) (Nat.zero_le _) ?_
        refine vi_istore C dX5_gather_58 rfl (by decide) ?_
        refine vi_cut [(0, .ref (ad z x 5 (a0))), (1, .ref (ad z x 1 (a1))), (3, .int (v14)), (4, .int ((mxI ((0 : Int32)) (v12))))] ⟨rfl, rfl, rfl, rfl, trivial⟩ (w_X5_gather_60 ha0 ha1 C ?_ _ _ _ h _ hR hF)
        · intro M20 h S hR hF
          refine vi_aload_n C dX5_gather_86 rfl rfl ?_
          refine vi_dup C dX5_gather_87 rfl rfl ?_
          refine c_geti (f := 502) (k := 5) (i := a0) C dX5_gather_88 rfl fX5_19 rfl (by decide) rfl hR ha0 ?_
          refine vi_iconst (v := 1) C dX5_gather_91 rfl (by decide) ?_
          refine vi_aload_n C dX5_gather_92 rfl rfl ?_
          refine c_geti (f := 108) (k := 1) (i := a1) C dX5_gather_93 rfl fX5_49 rfl (by decide) rfl hR ha1 ?_
          refine vi_ishl C dX5_gather_96 rfl ?_
          refine vi_ior C dX5_gather_97 rfl ?_
          refine c_puti (f := 502) (k := 5) (i := a0) C dX5_gather_98 rfl (fpX5_19 _) rfl (by decide) rfl hR hF ha0 h (fun S M21 h hR hF => ?_)
          refine vi_aload_n C dX5_gather_101 rfl rfl ?_
          refine vi_aload_n C dX5_gather_102 rfl rfl ?_
          refine c_geti (f := 503) (k := 5) (i := a0) C dX5_gather_103 rfl fX5_22 rfl (by decide) rfl hR ha0 ?_
          refine vi_iload_n C dX5_gather_106 rfl rfl ?_
          refine vi_mmax C dX5_gather_107 rfl ivX5_43 mlX5_43 (by decide) (Nat.le_of_ble_eq_true rfl) (Nat.zero_le _) (Nat.zero_le _) ?_
          refine c_puti (f := 503) (k := 5) (i := a0) C dX5_gather_110 rfl (fpX5_22 _) rfl (by decide) rfl hR hF ha0 h (fun S M22 h hR hF => ?_)
          refine vi_aload_n C dX5_gather_113 rfl rfl ?_
          refine c_geti (f := 502) (k := 5) (i := a0) C dX5_gather_114 rfl fX5_19 rfl (by decide) rfl hR ha0 ?_
          refine vi_iconst (v := 1) C dX5_gather_117 rfl (by decide) ?_
          refine vi_aload_n C dX5_gather_118 rfl rfl ?_
          refine c_getpL (f := 107) (k := 1) (i := a1) C dX5_gather_119 rfl fX5_25 rfl (by decide) rfl hR ha1 rfl h (fun v23 h => ?_)
          refine c_cs1 C [va_rf (v23)] [.int ((1 : Int32)), .int ((cI M22 502 (a0)))] dX5_gather_122 rfl ivX5_52 isX1_piecesOf hR hF h (fun _ e => p_X1_piecesOf  e hR) rfl (Nat.le_of_ble_eq_true rfl) ⟨by decide, by decide⟩ ⟨Nat.le_refl _, Nat.le_refl _⟩ (fun S M24 v25 h hR hF => ?_)
          refine vi_ishl C dX5_gather_125 rfl ?_
          refine vi_iconst (v := 1) C dX5_gather_126 rfl (by decide) ?_
          refine vi_isub C dX5_gather_127 rfl ?_
          refine vi_icmp_ne (t' := 135) C dX5_gather_128 rfl (by decide) (fun c26 => ?_) (fun c26 => ?_)
          · replace h := iN c26 h
            refine vi_iconst (v := 0) C dX5_gather_135 rfl (by decide) ?_
            exact c_retz C dX5_gather_136 rfl hR hF ⟨Nat.zero_le _, Nat.zero_le _⟩ h
          · replace h := iT c26 h
            refine vi_iconst (v := 1) C dX5_gather_131 rfl (by decide) ?_
            refine vi_goto (t' := 136) C dX5_gather_132 (by decide) ?_
            exact c_retz C dX5_gather_136 rfl hR hF ⟨Nat.zero_le _, Nat.zero_le _⟩ h
      · intro k43_6 h43_6 h
        refine vi_icmp_ge (t' := 43) C dX5_gather_28 rfl (by decide) (fun c9 => ?_) (fun c9 => ?_)
        · replace h := iT c9 h
          exact (vi_cut [(0, .ref (ad z x 5 (a0))), (1, .ref (ad z x 1 (a1)))] ⟨rfl, rfl, trivial⟩ (h43_6 _ h _ hR hF))
        · replace h := iN c9 h
          refine vi_aload_n C dX5_gather_31 rfl rfl ?_
          refine c_cv0 (kc := 5) (a := (ad z x 5 (a0))) C [] [] dX5_gather_32 rfl ivX5_33 imX5_drop rfl rfl (rcK hR ha0) hR hF h (fun _ e => p_X5_drop ha0 e hR) rfl (Nat.le_of_ble_eq_true rfl) ⟨by decide, by decide⟩ ⟨Nat.le_refl _, Nat.le_refl _⟩ (fun S M7 h hR hF => ?_)
          refine vi_aload_n C dX5_gather_35 rfl rfl ?_
          refine vi_aload_n C dX5_gather_36 rfl rfl ?_
          refine c_geti (f := 104) (k := 1) (i := a1) C dX5_gather_37 rfl fX5_30 rfl (by decide) rfl hR ha1 ?_
          refine c_puti (f := 501) (k := 5) (i := a0) C dX5_gather_40 rfl (fpX5_15 _) rfl (by decide) rfl hR hF ha0 h (fun S M8 h hR hF => ?_)
          exact (vi_cut [(0, .ref (ad z x 5 (a0))), (1, .ref (ad z x 1 (a1)))] ⟨rfl, rfl, trivial⟩ (h43_6 _ h _ hR hF))
    · replace h := iN c27 h
      refine vi_iconst (v := 0) C dX5_gather_18 rfl (by decide) ?_
      exact c_retz C dX5_gather_19 rfl hR hF ⟨Nat.zero_le _, Nat.zero_le _⟩ h

def F_X6_clear (N : Nat) (M : vC) (a0 : Nat) : Option vC := lt1 (uI M 601 (a0) ((0 : Int32))) fun M1 => some M1

set_option maxRecDepth 100000 in
set_option maxHeartbeats 4000000 in
theorem p_X6_clear {N : Nat} {M : vC} {R : vC} {a0 : Nat} (ha0 : a0 < N) (h : F_X6_clear N M a0 = some R) {E : vE} {S0 : vS} {z x d0 : Nat} (hR : RC S0 z x N d0 M) : vi_Met E yX6_clear cX6_clear 1 none 0 0 0 [.ref (ad z x 6 (a0))] S0 (cz M) (D0 S0 z x N d0 R) := by
  refine vi_met (by decide) (Nat.le_of_ble_eq_true rfl) ?_
  intro X C
  have hF := cF.refl S0 z x N d0
  unfold F_X6_clear at h
  refine vi_aload_n C dX6_clear_0 rfl rfl ?_
  refine vi_iconst (v := 0) C dX6_clear_1 rfl (by decide) ?_
  refine c_puti (f := 601) (k := 6) (i := a0) C dX6_clear_2 rfl (fpX6_17 _) rfl (by decide) rfl hR hF ha0 h (fun S M1 h hR hF => ?_)
  exact c_ret0 C dX6_clear_5 rfl hR hF ⟨Nat.zero_le _, Nat.zero_le _⟩ h

def F_X8_isLike (N : Nat) (M : vC) (a0 : Nat) (a1 : Option Nat) : Option (vC × Int32) := gd (cK M (a0) = 9) <| (a1).bind fun o2 => gd (cK M (o2) = 9) <| if (cI M 800 (a0)) = (cI M 800 (o2)) then (gd (cK M (a0) = 9) <| gd (cK M (o2) = 9) <| if (cI M 801 (a0)) = (cI M 801 (o2)) then (zb ((1 : Int32)) (some (M, (1 : Int32)))) else (zb ((0 : Int32)) (some (M, (0 : Int32))))) else (zb ((0 : Int32)) (some (M, (0 : Int32))))

set_option maxRecDepth 100000 in
set_option maxHeartbeats 4000000 in
theorem p_X8_isLike {N : Nat} {M : vC} {R : (vC × Int32)} {a0 : Nat} {a1 : Option Nat}  (h : F_X8_isLike N M a0 a1 = some R) {E : vE} {S0 : vS} {z x d0 : Nat} (hR : RC S0 z x N d0 M) : vi_Met E yX8_isLike cX8_isLike 2 (some .boolean) 0 0 0 [.ref (a0), va_rf (a1)] S0 (cz M) (D1 S0 z x N d0 R) := by
  refine vi_met (by decide) (by cases a1 <;> exact Nat.le_of_ble_eq_true rfl) ?_
  intro X C
  rw [show lv_args 0 [.ref (a0), va_rf (a1)] = [(0, .ref (a0)), (1, va_rf (a1))] from by cases a1 <;> rfl]
  have hF := cF.refl S0 z x N d0
  unfold F_X8_isLike at h
  refine vi_aload_n C dX8_isLike_0 rfl rfl ?_
  obtain ⟨c1, h⟩ := gdo h
  refine c_getiD (f := 800) C dX8_isLike_1 rfl fX8_9 rfl (by decide) rfl hR c1 ?_
  refine vi_aload_nq (o := (a1)) C dX8_isLike_4 rfl rfl ?_
  obtain ⟨o2, rfl, hh⟩ := bdo h
  replace h := hh
  clear hh
  obtain ⟨c3, h⟩ := gdo h
  refine c_getiD (f := 800) C dX8_isLike_5 rfl fX8_9 rfl (by decide) rfl hR c3 ?_
  refine vi_icmp_ne (t' := 26) C dX8_isLike_8 rfl (by decide) (fun c7 => ?_) (fun c7 => ?_)
  · replace h := iN c7 h
    refine vi_iconst (v := 0) C dX8_isLike_26 rfl (by decide) ?_
    exact c_retz C dX8_isLike_27 rfl hR hF ⟨Nat.zero_le _, Nat.zero_le _⟩ h
  · replace h := iT c7 h
    refine vi_aload_n C dX8_isLike_11 rfl rfl ?_
    obtain ⟨c4, h⟩ := gdo h
    refine c_getiD (f := 801) C dX8_isLike_12 rfl fX8_15 rfl (by decide) rfl hR c4 ?_
    refine vi_aload_n C dX8_isLike_15 rfl rfl ?_
    obtain ⟨c5, h⟩ := gdo h
    refine c_getiD (f := 801) C dX8_isLike_16 rfl fX8_15 rfl (by decide) rfl hR c5 ?_
    refine vi_icmp_ne (t' := 26) C dX8_isLike_19 rfl (by decide) (fun c6 => ?_) (fun c6 => ?_)
    · replace h := iN c6 h
      refine vi_iconst (v := 0) C dX8_isLike_26 rfl (by decide) ?_
      exact c_retz C dX8_isLike_27 rfl hR hF ⟨Nat.zero_le _, Nat.zero_le _⟩ h
    · replace h := iT c6 h
      refine vi_iconst (v := 1) C dX8_isLike_22 rfl (by decide) ?_
      refine vi_goto (t' := 27) C dX8_isLike_23 (by decide) ?_
      exact c_retz C dX8_isLike_27 rfl hR hF ⟨Nat.zero_le _, Nat.zero_le _⟩ h

def L_X6_add_16 {ρ : Type} (N : Nat) (l0 : Nat) (l1 : Nat) (kx37 : vC → Option ρ) (kx44 : vC → Option ρ) : Nat → vC → Int32 → Option ρ
  | 0, _, _ => none
  | f + 1, M, l2 => if (cI M 601 (l0)) ≤ l2 then (kx44 M ) else ((cGQ M 600 (l0) (l2)).bind fun v2 => (v2).bind fun o3 => gd (cK M (o3) = 9) <| b2 (F_X8_isLike N M (o3) (some (l1))) fun M5 v6 => if v6 = 0 then (L_X6_add_16 N l0 l1 kx37 kx44 f M5 ((l2 + (1)))) else (kx37 M5 ))

def F_X6_add (N : Nat) (M : vC) (a0 : Nat) (a1 : Option Nat) : Option vC := oc (a1) (some M) (fun o1 => if (cI M 601 (a0)) < (8 : Int32) then (L_X6_add_16 N (a0) (o1) (fun (M9 : vC)  => some M9) (fun (M10 : vC)  => (cSQ M10 600 (a0) ((cI M10 601 (a0))) (some (o1))).bind fun M11 => lt1 (uI M11 601 (a0) (((cI M11 601 (a0)) + (1 : Int32)))) fun M12 => some M12) fu M ((0 : Int32))) else (some M))

set_option maxRecDepth 100000 in
set_option maxHeartbeats 4000000 in
theorem w_X6_add_16 {E : vE} {X : vX} {S0 : vS} {z x N d0 : Nat} {ρ : Type} {R : ρ} {Z : State → Prop} {l0 : Nat} {l1 : Nat} {kx37 : vC → Option ρ} {kx44 : vC → Option ρ} (hl0 : l0 < N) (C : vi_C E X yX6_add cX6_add 3 none 1 0 0 (45 * 1)) (hx37 : ∀ (M : vC) , kx37 M  = some R → ∀ S, RC S z x N d0 M → cF S0 S z x N d0 → vi_W E X 3 Z 37 [] [] S (cz M) 0 0) (hx44 : ∀ (M : vC) , kx44 M  = some R → ∀ S, RC S z x N d0 M → cF S0 S z x N d0 → vi_W E X 3 Z 44 [(0, .ref (ad z x 6 (l0))), (1, .ref (l1))] [] S (cz M) 0 0) : ∀ (f : Nat) (M : vC) (l2 : Int32), L_X6_add_16 N l0 l1 kx37 kx44 f M l2 = some R → ∀ S, RC S z x N d0 M → cF S0 S z x N d0 → vi_W E X 3 Z 16 [(0, .ref (ad z x 6 (l0))), (1, .ref (l1)), (2, .int (l2))] [] S (cz M) 0 0 := by
  intro f
  induction f with
  | zero => intro M l2 h; cases h
  | succ f ih =>
    intro M l2 h S hR hF
    rw [L_X6_add_16] at h
    refine vi_iload_n C dX6_add_16 rfl rfl ?_
    refine vi_aload_n C dX6_add_17 rfl rfl ?_
    refine c_geti (f := 601) (k := 6) (i := l0) C dX6_add_18 rfl fX6_17 rfl (by decide) rfl hR hl0 ?_
    refine vi_icmp_ge (t' := 44) C dX6_add_21 rfl (by decide) (fun c8 => ?_) (fun c8 => ?_)
    · replace h := iT c8 h
      exact (vi_cut [(0, .ref (ad z x 6 (l0))), (1, .ref (l1))] ⟨rfl, rfl, trivial⟩ (hx44 _  h _ hR hF))
    · replace h := iN c8 h
      refine vi_aload_n C dX6_add_24 rfl rfl ?_
      refine c_gets (f := 600) (k := 6) (i := l0) C dX6_add_25 rfl fX6_11 rfl (by decide) rfl hR hl0 rfl ?_
      refine vi_iload_n C dX6_add_28 rfl rfl ?_
      refine c_aaloadQ C dX6_add_29 rfl rfl hR ⟨hl0, by decide⟩ h (fun v2 h => ?_)
      refine vi_aload_n C dX6_add_30 rfl rfl ?_
      obtain ⟨o3, rfl, hh⟩ := bdo h
      replace h := hh
      clear hh
      obtain ⟨c4, h⟩ := gdo h
      refine c_cv1 (kc := 8) (a := (o3)) C [.ref (l1)] [] dX6_add_31 rfl ivX6_21 imX8_isLike rfl rfl (rcKD hR c4) hR hF h (fun _ e => p_X8_isLike  e hR) rfl (Nat.le_of_ble_eq_true rfl) ⟨by decide, by decide⟩ ⟨Nat.le_refl _, Nat.le_refl _⟩ (fun S M5 v6 h hR hF => ?_)
      refine vi_if_eq (t' := 38) C dX6_add_34 rfl (by decide) (fun c7 => ?_) (fun c7 => ?_)
      · replace h := iT c7 h
        refine vi_iincv (v := 1) C dX6_add_38 rfl rfl (by decide) (by decide) ?_
        refine vi_goto (t' := 16) C dX6_add_41 (by decide) ?_
        exact vi_cut [(0, .ref (ad z x 6 (l0))), (1, .ref (l1)), (2, .int ((l2 + (1))))] ⟨rfl, rfl, rfl, trivial⟩ (ih _ _ h _ hR hF)
      · replace h := iN c7 h
        exact (vi_cut [] trivial (hx37 _  h _ hR hF))

set_option maxRecDepth 100000 in
set_option maxHeartbeats 4000000 in
theorem p_X6_add {N : Nat} {M : vC} {R : vC} {a0 : Nat} {a1 : Option Nat} (ha0 : a0 < N) (h : F_X6_add N M a0 a1 = some R) {E : vE} {S0 : vS} {z x d0 : Nat} (hR : RC S0 z x N d0 M) : vi_Met E yX6_add cX6_add 3 none 1 0 0 [.ref (ad z x 6 (a0)), va_rf (a1)] S0 (cz M) (D0 S0 z x N d0 R) := by
  refine vi_met (by decide) (by cases a1 <;> exact Nat.le_of_ble_eq_true rfl) ?_
  intro X C
  rw [show lv_args 0 [.ref (ad z x 6 (a0)), va_rf (a1)] = [(0, .ref (ad z x 6 (a0))), (1, va_rf (a1))] from by cases a1 <;> rfl]
  have hF := cF.refl S0 z x N d0
  unfold F_X6_add at h
  refine vi_aload_nq (o := (a1)) C dX6_add_0 rfl rfl ?_
  rcases oco h with ⟨rfl, hh⟩ | ⟨o1, rfl, hh⟩
  · replace h := hh
    clear hh
    refine vi_ifnull (o := none) (t' := 13) C dX6_add_1 rfl (by decide) (fun _ => ?_) (fun e => absurd rfl e)
    exact c_ret0 C dX6_add_13 rfl hR hF ⟨Nat.zero_le _, Nat.zero_le _⟩ h
  · replace h := hh
    clear hh
    refine vi_ifnull (o := (some (o1))) (t' := 13) C dX6_add_1 rfl (by decide) (fun e => by cases e) (fun _ => ?_)
    refine vi_aload_n C dX6_add_4 rfl rfl ?_
    refine c_geti (f := 601) (k := 6) (i := a0) C dX6_add_5 rfl fX6_17 rfl (by decide) rfl hR ha0 ?_
    refine vi_bipush (v := 8) C dX6_add_8 rfl (by decide) ?_
    refine vi_icmp_lt (t' := 14) C dX6_add_10 rfl (by decide) (fun c13 => ?_) (fun c13 => ?_)
    · replace h := iT c13 h
      refine vi_iconst (v := 0) C dX6_add_14 rfl (by decide) ?_
      refine vi_istore_n C dX6_add_15 rfl (by decide) ?_
      refine vi_cut [(0, .ref (ad z x 6 (a0))), (1, .ref (o1)), (2, .int ((0 : Int32)))] ⟨rfl, rfl, rfl, trivial⟩ (w_X6_add_16 ha0 C ?_ ?_ _ _ _ h _ hR hF)
      · intro M9 h S hR hF
        exact c_ret0 C dX6_add_37 rfl hR hF ⟨Nat.zero_le _, Nat.zero_le _⟩ h
      · intro M10 h S hR hF
        refine vi_aload_n C dX6_add_44 rfl rfl ?_
        refine c_gets (f := 600) (k := 6) (i := a0) C dX6_add_45 rfl fX6_11 rfl (by decide) rfl hR ha0 rfl ?_
        refine vi_aload_n C dX6_add_48 rfl rfl ?_
        refine c_geti (f := 601) (k := 6) (i := a0) C dX6_add_49 rfl fX6_17 rfl (by decide) rfl hR ha0 ?_
        refine vi_aload_n C dX6_add_52 rfl rfl ?_
        refine c_aastoreQ (v := (some (o1))) C dX6_add_53 rfl rfl hR hF ⟨ha0, by decide⟩ h (fun S M11 h hR hF => ?_)
        refine vi_aload_n C dX6_add_54 rfl rfl ?_
        refine vi_dup C dX6_add_55 rfl rfl ?_
        refine c_geti (f := 601) (k := 6) (i := a0) C dX6_add_56 rfl fX6_17 rfl (by decide) rfl hR ha0 ?_
        refine vi_iconst (v := 1) C dX6_add_59 rfl (by decide) ?_
        refine vi_iadd C dX6_add_60 rfl ?_
        refine c_puti (f := 601) (k := 6) (i := a0) C dX6_add_61 rfl (fpX6_17 _) rfl (by decide) rfl hR hF ha0 h (fun S M12 h hR hF => ?_)
        exact c_ret0 C dX6_add_64 rfl hR hF ⟨Nat.zero_le _, Nat.zero_le _⟩ h
    · replace h := iN c13 h
      exact c_ret0 C dX6_add_13 rfl hR hF ⟨Nat.zero_le _, Nat.zero_le _⟩ h

def F_X6_first (N : Nat) (M : vC) (a0 : Nat) : Option (vC × Option Nat) := if (cI M 601 (a0)) ≤ 0 then (some (M, none)) else ((cGQ M 600 (a0) ((0 : Int32))).bind fun v1 => some (M, (v1)))

set_option maxRecDepth 100000 in
set_option maxHeartbeats 4000000 in
theorem p_X6_first {N : Nat} {M : vC} {R : (vC × Option Nat)} {a0 : Nat} (ha0 : a0 < N) (h : F_X6_first N M a0 = some R) {E : vE} {S0 : vS} {z x d0 : Nat} (hR : RC S0 z x N d0 M) : vi_Met E yX6_first cX6_first 1 (some (.object "SnapCluster$Request")) 0 0 0 [.ref (ad z x 6 (a0))] S0 (cz M) (D4 S0 z x N d0 R) := by
  refine vi_met (by decide) (Nat.le_of_ble_eq_true rfl) ?_
  intro X C
  have hF := cF.refl S0 z x N d0
  unfold F_X6_first at h
  refine vi_aload_n C dX6_first_0 rfl rfl ?_
  refine c_geti (f := 601) (k := 6) (i := a0) C dX6_first_1 rfl fX6_17 rfl (by decide) rfl hR ha0 ?_
  refine vi_if_le (t' := 16) C dX6_first_4 rfl (by decide) (fun c2 => ?_) (fun c2 => ?_)
  · replace h := iT c2 h
    refine vi_null C dX6_first_16 rfl ?_
    exact c_ret4 (v := none) C dX6_first_17 rfl (Or.inl ⟨_, rfl⟩) hR hF ⟨Nat.zero_le _, Nat.zero_le _⟩ h
  · replace h := iN c2 h
    refine vi_aload_n C dX6_first_7 rfl rfl ?_
    refine c_gets (f := 600) (k := 6) (i := a0) C dX6_first_8 rfl fX6_11 rfl (by decide) rfl hR ha0 rfl ?_
    refine vi_iconst (v := 0) C dX6_first_11 rfl (by decide) ?_
    refine c_aaloadQ C dX6_first_12 rfl rfl hR ⟨ha0, by decide⟩ h (fun v1 h => ?_)
    refine vi_goto (t' := 17) C dX6_first_13 (by decide) ?_
    exact c_ret4 (v := (v1)) C dX6_first_17 rfl (Or.inl ⟨_, rfl⟩) hR hF ⟨Nat.zero_le _, Nat.zero_le _⟩ h

def F_X10_isNew (N : Nat) (M : vC) (a0 : Nat) (a1 : Option Nat) : Option (vC × Int32) := (a1).bind fun o1 => gd (cK M (o1) = 9) <| gd (cK M (o1) = 9) <| (cG M 1002 (a0) ((cI M 800 (o1)))).bind fun v4 => if (cI M 801 (o1)) ≤ v4 then (zb ((0 : Int32)) (some (M, (0 : Int32)))) else (zb ((1 : Int32)) (some (M, (1 : Int32))))

set_option maxRecDepth 100000 in
set_option maxHeartbeats 4000000 in
theorem p_X10_isNew {N : Nat} {M : vC} {R : (vC × Int32)} {a0 : Nat} {a1 : Option Nat} (ha0 : a0 < N) (h : F_X10_isNew N M a0 a1 = some R) {E : vE} {S0 : vS} {z x d0 : Nat} (hR : RC S0 z x N d0 M) : vi_Met E yX10_isNew cX10_isNew 2 (some .boolean) 0 0 0 [.ref (ad z x 10 (a0)), va_rf (a1)] S0 (cz M) (D1 S0 z x N d0 R) := by
  refine vi_met (by decide) (by cases a1 <;> exact Nat.le_of_ble_eq_true rfl) ?_
  intro X C
  rw [show lv_args 0 [.ref (ad z x 10 (a0)), va_rf (a1)] = [(0, .ref (ad z x 10 (a0))), (1, va_rf (a1))] from by cases a1 <;> rfl]
  have hF := cF.refl S0 z x N d0
  unfold F_X10_isNew at h
  refine vi_aload_nq (o := (a1)) C dX10_isNew_0 rfl rfl ?_
  obtain ⟨o1, rfl, hh⟩ := bdo h
  replace h := hh
  clear hh
  obtain ⟨c2, h⟩ := gdo h
  refine c_getiD (f := 801) C dX10_isNew_1 rfl fX10_60 rfl (by decide) rfl hR c2 ?_
  refine vi_aload_n C dX10_isNew_4 rfl rfl ?_
  refine c_gets (f := 1002) (k := 10) (i := a0) C dX10_isNew_5 rfl fX10_9 rfl (by decide) rfl hR ha0 rfl ?_
  refine vi_aload_n C dX10_isNew_8 rfl rfl ?_
  obtain ⟨c3, h⟩ := gdo h
  refine c_getiD (f := 800) C dX10_isNew_9 rfl fX10_63 rfl (by decide) rfl hR c3 ?_
  refine c_iaload C dX10_isNew_12 rfl rfl hR ⟨ha0, by decide⟩ h (fun v4 h => ?_)
  refine vi_icmp_le (t' := 20) C dX10_isNew_13 rfl (by decide) (fun c5 => ?_) (fun c5 => ?_)
  · replace h := iT c5 h
    refine vi_iconst (v := 0) C dX10_isNew_20 rfl (by decide) ?_
    exact c_retz C dX10_isNew_21 rfl hR hF ⟨Nat.zero_le _, Nat.zero_le _⟩ h
  · replace h := iN c5 h
    refine vi_iconst (v := 1) C dX10_isNew_16 rfl (by decide) ?_
    refine vi_goto (t' := 21) C dX10_isNew_17 (by decide) ?_
    exact c_retz C dX10_isNew_21 rfl hR hF ⟨Nat.zero_le _, Nat.zero_le _⟩ h

def L_X6_dropFirst_2 {ρ : Type} (N : Nat) (l0 : Nat) (l1 : Int32) (kx30 : vC → Option ρ) : Nat → vC → Int32 → Option ρ
  | 0, _, _ => none
  | f + 1, M, l2 => if (cI M 601 (l0)) ≤ l2 then (kx30 M ) else ((cGQ M 600 (l0) (l2)).bind fun v1 => (cSQ M 600 (l0) ((l2 - l1)) (v1)).bind fun M2 => L_X6_dropFirst_2 N l0 l1 kx30 f M2 ((l2 + (1))))

def F_X6_dropFirst (N : Nat) (M : vC) (a0 : Nat) (a1 : Int32) : Option vC := L_X6_dropFirst_2 N (a0) (a1) (fun (M4 : vC)  => lt1 (uI M4 601 (a0) (((cI M4 601 (a0)) - a1))) fun M5 => some M5) fu M (a1)

set_option maxRecDepth 100000 in
set_option maxHeartbeats 4000000 in
theorem w_X6_dropFirst_2 {E : vE} {X : vX} {S0 : vS} {z x N d0 : Nat} {ρ : Type} {R : ρ} {Z : State → Prop} {l0 : Nat} {l1 : Int32} {kx30 : vC → Option ρ} (hl0 : l0 < N) (C : vi_C E X yX6_dropFirst cX6_dropFirst 3 none 0 0 0 (45 * 0)) (hx30 : ∀ (M : vC) , kx30 M  = some R → ∀ S, RC S z x N d0 M → cF S0 S z x N d0 → vi_W E X 3 Z 30 [(0, .ref (ad z x 6 (l0))), (1, .int (l1))] [] S (cz M) 0 0) : ∀ (f : Nat) (M : vC) (l2 : Int32), L_X6_dropFirst_2 N l0 l1 kx30 f M l2 = some R → ∀ S, RC S z x N d0 M → cF S0 S z x N d0 → vi_W E X 3 Z 2 [(0, .ref (ad z x 6 (l0))), (1, .int (l1)), (2, .int (l2))] [] S (cz M) 0 0 := by
  intro f
  induction f with
  | zero => intro M l2 h; cases h
  | succ f ih =>
    intro M l2 h S hR hF
    rw [L_X6_dropFirst_2] at h
    refine vi_iload_n C dX6_dropFirst_2 rfl rfl ?_
    refine vi_aload_n C dX6_dropFirst_3 rfl rfl ?_
    refine c_geti (f := 601) (k := 6) (i := l0) C dX6_dropFirst_4 rfl fX6_17 rfl (by decide) rfl hR hl0 ?_
    refine vi_icmp_ge (t' := 30) C dX6_dropFirst_7 rfl (by decide) (fun c3 => ?_) (fun c3 => ?_)
    · replace h := iT c3 h
      exact (vi_cut [(0, .ref (ad z x 6 (l0))), (1, .int (l1))] ⟨rfl, rfl, trivial⟩ (hx30 _  h _ hR hF))
    · replace h := iN c3 h
      refine vi_aload_n C dX6_dropFirst_10 rfl rfl ?_
      refine c_gets (f := 600) (k := 6) (i := l0) C dX6_dropFirst_11 rfl fX6_11 rfl (by decide) rfl hR hl0 rfl ?_
      refine vi_iload_n C dX6_dropFirst_14 rfl rfl ?_
      refine vi_iload_n C dX6_dropFirst_15 rfl rfl ?_
      refine vi_isub C dX6_dropFirst_16 rfl ?_
      refine vi_aload_n C dX6_dropFirst_17 rfl rfl ?_
      refine c_gets (f := 600) (k := 6) (i := l0) C dX6_dropFirst_18 rfl fX6_11 rfl (by decide) rfl hR hl0 rfl ?_
      refine vi_iload_n C dX6_dropFirst_21 rfl rfl ?_
      refine c_aaloadQ C dX6_dropFirst_22 rfl rfl hR ⟨hl0, by decide⟩ h (fun v1 h => ?_)
      refine c_aastoreQ (v := (v1)) C dX6_dropFirst_23 rfl rfl hR hF ⟨hl0, by decide⟩ h (fun S M2 h hR hF => ?_)
      refine vi_iincv (v := 1) C dX6_dropFirst_24 rfl rfl (by decide) (by decide) ?_
      refine vi_goto (t' := 2) C dX6_dropFirst_27 (by decide) ?_
      exact vi_cut [(0, .ref (ad z x 6 (l0))), (1, .int (l1)), (2, .int ((l2 + (1))))] ⟨rfl, rfl, rfl, trivial⟩ (ih _ _ h _ hR hF)

set_option maxRecDepth 100000 in
set_option maxHeartbeats 4000000 in
theorem p_X6_dropFirst {N : Nat} {M : vC} {R : vC} {a0 : Nat} {a1 : Int32} (ha0 : a0 < N) (h : F_X6_dropFirst N M a0 a1 = some R) {E : vE} {S0 : vS} {z x d0 : Nat} (hR : RC S0 z x N d0 M) : vi_Met E yX6_dropFirst cX6_dropFirst 3 none 0 0 0 [.ref (ad z x 6 (a0)), .int (a1)] S0 (cz M) (D0 S0 z x N d0 R) := by
  refine vi_met (by decide) (Nat.le_of_ble_eq_true rfl) ?_
  intro X C
  have hF := cF.refl S0 z x N d0
  unfold F_X6_dropFirst at h
  refine vi_iload_n C dX6_dropFirst_0 rfl rfl ?_
  refine vi_istore_n C dX6_dropFirst_1 rfl (by decide) ?_
  refine vi_cut [(0, .ref (ad z x 6 (a0))), (1, .int (a1)), (2, .int (a1))] ⟨rfl, rfl, rfl, trivial⟩ (w_X6_dropFirst_2 ha0 C ?_ _ _ _ h _ hR hF)
  · intro M4 h S hR hF
    refine vi_aload_n C dX6_dropFirst_30 rfl rfl ?_
    refine vi_dup C dX6_dropFirst_31 rfl rfl ?_
    refine c_geti (f := 601) (k := 6) (i := a0) C dX6_dropFirst_32 rfl fX6_17 rfl (by decide) rfl hR ha0 ?_
    refine vi_iload_n C dX6_dropFirst_35 rfl rfl ?_
    refine vi_isub C dX6_dropFirst_36 rfl ?_
    refine c_puti (f := 601) (k := 6) (i := a0) C dX6_dropFirst_37 rfl (fpX6_17 _) rfl (by decide) rfl hR hF ha0 h (fun S M5 h hR hF => ?_)
    exact c_ret0 C dX6_dropFirst_40 rfl hR hF ⟨Nat.zero_le _, Nat.zero_le _⟩ h

def L_X6_advance_2 {ρ : Type} (N : Nat) (l0 : Nat) (l1 : Nat) (kx23 : vC → Int32 → Option ρ) (kx41 : vC → Option ρ) : Nat → vC → Int32 → Option ρ
  | 0, _, _ => none
  | f + 1, M, l2 => if (cI M 601 (l0)) ≤ l2 then (kx41 M ) else ((cGQ M 600 (l0) (l2)).bind fun v1 => b2 (F_X10_isNew N M (l1) (v1)) fun M2 v3 => if v3 = 0 then (L_X6_advance_2 N l0 l1 kx23 kx41 f M2 ((l2 + (1)))) else (kx23 M2 (l2)))

def F_X6_advance (N : Nat) (M : vC) (a0 : Nat) (a1 : Nat) : Option (vC × Option Nat) := L_X6_advance_2 N (a0) (a1) (fun (M6 : vC) (l7 : Int32) => (F_X6_dropFirst N M6 (a0) (l7)).bind fun M8 => (cGQ M8 600 (a0) ((0 : Int32))).bind fun v9 => some (M8, (v9))) (fun (M10 : vC)  => some (M10, none)) fu M ((0 : Int32))

set_option maxRecDepth 100000 in
set_option maxHeartbeats 4000000 in
theorem w_X6_advance_2 {E : vE} {X : vX} {S0 : vS} {z x N d0 : Nat} {ρ : Type} {R : ρ} {Z : State → Prop} {l0 : Nat} {l1 : Nat} {kx23 : vC → Int32 → Option ρ} {kx41 : vC → Option ρ} (hl0 : l0 < N) (hl1 : l1 < N) (C : vi_C E X yX6_advance cX6_advance 3 (some (.object "SnapCluster$Request")) 1 0 0 (45 * 1)) (hx23 : ∀ (M : vC) (l2 : Int32), kx23 M l2 = some R → ∀ S, RC S z x N d0 M → cF S0 S z x N d0 → vi_W E X 3 Z 23 [(0, .ref (ad z x 6 (l0))), (2, .int (l2))] [] S (cz M) 0 0) (hx41 : ∀ (M : vC) , kx41 M  = some R → ∀ S, RC S z x N d0 M → cF S0 S z x N d0 → vi_W E X 3 Z 41 [] [] S (cz M) 0 0) : ∀ (f : Nat) (M : vC) (l2 : Int32), L_X6_advance_2 N l0 l1 kx23 kx41 f M l2 = some R → ∀ S, RC S z x N d0 M → cF S0 S z x N d0 → vi_W E X 3 Z 2 [(0, .ref (ad z x 6 (l0))), (1, .ref (ad z x 10 (l1))), (2, .int (l2))] [] S (cz M) 0 0 := by
  intro f
  induction f with
  | zero => intro M l2 h; cases h
  | succ f ih =>
    intro M l2 h S hR hF
    rw [L_X6_advance_2] at h
    refine vi_iload_n C dX6_advance_2 rfl rfl ?_
    refine vi_aload_n C dX6_advance_3 rfl rfl ?_
    refine c_geti (f := 601) (k := 6) (i := l0) C dX6_advance_4 rfl fX6_17 rfl (by decide) rfl hR hl0 ?_
    refine vi_icmp_ge (t' := 41) C dX6_advance_7 rfl (by decide) (fun c5 => ?_) (fun c5 => ?_)
    · replace h := iT c5 h
      exact (vi_cut [] trivial (hx41 _  h _ hR hF))
    · replace h := iN c5 h
      refine vi_aload_n C dX6_advance_10 rfl rfl ?_
      refine vi_aload_n C dX6_advance_11 rfl rfl ?_
      refine c_gets (f := 600) (k := 6) (i := l0) C dX6_advance_12 rfl fX6_11 rfl (by decide) rfl hR hl0 rfl ?_
      refine vi_iload_n C dX6_advance_15 rfl rfl ?_
      refine c_aaloadQ C dX6_advance_16 rfl rfl hR ⟨hl0, by decide⟩ h (fun v1 h => ?_)
      refine c_cv1 (kc := 10) (a := (ad z x 10 (l1))) C [va_rf (v1)] [] dX6_advance_17 rfl ivX6_25 imX10_isNew rfl rfl (rcK hR hl1) hR hF h (fun _ e => p_X10_isNew hl1 e hR) rfl (Nat.le_of_ble_eq_true rfl) ⟨by decide, by decide⟩ ⟨Nat.le_refl _, Nat.le_refl _⟩ (fun S M2 v3 h hR hF => ?_)
      refine vi_if_eq (t' := 35) C dX6_advance_20 rfl (by decide) (fun c4 => ?_) (fun c4 => ?_)
      · replace h := iT c4 h
        refine vi_iincv (v := 1) C dX6_advance_35 rfl rfl (by decide) (by decide) ?_
        refine vi_goto (t' := 2) C dX6_advance_38 (by decide) ?_
        exact vi_cut [(0, .ref (ad z x 6 (l0))), (1, .ref (ad z x 10 (l1))), (2, .int ((l2 + (1))))] ⟨rfl, rfl, rfl, trivial⟩ (ih _ _ h _ hR hF)
      · replace h := iN c4 h
        exact (vi_cut [(0, .ref (ad z x 6 (l0))), (2, .int (l2))] ⟨rfl, rfl, trivial⟩ (hx23 _ _ h _ hR hF))

set_option maxRecDepth 100000 in
set_option maxHeartbeats 4000000 in
theorem p_X6_advance {N : Nat} {M : vC} {R : (vC × Option Nat)} {a0 : Nat} {a1 : Nat} (ha0 : a0 < N) (ha1 : a1 < N) (h : F_X6_advance N M a0 a1 = some R) {E : vE} {S0 : vS} {z x d0 : Nat} (hR : RC S0 z x N d0 M) : vi_Met E yX6_advance cX6_advance 3 (some (.object "SnapCluster$Request")) 1 0 0 [.ref (ad z x 6 (a0)), .ref (ad z x 10 (a1))] S0 (cz M) (D4 S0 z x N d0 R) := by
  refine vi_met (by decide) (Nat.le_of_ble_eq_true rfl) ?_
  intro X C
  have hF := cF.refl S0 z x N d0
  unfold F_X6_advance at h
  refine vi_iconst (v := 0) C dX6_advance_0 rfl (by decide) ?_
  refine vi_istore_n C dX6_advance_1 rfl (by decide) ?_
  refine vi_cut [(0, .ref (ad z x 6 (a0))), (1, .ref (ad z x 10 (a1))), (2, .int ((0 : Int32)))] ⟨rfl, rfl, rfl, trivial⟩ (w_X6_advance_2 ha0 ha1 C ?_ ?_ _ _ _ h _ hR hF)
  · intro M6 l7 h S hR hF
    refine vi_aload_n C dX6_advance_23 rfl rfl ?_
    refine vi_iload_n C dX6_advance_24 rfl rfl ?_
    refine c_cv0 (kc := 6) (a := (ad z x 6 (a0))) C [.int (l7)] [] dX6_advance_25 rfl ivX6_30 imX6_dropFirst rfl rfl (rcK hR ha0) hR hF h (fun _ e => p_X6_dropFirst ha0 e hR) rfl (Nat.le_of_ble_eq_true rfl) ⟨by decide, by decide⟩ ⟨Nat.le_refl _, Nat.le_refl _⟩ (fun S M8 h hR hF => ?_)
    refine vi_aload_n C dX6_advance_28 rfl rfl ?_
    refine c_gets (f := 600) (k := 6) (i := a0) C dX6_advance_29 rfl fX6_11 rfl (by decide) rfl hR ha0 rfl ?_
    refine vi_iconst (v := 0) C dX6_advance_32 rfl (by decide) ?_
    refine c_aaloadQ C dX6_advance_33 rfl rfl hR ⟨ha0, by decide⟩ h (fun v9 h => ?_)
    exact c_ret4 (v := (v9)) C dX6_advance_34 rfl (Or.inl ⟨_, rfl⟩) hR hF ⟨Nat.zero_le _, Nat.zero_le _⟩ h
  · intro M10 h S hR hF
    refine vi_null C dX6_advance_41 rfl ?_
    exact c_ret4 (v := none) C dX6_advance_42 rfl (Or.inl ⟨_, rfl⟩) hR hF ⟨Nat.zero_le _, Nat.zero_le _⟩ h

def L_X6_dropDecided_4 {ρ : Type} (N : Nat) (l0 : Nat) (l1 : Nat) (kx46 : vC → Int32 → Option ρ) : Nat → vC → Int32 → Int32 → Option ρ
  | 0, _, _, _ => none
  | f + 1, M, l2, l3 => if (cI M 601 (l0)) ≤ l3 then (kx46 M (l2)) else ((cGQ M 600 (l0) (l3)).bind fun v1 => b2 (F_X10_isNew N M (l1) (v1)) fun M2 v3 => if v3 = 0 then (L_X6_dropDecided_4 N l0 l1 kx46 f M2 (l2) ((l3 + (1)))) else ((cGQ M2 600 (l0) (l3)).bind fun v4 => (cSQ M2 600 (l0) (l2) (v4)).bind fun M5 => L_X6_dropDecided_4 N l0 l1 kx46 f M5 ((l2 + (1))) ((l3 + (1)))))

def F_X6_dropDecided (N : Nat) (M : vC) (a0 : Nat) (a1 : Nat) : Option vC := L_X6_dropDecided_4 N (a0) (a1) (fun (M8 : vC) (l9 : Int32) => lt1 (uI M8 601 (a0) (l9)) fun M10 => some M10) fu M ((0 : Int32)) ((0 : Int32))

set_option maxRecDepth 100000 in
set_option maxHeartbeats 4000000 in
theorem w_X6_dropDecided_4 {E : vE} {X : vX} {S0 : vS} {z x N d0 : Nat} {ρ : Type} {R : ρ} {Z : State → Prop} {l0 : Nat} {l1 : Nat} {kx46 : vC → Int32 → Option ρ} (hl0 : l0 < N) (hl1 : l1 < N) (C : vi_C E X yX6_dropDecided cX6_dropDecided 4 none 1 0 0 (45 * 1)) (hx46 : ∀ (M : vC) (l2 : Int32), kx46 M l2 = some R → ∀ S, RC S z x N d0 M → cF S0 S z x N d0 → vi_W E X 4 Z 46 [(0, .ref (ad z x 6 (l0))), (2, .int (l2))] [] S (cz M) 0 0) : ∀ (f : Nat) (M : vC) (l2 : Int32) (l3 : Int32), L_X6_dropDecided_4 N l0 l1 kx46 f M l2 l3 = some R → ∀ S, RC S z x N d0 M → cF S0 S z x N d0 → vi_W E X 4 Z 4 [(0, .ref (ad z x 6 (l0))), (1, .ref (ad z x 10 (l1))), (2, .int (l2)), (3, .int (l3))] [] S (cz M) 0 0 := by
  intro f
  induction f with
  | zero => intro M l2 l3 h; cases h
  | succ f ih =>
    intro M l2 l3 h S hR hF
    rw [L_X6_dropDecided_4] at h
    refine vi_iload_n C dX6_dropDecided_4 rfl rfl ?_
    refine vi_aload_n C dX6_dropDecided_5 rfl rfl ?_
    refine c_geti (f := 601) (k := 6) (i := l0) C dX6_dropDecided_6 rfl fX6_17 rfl (by decide) rfl hR hl0 ?_
    refine vi_icmp_ge (t' := 46) C dX6_dropDecided_9 rfl (by decide) (fun c7 => ?_) (fun c7 => ?_)
    · replace h := iT c7 h
      exact (vi_cut [(0, .ref (ad z x 6 (l0))), (2, .int (l2))] ⟨rfl, rfl, trivial⟩ (hx46 _ _ h _ hR hF))
    · replace h := iN c7 h
      refine vi_aload_n C dX6_dropDecided_12 rfl rfl ?_
      refine vi_aload_n C dX6_dropDecided_13 rfl rfl ?_
      refine c_gets (f := 600) (k := 6) (i := l0) C dX6_dropDecided_14 rfl fX6_11 rfl (by decide) rfl hR hl0 rfl ?_
      refine vi_iload_n C dX6_dropDecided_17 rfl rfl ?_
      refine c_aaloadQ C dX6_dropDecided_18 rfl rfl hR ⟨hl0, by decide⟩ h (fun v1 h => ?_)
      refine c_cv1 (kc := 10) (a := (ad z x 10 (l1))) C [va_rf (v1)] [] dX6_dropDecided_19 rfl ivX6_25 imX10_isNew rfl rfl (rcK hR hl1) hR hF h (fun _ e => p_X10_isNew hl1 e hR) rfl (Nat.le_of_ble_eq_true rfl) ⟨by decide, by decide⟩ ⟨Nat.le_refl _, Nat.le_refl _⟩ (fun S M2 v3 h hR hF => ?_)
      refine vi_if_eq (t' := 40) C dX6_dropDecided_22 rfl (by decide) (fun c6 => ?_) (fun c6 => ?_)
      · replace h := iT c6 h
        refine vi_iincv (v := 1) C dX6_dropDecided_40 rfl rfl (by decide) (by decide) ?_
        refine vi_goto (t' := 4) C dX6_dropDecided_43 (by decide) ?_
        exact vi_cut [(0, .ref (ad z x 6 (l0))), (1, .ref (ad z x 10 (l1))), (2, .int (l2)), (3, .int ((l3 + (1))))] ⟨rfl, rfl, rfl, rfl, trivial⟩ (ih _ _ _ h _ hR hF)
      · replace h := iN c6 h
        refine vi_aload_n C dX6_dropDecided_25 rfl rfl ?_
        refine c_gets (f := 600) (k := 6) (i := l0) C dX6_dropDecided_26 rfl fX6_11 rfl (by decide) rfl hR hl0 rfl ?_
        refine vi_iload_n C dX6_dropDecided_29 rfl rfl ?_
        refine vi_aload_n C dX6_dropDecided_30 rfl rfl ?_
        refine c_gets (f := 600) (k := 6) (i := l0) C dX6_dropDecided_31 rfl fX6_11 rfl (by decide) rfl hR hl0 rfl ?_
        refine vi_iload_n C dX6_dropDecided_34 rfl rfl ?_
        refine c_aaloadQ C dX6_dropDecided_35 rfl rfl hR ⟨hl0, by decide⟩ h (fun v4 h => ?_)
        refine c_aastoreQ (v := (v4)) C dX6_dropDecided_36 rfl rfl hR hF ⟨hl0, by decide⟩ h (fun S M5 h hR hF => ?_)
        refine vi_iincv (v := 1) C dX6_dropDecided_37 rfl rfl (by decide) (by decide) ?_
        refine vi_iincv (v := 1) C dX6_dropDecided_40 rfl rfl (by decide) (by decide) ?_
        refine vi_goto (t' := 4) C dX6_dropDecided_43 (by decide) ?_
        exact vi_cut [(0, .ref (ad z x 6 (l0))), (1, .ref (ad z x 10 (l1))), (2, .int ((l2 + (1)))), (3, .int ((l3 + (1))))] ⟨rfl, rfl, rfl, rfl, trivial⟩ (ih _ _ _ h _ hR hF)

set_option maxRecDepth 100000 in
set_option maxHeartbeats 4000000 in
theorem p_X6_dropDecided {N : Nat} {M : vC} {R : vC} {a0 : Nat} {a1 : Nat} (ha0 : a0 < N) (ha1 : a1 < N) (h : F_X6_dropDecided N M a0 a1 = some R) {E : vE} {S0 : vS} {z x d0 : Nat} (hR : RC S0 z x N d0 M) : vi_Met E yX6_dropDecided cX6_dropDecided 4 none 1 0 0 [.ref (ad z x 6 (a0)), .ref (ad z x 10 (a1))] S0 (cz M) (D0 S0 z x N d0 R) := by
  refine vi_met (by decide) (Nat.le_of_ble_eq_true rfl) ?_
  intro X C
  have hF := cF.refl S0 z x N d0
  unfold F_X6_dropDecided at h
  refine vi_iconst (v := 0) C dX6_dropDecided_0 rfl (by decide) ?_
  refine vi_istore_n C dX6_dropDecided_1 rfl (by decide) ?_
  refine vi_iconst (v := 0) C dX6_dropDecided_2 rfl (by decide) ?_
  refine vi_istore_n C dX6_dropDecided_3 rfl (by decide) ?_
  refine vi_cut [(0, .ref (ad z x 6 (a0))), (1, .ref (ad z x 10 (a1))), (2, .int ((0 : Int32))), (3, .int ((0 : Int32)))] ⟨rfl, rfl, rfl, rfl, trivial⟩ (w_X6_dropDecided_4 ha0 ha1 C ?_ _ _ _ _ h _ hR hF)
  · intro M8 l9 h S hR hF
    refine vi_aload_n C dX6_dropDecided_46 rfl rfl ?_
    refine vi_iload_n C dX6_dropDecided_47 rfl rfl ?_
    refine c_puti (f := 601) (k := 6) (i := a0) C dX6_dropDecided_48 rfl (fpX6_17 _) rfl (by decide) rfl hR hF ha0 h (fun S M10 h hR hF => ?_)
    exact c_ret0 C dX6_dropDecided_51 rfl hR hF ⟨Nat.zero_le _, Nat.zero_le _⟩ h

def F_X10_base (N : Nat) (M : vC) (a0 : Nat) : Option (vC × Int32) := some (M, ((cI M 1007 (a0)) - (cI M 1009 (a0))))

set_option maxRecDepth 100000 in
set_option maxHeartbeats 4000000 in
theorem p_X10_base {N : Nat} {M : vC} {R : (vC × Int32)} {a0 : Nat} (ha0 : a0 < N) (h : F_X10_base N M a0 = some R) {E : vE} {S0 : vS} {z x d0 : Nat} (hR : RC S0 z x N d0 M) : vi_Met E yX10_base cX10_base 1 (some .int) 0 0 0 [.ref (ad z x 10 (a0))] S0 (cz M) (D1 S0 z x N d0 R) := by
  refine vi_met (by decide) (Nat.le_of_ble_eq_true rfl) ?_
  intro X C
  have hF := cF.refl S0 z x N d0
  unfold F_X10_base at h
  refine vi_aload_n C dX10_base_0 rfl rfl ?_
  refine c_geti (f := 1007) (k := 10) (i := a0) C dX10_base_1 rfl fX10_37 rfl (by decide) rfl hR ha0 ?_
  refine vi_aload_n C dX10_base_4 rfl rfl ?_
  refine c_geti (f := 1009) (k := 10) (i := a0) C dX10_base_5 rfl fX10_43 rfl (by decide) rfl hR ha0 ?_
  refine vi_isub C dX10_base_8 rfl ?_
  exact c_ret1 C dX10_base_9 rfl hR hF ⟨Nat.zero_le _, Nat.zero_le _⟩ h

def F_X7_tell (N : Nat) (M : vC) (a0 : Nat) (a1 : Int32) : Option (vC × Int32) := if a1 = 1 then (some (M, (cI M 1007 (a0)))) else if a1 = 2 then (some (M, (cI M 1008 (a0)))) else if a1 = 3 then (b2 (F_X10_base N M (a0)) fun M4 v5 => some (M4, v5)) else if a1 = 4 then (some (M, (cI M 712 (a0)))) else if a1 = 5 then (lt1 (cP M 713 (a0)) fun v8 => oc (v8) (some (M, (-1 : Int32))) (fun o9 => some (M, (cI M 714 (a0))))) else if a1 = 6 then (some (M, (cI M 400 (a0)))) else if a1 = 7 then (some (M, (cI M 401 (a0)))) else if a1 = 8 then (some (M, (cI M 402 (a0)))) else if a1 = 9 then (some (M, (cI M 715 (a0)))) else if a1 = 10 then (some (M, (cI M 601 (a0)))) else if a1 = 11 then (lt1 (cP M 403 (a0)) fun v16 => oc (v16) (some (M, (-1 : Int32))) (fun o17 => lt1 (cP M 403 (a0)) fun v18 => (v18).bind fun o19 => gd (cK M (o19) = 9) <| some (M, (cI M 800 (o19))))) else if a1 = 12 then (some (M, (cI M 716 (a0)))) else if a1 = 13 then (some (M, (cI M 501 (a0)))) else if a1 = 14 then (some (M, (cI M 502 (a0)))) else (some (M, (-1 : Int32)))

set_option maxRecDepth 100000 in
set_option maxHeartbeats 4000000 in
theorem p_X7_tell {N : Nat} {M : vC} {R : (vC × Int32)} {a0 : Nat} {a1 : Int32} (ha0 : a0 < N) (h : F_X7_tell N M a0 a1 = some R) {E : vE} {S0 : vS} {z x d0 : Nat} (hR : RC S0 z x N d0 M) : vi_Met E yX7_tell cX7_tell 2 (some .int) 1 0 0 [.ref (ad z x 7 (a0)), .int (a1)] S0 (cz M) (D1 S0 z x N d0 R) := by
  refine vi_met (by decide) (Nat.le_of_ble_eq_true rfl) ?_
  intro X C
  have hF := cF.refl S0 z x N d0
  unfold F_X7_tell at h
  refine vi_iload_n C dX7_tell_0 rfl rfl ?_
  by_cases c2 : a1 = 1
  · replace h := iT c2 h
    refine vi_tswI (v := 1) (t' := 72) C c2 dX7_tell_1 (by decide) (by decide) rfl (by decide) ?_
    refine vi_aload_n C dX7_tell_72 rfl rfl ?_
    refine c_gets (f := 703) (k := 7) (i := a0) C dX7_tell_73 rfl fX7_46 rfl (by decide) rfl hR ha0 rfl ?_
    refine c_geti (f := 1007) (k := 10) (i := a0) C dX7_tell_76 rfl fX7_66 rfl (by decide) rfl hR ha0 ?_
    exact c_ret1 C dX7_tell_79 rfl hR hF ⟨Nat.zero_le _, Nat.zero_le _⟩ h
  replace h := iN c2 h
  by_cases c3 : a1 = 2
  · replace h := iT c3 h
    refine vi_tswI (v := 2) (t' := 80) C c3 dX7_tell_1 (by decide) (by decide) rfl (by decide) ?_
    refine vi_aload_n C dX7_tell_80 rfl rfl ?_
    refine c_gets (f := 703) (k := 7) (i := a0) C dX7_tell_81 rfl fX7_46 rfl (by decide) rfl hR ha0 rfl ?_
    refine c_geti (f := 1008) (k := 10) (i := a0) C dX7_tell_84 rfl fX7_71 rfl (by decide) rfl hR ha0 ?_
    exact c_ret1 C dX7_tell_87 rfl hR hF ⟨Nat.zero_le _, Nat.zero_le _⟩ h
  replace h := iN c3 h
  by_cases c6 : a1 = 3
  · replace h := iT c6 h
    refine vi_tswI (v := 3) (t' := 88) C c6 dX7_tell_1 (by decide) (by decide) rfl (by decide) ?_
    refine vi_aload_n C dX7_tell_88 rfl rfl ?_
    refine c_gets (f := 703) (k := 7) (i := a0) C dX7_tell_89 rfl fX7_46 rfl (by decide) rfl hR ha0 rfl ?_
    refine c_cv1 (kc := 10) (a := (ad z x 10 (a0))) C [] [] dX7_tell_92 rfl ivX7_74 imX10_base rfl rfl (rcK hR ha0) hR hF h (fun _ e => p_X10_base ha0 e hR) rfl (Nat.le_of_ble_eq_true rfl) ⟨by decide, by decide⟩ ⟨Nat.le_refl _, Nat.le_refl _⟩ (fun S M4 v5 h hR hF => ?_)
    exact c_ret1 C dX7_tell_95 rfl hR hF ⟨Nat.zero_le _, Nat.zero_le _⟩ h
  replace h := iN c6 h
  by_cases c7 : a1 = 4
  · replace h := iT c7 h
    refine vi_tswI (v := 4) (t' := 96) C c7 dX7_tell_1 (by decide) (by decide) rfl (by decide) ?_
    refine vi_aload_n C dX7_tell_96 rfl rfl ?_
    refine c_geti (f := 712) (k := 7) (i := a0) C dX7_tell_97 rfl fX7_78 rfl (by decide) rfl hR ha0 ?_
    exact c_ret1 C dX7_tell_100 rfl hR hF ⟨Nat.zero_le _, Nat.zero_le _⟩ h
  replace h := iN c7 h
  by_cases c10 : a1 = 5
  · replace h := iT c10 h
    refine vi_tswI (v := 5) (t' := 101) C c10 dX7_tell_1 (by decide) (by decide) rfl (by decide) ?_
    refine vi_aload_n C dX7_tell_101 rfl rfl ?_
    refine c_getpL (f := 713) (k := 7) (i := a0) C dX7_tell_102 rfl fX7_81 rfl (by decide) rfl hR ha0 rfl h (fun v8 h => ?_)
    rcases oco h with ⟨rfl, hh⟩ | ⟨o9, rfl, hh⟩
    · replace h := hh
      clear hh
      refine vi_ifnonnull (o := none) (t' := 112) C dX7_tell_105 rfl (by decide) (fun e => absurd rfl e) (fun _ => ?_)
      refine vi_iconst (v := -1) C dX7_tell_108 rfl (by decide) ?_
      refine vi_goto (t' := 116) C dX7_tell_109 (by decide) ?_
      exact c_ret1 C dX7_tell_116 rfl hR hF ⟨Nat.zero_le _, Nat.zero_le _⟩ h
    · replace h := hh
      clear hh
      refine vi_ifnonnull (o := (some (o9))) (t' := 112) C dX7_tell_105 rfl (by decide) (fun _ => ?_) (fun e => by cases e)
      refine vi_aload_n C dX7_tell_112 rfl rfl ?_
      refine c_geti (f := 714) (k := 7) (i := a0) C dX7_tell_113 rfl fX7_85 rfl (by decide) rfl hR ha0 ?_
      exact c_ret1 C dX7_tell_116 rfl hR hF ⟨Nat.zero_le _, Nat.zero_le _⟩ h
  replace h := iN c10 h
  by_cases c11 : a1 = 6
  · replace h := iT c11 h
    refine vi_tswI (v := 6) (t' := 117) C c11 dX7_tell_1 (by decide) (by decide) rfl (by decide) ?_
    refine vi_aload_n C dX7_tell_117 rfl rfl ?_
    refine c_gets (f := 707) (k := 7) (i := a0) C dX7_tell_118 rfl fX7_28 rfl (by decide) rfl hR ha0 rfl ?_
    refine c_geti (f := 400) (k := 4) (i := a0) C dX7_tell_121 rfl fX7_88 rfl (by decide) rfl hR ha0 ?_
    exact c_ret1 C dX7_tell_124 rfl hR hF ⟨Nat.zero_le _, Nat.zero_le _⟩ h
  replace h := iN c11 h
  by_cases c12 : a1 = 7
  · replace h := iT c12 h
    refine vi_tswI (v := 7) (t' := 125) C c12 dX7_tell_1 (by decide) (by decide) rfl (by decide) ?_
    refine vi_aload_n C dX7_tell_125 rfl rfl ?_
    refine c_gets (f := 707) (k := 7) (i := a0) C dX7_tell_126 rfl fX7_28 rfl (by decide) rfl hR ha0 rfl ?_
    refine c_geti (f := 401) (k := 4) (i := a0) C dX7_tell_129 rfl fX7_91 rfl (by decide) rfl hR ha0 ?_
    exact c_ret1 C dX7_tell_132 rfl hR hF ⟨Nat.zero_le _, Nat.zero_le _⟩ h
  replace h := iN c12 h
  by_cases c13 : a1 = 8
  · replace h := iT c13 h
    refine vi_tswI (v := 8) (t' := 133) C c13 dX7_tell_1 (by decide) (by decide) rfl (by decide) ?_
    refine vi_aload_n C dX7_tell_133 rfl rfl ?_
    refine c_gets (f := 707) (k := 7) (i := a0) C dX7_tell_134 rfl fX7_28 rfl (by decide) rfl hR ha0 rfl ?_
    refine c_geti (f := 402) (k := 4) (i := a0) C dX7_tell_137 rfl fX7_94 rfl (by decide) rfl hR ha0 ?_
    exact c_ret1 C dX7_tell_140 rfl hR hF ⟨Nat.zero_le _, Nat.zero_le _⟩ h
  replace h := iN c13 h
  by_cases c14 : a1 = 9
  · replace h := iT c14 h
    refine vi_tswI (v := 9) (t' := 141) C c14 dX7_tell_1 (by decide) (by decide) rfl (by decide) ?_
    refine vi_aload_n C dX7_tell_141 rfl rfl ?_
    refine c_geti (f := 715) (k := 7) (i := a0) C dX7_tell_142 rfl fX7_97 rfl (by decide) rfl hR ha0 ?_
    exact c_ret1 C dX7_tell_145 rfl hR hF ⟨Nat.zero_le _, Nat.zero_le _⟩ h
  replace h := iN c14 h
  by_cases c15 : a1 = 10
  · replace h := iT c15 h
    refine vi_tswI (v := 10) (t' := 146) C c15 dX7_tell_1 (by decide) (by decide) rfl (by decide) ?_
    refine vi_aload_n C dX7_tell_146 rfl rfl ?_
    refine c_gets (f := 705) (k := 7) (i := a0) C dX7_tell_147 rfl fX7_12 rfl (by decide) rfl hR ha0 rfl ?_
    refine c_geti (f := 601) (k := 6) (i := a0) C dX7_tell_150 rfl fX7_100 rfl (by decide) rfl hR ha0 ?_
    exact c_ret1 C dX7_tell_153 rfl hR hF ⟨Nat.zero_le _, Nat.zero_le _⟩ h
  replace h := iN c15 h
  by_cases c21 : a1 = 11
  · replace h := iT c21 h
    refine vi_tswI (v := 11) (t' := 154) C c21 dX7_tell_1 (by decide) (by decide) rfl (by decide) ?_
    refine vi_aload_n C dX7_tell_154 rfl rfl ?_
    refine c_gets (f := 707) (k := 7) (i := a0) C dX7_tell_155 rfl fX7_28 rfl (by decide) rfl hR ha0 rfl ?_
    refine c_getpL (f := 403) (k := 4) (i := a0) C dX7_tell_158 rfl fX7_103 rfl (by decide) rfl hR ha0 rfl h (fun v16 h => ?_)
    rcases oco h with ⟨rfl, hh⟩ | ⟨o17, rfl, hh⟩
    · replace h := hh
      clear hh
      refine vi_ifnonnull (o := none) (t' := 168) C dX7_tell_161 rfl (by decide) (fun e => absurd rfl e) (fun _ => ?_)
      refine vi_iconst (v := -1) C dX7_tell_164 rfl (by decide) ?_
      refine vi_goto (t' := 178) C dX7_tell_165 (by decide) ?_
      exact c_ret1 C dX7_tell_178 rfl hR hF ⟨Nat.zero_le _, Nat.zero_le _⟩ h
    · replace h := hh
      clear hh
      refine vi_ifnonnull (o := (some (o17))) (t' := 168) C dX7_tell_161 rfl (by decide) (fun _ => ?_) (fun e => by cases e)
      refine vi_aload_n C dX7_tell_168 rfl rfl ?_
      refine c_gets (f := 707) (k := 7) (i := a0) C dX7_tell_169 rfl fX7_28 rfl (by decide) rfl hR ha0 rfl ?_
      refine c_getpL (f := 403) (k := 4) (i := a0) C dX7_tell_172 rfl fX7_103 rfl (by decide) rfl hR ha0 rfl h (fun v18 h => ?_)
      obtain ⟨o19, rfl, hh⟩ := bdo h
      replace h := hh
      clear hh
      obtain ⟨c20, h⟩ := gdo h
      refine c_getiD (f := 800) C dX7_tell_175 rfl fX7_106 rfl (by decide) rfl hR c20 ?_
      exact c_ret1 C dX7_tell_178 rfl hR hF ⟨Nat.zero_le _, Nat.zero_le _⟩ h
  replace h := iN c21 h
  by_cases c22 : a1 = 12
  · replace h := iT c22 h
    refine vi_tswI (v := 12) (t' := 179) C c22 dX7_tell_1 (by decide) (by decide) rfl (by decide) ?_
    refine vi_aload_n C dX7_tell_179 rfl rfl ?_
    refine c_geti (f := 716) (k := 7) (i := a0) C dX7_tell_180 rfl fX7_111 rfl (by decide) rfl hR ha0 ?_
    exact c_ret1 C dX7_tell_183 rfl hR hF ⟨Nat.zero_le _, Nat.zero_le _⟩ h
  replace h := iN c22 h
  by_cases c23 : a1 = 13
  · replace h := iT c23 h
    refine vi_tswI (v := 13) (t' := 184) C c23 dX7_tell_1 (by decide) (by decide) rfl (by decide) ?_
    refine vi_aload_n C dX7_tell_184 rfl rfl ?_
    refine c_gets (f := 706) (k := 7) (i := a0) C dX7_tell_185 rfl fX7_21 rfl (by decide) rfl hR ha0 rfl ?_
    refine c_geti (f := 501) (k := 5) (i := a0) C dX7_tell_188 rfl fX7_114 rfl (by decide) rfl hR ha0 ?_
    exact c_ret1 C dX7_tell_191 rfl hR hF ⟨Nat.zero_le _, Nat.zero_le _⟩ h
  replace h := iN c23 h
  by_cases c24 : a1 = 14
  · replace h := iT c24 h
    refine vi_tswI (v := 14) (t' := 192) C c24 dX7_tell_1 (by decide) (by decide) rfl (by decide) ?_
    refine vi_aload_n C dX7_tell_192 rfl rfl ?_
    refine c_gets (f := 706) (k := 7) (i := a0) C dX7_tell_193 rfl fX7_21 rfl (by decide) rfl hR ha0 rfl ?_
    refine c_geti (f := 502) (k := 5) (i := a0) C dX7_tell_196 rfl fX7_115 rfl (by decide) rfl hR ha0 ?_
    exact c_ret1 C dX7_tell_199 rfl hR hF ⟨Nat.zero_le _, Nat.zero_le _⟩ h
  replace h := iN c24 h
  have tc2 := tne (w := 1) c2 (by decide)
  have tc3 := tne (w := 2) c3 (by decide)
  have tc6 := tne (w := 3) c6 (by decide)
  have tc7 := tne (w := 4) c7 (by decide)
  have tc10 := tne (w := 5) c10 (by decide)
  have tc11 := tne (w := 6) c11 (by decide)
  have tc12 := tne (w := 7) c12 (by decide)
  have tc13 := tne (w := 8) c13 (by decide)
  have tc14 := tne (w := 9) c14 (by decide)
  have tc15 := tne (w := 10) c15 (by decide)
  have tc21 := tne (w := 11) c21 (by decide)
  have tc22 := tne (w := 12) c22 (by decide)
  have tc23 := tne (w := 13) c23 (by decide)
  have tc24 := tne (w := 14) c24 (by decide)
  refine vi_tswO (t' := 200) C dX7_tell_1 (by omega) (by decide) ?_
  refine vi_iconst (v := -1) C dX7_tell_200 rfl (by decide) ?_
  exact c_ret1 C dX7_tell_201 rfl hR hF ⟨Nat.zero_le _, Nat.zero_le _⟩ h

def F_X9_end (N : Nat) (M : vC) (a0 : Nat) (a1 : Int32) : Option vC := lt1 (uI M 901 (a0) (a1)) fun M1 => lt1 (uI M1 903 (a0) ((-1 : Int32))) fun M2 => some M2

set_option maxRecDepth 100000 in
set_option maxHeartbeats 4000000 in
theorem p_X9_end {N : Nat} {M : vC} {R : vC} {a0 : Nat} {a1 : Int32} (ha0 : a0 < 16) (h : F_X9_end N M a0 a1 = some R) {E : vE} {S0 : vS} {z x d0 : Nat} (hR : RC S0 z x N d0 M) : vi_Met E yX9_end cX9_end 2 none 0 0 0 [.ref (ad z x 9 (a0)), .int (a1)] S0 (cz M) (D0 S0 z x N d0 R) := by
  refine vi_met (by decide) (Nat.le_of_ble_eq_true rfl) ?_
  intro X C
  have hF := cF.refl S0 z x N d0
  unfold F_X9_end at h
  refine vi_aload_n C dX9_end_0 rfl rfl ?_
  refine vi_iload_n C dX9_end_1 rfl rfl ?_
  refine c_puti (f := 901) (k := 9) (i := a0) C dX9_end_2 rfl (fpX9_15 _) rfl (by decide) rfl hR hF ha0 h (fun S M1 h hR hF => ?_)
  refine vi_aload_n C dX9_end_5 rfl rfl ?_
  refine vi_iconst (v := -1) C dX9_end_6 rfl (by decide) ?_
  refine c_puti (f := 903) (k := 9) (i := a0) C dX9_end_7 rfl (fpX9_19 _) rfl (by decide) rfl hR hF ha0 h (fun S M2 h hR hF => ?_)
  exact c_ret0 C dX9_end_10 rfl hR hF ⟨Nat.zero_le _, Nat.zero_le _⟩ h

def L_X7_goDown_7 {ρ : Type} (N : Nat) (l0 : Nat) (kx58 : vC → Option ρ) : Nat → vC → Int32 → Option ρ
  | 0, _, _ => none
  | f + 1, M, l1 => if (16 : Int32) ≤ l1 then (kx58 M ) else ((ix 16 (l1)).bind fun v2 => if (cI M 901 (v2)) = (1 : Int32) then ((ix 16 (l1)).bind fun v4 => if (cI M 903 (v4)) = (cI M 700 (l0)) then ((ix 16 (l1)).bind fun v6 => (F_X9_end N M (v6) ((4 : Int32))).bind fun M8 => L_X7_goDown_7 N l0 kx58 f M8 ((l1 + (1)))) else (L_X7_goDown_7 N l0 kx58 f M ((l1 + (1))))) else (L_X7_goDown_7 N l0 kx58 f M ((l1 + (1)))))

def F_X7_goDown (N : Nat) (M : vC) (a0 : Nat) : Option vC := zb ((0 : Int32)) <| lt1 (uI M 711 (a0) ((0 : Int32))) fun M1 => L_X7_goDown_7 N (a0) (fun (M12 : vC)  => some M12) fu M1 ((0 : Int32))

set_option maxRecDepth 100000 in
set_option maxHeartbeats 4000000 in
theorem w_X7_goDown_7 {E : vE} {X : vX} {S0 : vS} {z x N d0 : Nat} {ρ : Type} {R : ρ} {Z : State → Prop} {l0 : Nat} {kx58 : vC → Option ρ} (hl0 : l0 < N) (C : vi_C E X yX7_goDown cX7_goDown 2 none 1 0 0 (45 * 1)) (hx58 : ∀ (M : vC) , kx58 M  = some R → ∀ S, RC S z x N d0 M → cF S0 S z x N d0 → vi_W E X 2 Z 58 [] [] S (cz M) 0 0) : ∀ (f : Nat) (M : vC) (l1 : Int32), L_X7_goDown_7 N l0 kx58 f M l1 = some R → ∀ S, RC S z x N d0 M → cF S0 S z x N d0 → vi_W E X 2 Z 7 [(0, .ref (ad z x 7 (l0))), (1, .int (l1))] [] S (cz M) 0 0 := by
  intro f
  induction f with
  | zero => intro M l1 h; cases h
  | succ f ih =>
    intro M l1 h S hR hF
    rw [L_X7_goDown_7] at h
    refine vi_iload_n C dX7_goDown_7 rfl rfl ?_
    refine vi_bipush (v := 16) C dX7_goDown_8 rfl (by decide) ?_
    refine vi_icmp_ge (t' := 58) C dX7_goDown_10 rfl (by decide) (fun c11 => ?_) (fun c11 => ?_)
    · replace h := iT c11 h
      exact (vi_cut [] trivial (hx58 _  h _ hR hF))
    · replace h := iN c11 h
      refine vi_aload_n C dX7_goDown_13 rfl rfl ?_
      refine c_gets (f := 709) (k := 7) (i := l0) C dX7_goDown_14 rfl fX7_58 rfl (by decide) rfl hR hl0 rfl ?_
      refine vi_iload_n C dX7_goDown_17 rfl rfl ?_
      refine c_aaloadS C dX7_goDown_18 rfl hR h (fun v2 c3 h => ?_)
      refine c_geti (f := 901) (k := 9) (i := v2) C dX7_goDown_19 rfl fX7_118 rfl (by decide) rfl hR c3 ?_
      refine vi_iconst (v := 1) C dX7_goDown_22 rfl (by decide) ?_
      refine vi_icmp_ne (t' := 52) C dX7_goDown_23 rfl (by decide) (fun c10 => ?_) (fun c10 => ?_)
      · replace h := iN c10 h
        refine vi_iincv (v := 1) C dX7_goDown_52 rfl rfl (by decide) (by decide) ?_
        refine vi_goto (t' := 7) C dX7_goDown_55 (by decide) ?_
        exact vi_cut [(0, .ref (ad z x 7 (l0))), (1, .int ((l1 + (1))))] ⟨rfl, rfl, trivial⟩ (ih _ _ h _ hR hF)
      · replace h := iT c10 h
        refine vi_aload_n C dX7_goDown_26 rfl rfl ?_
        refine c_gets (f := 709) (k := 7) (i := l0) C dX7_goDown_27 rfl fX7_58 rfl (by decide) rfl hR hl0 rfl ?_
        refine vi_iload_n C dX7_goDown_30 rfl rfl ?_
        refine c_aaloadS C dX7_goDown_31 rfl hR h (fun v4 c5 h => ?_)
        refine c_geti (f := 903) (k := 9) (i := v4) C dX7_goDown_32 rfl fX7_123 rfl (by decide) rfl hR c5 ?_
        refine vi_aload_n C dX7_goDown_35 rfl rfl ?_
        refine c_geti (f := 700) (k := 7) (i := l0) C dX7_goDown_36 rfl fX7_36 rfl (by decide) rfl hR hl0 ?_
        refine vi_icmp_ne (t' := 52) C dX7_goDown_39 rfl (by decide) (fun c9 => ?_) (fun c9 => ?_)
        · replace h := iN c9 h
          refine vi_iincv (v := 1) C dX7_goDown_52 rfl rfl (by decide) (by decide) ?_
          refine vi_goto (t' := 7) C dX7_goDown_55 (by decide) ?_
          exact vi_cut [(0, .ref (ad z x 7 (l0))), (1, .int ((l1 + (1))))] ⟨rfl, rfl, trivial⟩ (ih _ _ h _ hR hF)
        · replace h := iT c9 h
          refine vi_aload_n C dX7_goDown_42 rfl rfl ?_
          refine c_gets (f := 709) (k := 7) (i := l0) C dX7_goDown_43 rfl fX7_58 rfl (by decide) rfl hR hl0 rfl ?_
          refine vi_iload_n C dX7_goDown_46 rfl rfl ?_
          refine c_aaloadS C dX7_goDown_47 rfl hR h (fun v6 c7 h => ?_)
          refine vi_iconst (v := 4) C dX7_goDown_48 rfl (by decide) ?_
          refine c_cv0 (kc := 9) (a := (ad z x 9 (v6))) C [.int ((4 : Int32))] [] dX7_goDown_49 rfl ivX7_126 imX9_end rfl rfl (rcK hR c7) hR hF h (fun _ e => p_X9_end c7 e hR) rfl (Nat.le_of_ble_eq_true rfl) ⟨by decide, by decide⟩ ⟨Nat.le_refl _, Nat.le_refl _⟩ (fun S M8 h hR hF => ?_)
          refine vi_iincv (v := 1) C dX7_goDown_52 rfl rfl (by decide) (by decide) ?_
          refine vi_goto (t' := 7) C dX7_goDown_55 (by decide) ?_
          exact vi_cut [(0, .ref (ad z x 7 (l0))), (1, .int ((l1 + (1))))] ⟨rfl, rfl, trivial⟩ (ih _ _ h _ hR hF)

set_option maxRecDepth 100000 in
set_option maxHeartbeats 4000000 in
theorem p_X7_goDown {N : Nat} {M : vC} {R : vC} {a0 : Nat} (ha0 : a0 < N) (h : F_X7_goDown N M a0 = some R) {E : vE} {S0 : vS} {z x d0 : Nat} (hR : RC S0 z x N d0 M) : vi_Met E yX7_goDown cX7_goDown 2 none 1 0 0 [.ref (ad z x 7 (a0))] S0 (cz M) (D0 S0 z x N d0 R) := by
  refine vi_met (by decide) (Nat.le_of_ble_eq_true rfl) ?_
  intro X C
  have hF := cF.refl S0 z x N d0
  unfold F_X7_goDown at h
  refine vi_aload_n C dX7_goDown_0 rfl rfl ?_
  refine vi_iconst (v := 0) C dX7_goDown_1 rfl (by decide) ?_
  refine c_putz (f := 711) (k := 7) (i := a0) C dX7_goDown_2 rfl (fpX7_32 _) rfl (by decide) rfl hR hF ha0 h (fun S M1 h hR hF => ?_)
  refine vi_iconst (v := 0) C dX7_goDown_5 rfl (by decide) ?_
  refine vi_istore_n C dX7_goDown_6 rfl (by decide) ?_
  refine vi_cut [(0, .ref (ad z x 7 (a0))), (1, .int ((0 : Int32)))] ⟨rfl, rfl, trivial⟩ (w_X7_goDown_7 ha0 C ?_ _ _ _ h _ hR hF)
  · intro M12 h S hR hF
    exact c_ret0 C dX7_goDown_58 rfl hR hF ⟨Nat.zero_le _, Nat.zero_le _⟩ h
