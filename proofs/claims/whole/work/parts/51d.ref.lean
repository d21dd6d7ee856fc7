def L_X12_help_73 {ρ : Type}  (l1 : Int32) (l2 : Int32) (l4 : Int32) (kx109 : vM → Option ρ) : Nat → vM → Int32 → Option ρ
  | 0, _, _ => none
  | f + 1, M, l5 => if l4 ≤ l5 then (kx109 M ) else (lt1 (mW M 50 (l5)) fun M13 => (mG M13 7 (l1)).bind fun v14 => (F_X12_send M13 ((8 : Int32)) (l1) (l2) ((0 : Int32)) (v14) ((0 : Int32)) ((0 : Int32))).bind fun M15 => L_X12_help_73 l1 l2 l4 kx109 f M15 ((l5 + (1))))

def F_X12_help (M : vM) (a1 : Int32) (a2 : Int32) (a3 : Int32) : Option vM := (mG M 9 (a1)).bind fun v1 => jn (fun (u : Unit) => (F_X12_store M (a1) (37) ((0 : Int32))).bind fun M10 => b2 (F_X12_layWhole M10 (37) ((0 : Int32))) fun M11 v12 => L_X12_help_73 (a1) (a2) (((v12 + (63 : Int32)) / (64 : Int32))) (fun (M17 : vM)  => some M17) fu M11 ((0 : Int32))) (fun k43_2 => if a3 ≤ v1 then ((k43_2 (()))) else ((mG M 7 (a1)).bind fun v3 => if v3 < a3 then ((k43_2 (()))) else (b2 (F_X12_at M (a1) (a3)) fun M4 v5 => (mG M4 16 (v5)).bind fun v6 => (F_X12_send M4 ((5 : Int32)) (a1) (a2) ((0 : Int32)) (a3) (v6) ((0 : Int32))).bind fun M7 => some M7)))

set_option maxRecDepth 100000 in
set_option maxHeartbeats 4000000 in
theorem w_X12_help_73 {E : vE} {X : vX} {S0 : vS} {sz m b : Nat} {ρ : Type} {R : ρ} {Z : State → Prop} {l1 : Int32} {l2 : Int32} {l4 : Int32} {kx109 : vM → Option ρ} (C : vi_C E X yX12_help cX12_help 6 none 5 0 0 (45 * 5)) (hx109 : ∀ (M : vM) , kx109 M  = some R → ∀ S, RM S sz m b M → rF S0 S m b → vi_W E X 6 Z 109 [] [] S sz 0 0) : ∀ (f : Nat) (M : vM) (l5 : Int32), L_X12_help_73 l1 l2 l4 kx109 f M l5 = some R → ∀ S, RM S sz m b M → rF S0 S m b → vi_W E X 6 Z 73 [(0, .ref m), (1, .int (l1)), (2, .int (l2)), (4, .int (l4)), (5, .int (l5))] [] S sz 0 0 := by
  intro f
  induction f with
  | zero => intro M l5 h; cases h
  | succ f ih =>
    intro M l5 h S hR hF
    rw [L_X12_help_73] at h
    refine vi_iload C dX12_help_73 rfl rfl ?_
    refine vi_iload C dX12_help_75 rfl rfl ?_
    refine vi_icmp_ge (t' := 109) C dX12_help_77 rfl (by decide) (fun c16 => ?_) (fun c16 => ?_)
    · replace h := iT c16 h
      exact vi_cut [] trivial (hx109 _  h _ hR hF)
    · replace h := iN c16 h
      refine vi_aload_n C dX12_help_80 rfl rfl ?_
      refine vi_iload C dX12_help_81 rfl rfl ?_
      refine r_puti C dX12_help_83 rfl (fpX12_296 _) rfl hR hF h (fun S M13 h hR hF => ?_)
      refine vi_aload_n C dX12_help_86 rfl rfl ?_
      refine vi_bipush (v := 8) C dX12_help_87 rfl (by decide) ?_
      refine vi_iload_n C dX12_help_89 rfl rfl ?_
      refine vi_iload_n C dX12_help_90 rfl rfl ?_
      refine vi_iconst (v := 0) C dX12_help_91 rfl (by decide) ?_
      refine vi_aload_n C dX12_help_92 rfl rfl ?_
      refine r_geta C dX12_help_93 rfl fX12_37 rfl hR rfl ?_
      refine vi_iload_n C dX12_help_96 rfl rfl ?_
      refine r_iaload C dX12_help_97 rfl rfl hR h (fun v14 h => ?_)
      refine vi_iconst (v := 0) C dX12_help_98 rfl (by decide) ?_
      refine vi_iconst (v := 0) C dX12_help_99 rfl (by decide) ?_
      refine r_cv0 C [.int ((8 : Int32)), .int (l1), .int (l2), .int ((0 : Int32)), .int (v14), .int ((0 : Int32)), .int ((0 : Int32))] [] dX12_help_100 rfl ivX12_299 imX12_send rfl hR hF h (fun _ e => p_X12_send e hR) rfl (Nat.le_of_ble_eq_true rfl) ⟨by decide, by decide⟩ ⟨Nat.le_refl _, Nat.le_refl _⟩ (fun S M15 h hR hF => ?_)
      refine vi_iincv (v := 1) C dX12_help_103 rfl rfl (by decide) (by decide) ?_
      refine vi_goto (t' := 73) C dX12_help_106 (by decide) ?_
      exact vi_cut [(0, .ref m), (1, .int (l1)), (2, .int (l2)), (4, .int (l4)), (5, .int ((l5 + (1))))] ⟨rfl, rfl, rfl, rfl, rfl, trivial⟩ (ih _ _ h _ hR hF)

set_option maxRecDepth 100000 in
set_option maxHeartbeats 4000000 in
theorem p_X12_help {M : vM} {R : vM} {a1 : Int32} {a2 : Int32} {a3 : Int32} (h : F_X12_help M a1 a2 a3 = some R) {E : vE} {S0 : vS} {sz m b : Nat} (hR : RM S0 sz m b M) : vi_Met E yX12_help cX12_help 6 none 5 0 0 [.ref m, .int (a1), .int (a2), .int (a3)] S0 sz (Q0 S0 sz m b R) := by
  refine vi_met (by decide) (Nat.le_of_ble_eq_true rfl) ?_
  intro X C
  have hF := rF.refl S0 m b
  unfold F_X12_help at h
  refine vi_iload_n C dX12_help_0 rfl rfl ?_
  refine vi_aload_n C dX12_help_1 rfl rfl ?_
  refine r_geta C dX12_help_2 rfl fX12_43 rfl hR rfl ?_
  refine vi_iload_n C dX12_help_5 rfl rfl ?_
  refine r_iaload C dX12_help_6 rfl rfl hR h (fun v1 h => ?_)
  refine r_jn h (fun k => ∀ (u : Unit), k u = some R → ∀ S, RM S sz m b M → rF S0 S m b → vi_W E X 6 (vi_Z E X (Q0 S0 sz m b R) 0 0) 43 [(0, .ref m), (1, .int (a1)), (2, .int (a2))] [] S sz 0 0) ?_ ?_
  · intro u h S hR hF
    refine vi_aload_n C dX12_help_43 rfl rfl ?_
    refine vi_iload_n C dX12_help_44 rfl rfl ?_
    refine vi_aload_n C dX12_help_45 rfl rfl ?_
    refine r_geta C dX12_help_46 rfl fX12_130 rfl hR rfl ?_
    refine vi_iconst (v := 0) C dX12_help_49 rfl (by decide) ?_
    refine r_cv0 C [.int (a1), .ref (b + 37), .int ((0 : Int32))] [] dX12_help_50 rfl ivX12_260 imX12_store rfl hR hF h (fun _ e => p_X12_store e hR) rfl (Nat.le_of_ble_eq_true rfl) ⟨by decide, by decide⟩ ⟨Nat.le_refl _, Nat.le_refl _⟩ (fun S M10 h hR hF => ?_)
    refine vi_aload_n C dX12_help_53 rfl rfl ?_
    refine vi_aload_n C dX12_help_54 rfl rfl ?_
    refine r_geta C dX12_help_55 rfl fX12_130 rfl hR rfl ?_
    refine vi_iconst (v := 0) C dX12_help_58 rfl (by decide) ?_
    refine r_cv1 C [.ref (b + 37), .int ((0 : Int32))] [] dX12_help_59 rfl ivX12_303 imX12_layWhole rfl hR hF h (fun _ e => p_X12_layWhole e hR) rfl (Nat.le_of_ble_eq_true rfl) ⟨by decide, by decide⟩ ⟨Nat.le_refl _, Nat.le_refl _⟩ (fun S M11 v12 h hR hF => ?_)
    refine vi_bipush (v := 63) C dX12_help_62 rfl (by decide) ?_
    refine vi_iadd C dX12_help_64 rfl ?_
    refine vi_bipush (v := 64) C dX12_help_65 rfl (by decide) ?_
    refine vi_idiv C dX12_help_67 rfl (by decide) ?_
    refine vi_istore C dX12_help_68 rfl (by decide) ?_
    refine vi_iconst (v := 0) C dX12_help_70 rfl (by decide) ?_
    refine vi_istore C dX12_help_71 rfl (by decide) ?_
    refine vi_cut [(0, .ref m), (1, .int (a1)), (2, .int (a2)), (4, .int (((v12 + (63 : Int32)) / (64 : Int32)))), (5, .int ((0 : Int32)))] ⟨rfl, rfl, rfl, rfl, rfl, trivial⟩ (w_X12_help_73 C ?_ _ _ _ h _ hR hF)
    · intro M17 h S hR hF
      exact r_ret0 C dX12_help_109 rfl hR hF h
  · intro k43_2 h43_2 h
    refine vi_icmp_le (t' := 43) C dX12_help_7 rfl (by decide) (fun c9 => ?_) (fun c9 => ?_)
    · replace h := iT c9 h
      exact vi_cut [(0, .ref m), (1, .int (a1)), (2, .int (a2))] ⟨rfl, rfl, rfl, trivial⟩ (h43_2 _ h _ hR hF)
    · replace h := iN c9 h
      refine vi_iload_n C dX12_help_10 rfl rfl ?_
      refine vi_aload_n C dX12_help_11 rfl rfl ?_
      refine r_geta C dX12_help_12 rfl fX12_37 rfl hR rfl ?_
      refine vi_iload_n C dX12_help_15 rfl rfl ?_
      refine r_iaload C dX12_help_16 rfl rfl hR h (fun v3 h => ?_)
      refine vi_icmp_gt (t' := 43) C dX12_help_17 rfl (by decide) (fun c8 => ?_) (fun c8 => ?_)
      · replace h := iT c8 h
        exact vi_cut [(0, .ref m), (1, .int (a1)), (2, .int (a2))] ⟨rfl, rfl, rfl, trivial⟩ (h43_2 _ h _ hR hF)
      · replace h := iN c8 h
        refine vi_aload_n C dX12_help_20 rfl rfl ?_
        refine vi_iconst (v := 5) C dX12_help_21 rfl (by decide) ?_
        refine vi_iload_n C dX12_help_22 rfl rfl ?_
        refine vi_iload_n C dX12_help_23 rfl rfl ?_
        refine vi_iconst (v := 0) C dX12_help_24 rfl (by decide) ?_
        refine vi_iload_n C dX12_help_25 rfl rfl ?_
        refine vi_aload_n C dX12_help_26 rfl rfl ?_
        refine r_geta C dX12_help_27 rfl fX12_64 rfl hR rfl ?_
        refine vi_iload_n C dX12_help_30 rfl rfl ?_
        refine vi_iload_n C dX12_help_31 rfl rfl ?_
        refine r_cs1 C [.int (a1), .int (a3)] [.ref (b + 16), .int (a3), .int ((0 : Int32)), .int (a2), .int (a1), .int ((5 : Int32)), .ref m] dX12_help_32 rfl ivX12_211 isX12_at hR hF h (fun _ e => p_X12_at e hR) rfl (Nat.le_of_ble_eq_true rfl) ⟨by decide, by decide⟩ ⟨Nat.le_refl _, Nat.le_refl _⟩ (fun S M4 v5 h hR hF => ?_)
        refine r_iaload C dX12_help_35 rfl rfl hR h (fun v6 h => ?_)
        refine vi_iconst (v := 0) C dX12_help_36 rfl (by decide) ?_
        refine r_cv0 C [.int ((5 : Int32)), .int (a1), .int (a2), .int ((0 : Int32)), .int (a3), .int (v6), .int ((0 : Int32))] [] dX12_help_37 rfl ivX12_299 imX12_send rfl hR hF h (fun _ e => p_X12_send e hR) rfl (Nat.le_of_ble_eq_true rfl) ⟨by decide, by decide⟩ ⟨Nat.le_refl _, Nat.le_refl _⟩ (fun S M7 h hR hF => ?_)
        refine vi_goto (t' := 109) C dX12_help_40 (by decide) ?_
        exact r_ret0 C dX12_help_109 rfl hR hF h

def L_X12_count_4 {ρ : Type}  (l1 : Int32) (kx26 : vM → Int32 → Option ρ) : Nat → vM → Int32 → Int32 → Option ρ
  | 0, _, _, _ => none
  | f + 1, M, l2, l3 => if (M.1 1) ≤ l3 then (kx26 M (l2)) else (L_X12_count_4 l1 kx26 f M ((l2 + ((l1 >>> (l3 &&& 31)) &&& (1 : Int32)))) ((l3 + (1))))

def F_X12_count (M : vM) (a1 : Int32) : Option (vM × Int32) := L_X12_count_4 (a1) (fun (M2 : vM) (l3 : Int32) => some (M2, l3)) fu M ((0 : Int32)) ((0 : Int32))

set_option maxRecDepth 100000 in
set_option maxHeartbeats 4000000 in
theorem w_X12_count_4 {E : vE} {X : vX} {S0 : vS} {sz m b : Nat} {ρ : Type} {R : ρ} {Z : State → Prop} {l1 : Int32} {kx26 : vM → Int32 → Option ρ} (C : vi_C E X yX12_count cX12_count 4 (some .int) 0 0 0 (45 * 0)) (hx26 : ∀ (M : vM) (l2 : Int32), kx26 M l2 = some R → ∀ S, RM S sz m b M → rF S0 S m b → vi_W E X 4 Z 26 [(2, .int (l2))] [] S sz 0 0) : ∀ (f : Nat) (M : vM) (l2 : Int32) (l3 : Int32), L_X12_count_4 l1 kx26 f M l2 l3 = some R → ∀ S, RM S sz m b M → rF S0 S m b → vi_W E X 4 Z 4 [(0, .ref m), (1, .int (l1)), (2, .int (l2)), (3, .int (l3))] [] S sz 0 0 := by
  intro f
  induction f with
  | zero => intro M l2 l3 h; cases h
  | succ f ih =>
    intro M l2 l3 h S hR hF
    rw [L_X12_count_4] at h
    refine vi_iload_n C dX12_count_4 rfl rfl ?_
    refine vi_aload_n C dX12_count_5 rfl rfl ?_
    refine r_geti C dX12_count_6 rfl fX12_184 rfl hR ?_
    refine vi_icmp_ge (t' := 26) C dX12_count_9 rfl (by decide) (fun c1 => ?_) (fun c1 => ?_)
    · replace h := iT c1 h
      exact vi_cut [(2, .int (l2))] ⟨rfl, trivial⟩ (hx26 _ _ h _ hR hF)
    · replace h := iN c1 h
      refine vi_iload_n C dX12_count_12 rfl rfl ?_
      refine vi_iload_n C dX12_count_13 rfl rfl ?_
      refine vi_iload_n C dX12_count_14 rfl rfl ?_
      refine vi_ishr C dX12_count_15 rfl ?_
      refine vi_iconst (v := 1) C dX12_count_16 rfl (by decide) ?_
      refine vi_iand C dX12_count_17 rfl ?_
      refine vi_iadd C dX12_count_18 rfl ?_
      refine vi_istore_n C dX12_count_19 rfl (by decide) ?_
      refine vi_iincv (v := 1) C dX12_count_20 rfl rfl (by decide) (by decide) ?_
      refine vi_goto (t' := 4) C dX12_count_23 (by decide) ?_
      exact vi_cut [(0, .ref m), (1, .int (l1)), (2, .int ((l2 + ((l1 >>> (l3 &&& 31)) &&& (1 : Int32))))), (3, .int ((l3 + (1))))] ⟨rfl, rfl, rfl, rfl, trivial⟩ (ih _ _ _ h _ hR hF)

set_option maxRecDepth 100000 in
set_option maxHeartbeats 4000000 in
theorem p_X12_count {M : vM} {R : (vM × Int32)} {a1 : Int32} (h : F_X12_count M a1 = some R) {E : vE} {S0 : vS} {sz m b : Nat} (hR : RM S0 sz m b M) : vi_Met E yX12_count cX12_count 4 (some .int) 0 0 0 [.ref m, .int (a1)] S0 sz (Q1 S0 sz m b R) := by
  refine vi_met (by decide) (Nat.le_of_ble_eq_true rfl) ?_
  intro X C
  have hF := rF.refl S0 m b
  unfold F_X12_count at h
  refine vi_iconst (v := 0) C dX12_count_0 rfl (by decide) ?_
  refine vi_istore_n C dX12_count_1 rfl (by decide) ?_
  refine vi_iconst (v := 0) C dX12_count_2 rfl (by decide) ?_
  refine vi_istore_n C dX12_count_3 rfl (by decide) ?_
  refine vi_cut [(0, .ref m), (1, .int (a1)), (2, .int ((0 : Int32))), (3, .int ((0 : Int32)))] ⟨rfl, rfl, rfl, rfl, trivial⟩ (w_X12_count_4 C ?_ _ _ _ _ h _ hR hF)
  · intro M2 l3 h S hR hF
    refine vi_iload_n C dX12_count_26 rfl rfl ?_
    exact r_ret1 C dX12_count_27 rfl hR hF h

def F_X12_prepared (M : vM) (a1 : Int32) (a2 : Int32) (a3 : Int32) (a4 : Int32) : Option vM := (mG M 7 (a1)).bind fun v1 => if v1 < a4 then ((mG M 10 (a1)).bind fun v2 => if v2 ≤ a3 then ((mG M 10 (a1)).bind fun v3 => jn (fun (M13 : vM) => (F_X12_follow M13 (a1)).bind fun M14 => (mG M14 7 (a1)).bind fun v15 => jn (fun (s0_120 : Int32) => jn (fun (s6_144 : Int32) => if s0_120 = 0 then ((F_X12_send M14 ((2 : Int32)) (a1) (a2) (a3) (a4) (s6_144) ((0 : Int32))).bind fun M23 => some M23) else ((mG M14 11 (a1)).bind fun v24 => (F_X12_send M14 ((2 : Int32)) (a1) (a2) (a3) (a4) (s6_144) (v24)).bind fun M25 => some M25)) (fun k144_20 => if s0_120 = 0 then ((k144_20 ((0 : Int32)))) else ((mG M14 12 (a1)).bind fun v21 => (k144_20 (v21))))) (fun k120_16 => if a4 = (v15 + (1 : Int32)) then ((mG M14 12 (a1)).bind fun v17 => if v17 ≤ 0 then ((k120_16 ((0 : Int32)))) else ((k120_16 ((1 : Int32))))) else ((k120_16 ((0 : Int32)))))) (fun k88_4 => if a3 ≤ v3 then ((k88_4 (M))) else (b2 (F_X12_notePromise M (a1) (a3)) fun M5 v6 => if v6 = 0 then (some M5) else ((mS M5 10 (a1) (a3)).bind fun M7 => b2 (F_X12_checkpoint M7 (a1)) fun M8 v9 => if v9 = 0 then (some M8) else ((k88_4 (M8))))))) else ((mG M 10 (a1)).bind fun v27 => (F_X12_send M ((7 : Int32)) (a1) (a2) (v27) ((0 : Int32)) ((0 : Int32)) ((0 : Int32))).bind fun M28 => some M28)) else ((F_X12_help M (a1) (a2) (a4)).bind fun M30 => some M30)

set_option maxRecDepth 100000 in
set_option maxHeartbeats 4000000 in
theorem p_X12_prepared {M : vM} {R : vM} {a1 : Int32} {a2 : Int32} {a3 : Int32} {a4 : Int32} (h : F_X12_prepared M a1 a2 a3 a4 = some R) {E : vE} {S0 : vS} {sz m b : Nat} (hR : RM S0 sz m b M) : vi_Met E yX12_prepared cX12_prepared 6 none 6 0 0 [.ref m, .int (a1), .int (a2), .int (a3), .int (a4)] S0 sz (Q0 S0 sz m b R) := by
  refine vi_met (by decide) (Nat.le_of_ble_eq_true rfl) ?_
  intro X C
  have hF := rF.refl S0 m b
  unfold F_X12_prepared at h
  refine vi_iload C dX12_prepared_0 rfl rfl ?_
  refine vi_aload_n C dX12_prepared_2 rfl rfl ?_
  refine r_geta C dX12_prepared_3 rfl fX12_37 rfl hR rfl ?_
  refine vi_iload_n C dX12_prepared_6 rfl rfl ?_
  refine r_iaload C dX12_prepared_7 rfl rfl hR h (fun v1 h => ?_)
  refine vi_icmp_gt (t' := 22) C dX12_prepared_8 rfl (by decide) (fun c31 => ?_) (fun c31 => ?_)
  · replace h := iT c31 h
    refine vi_iload_n C dX12_prepared_22 rfl rfl ?_
    refine vi_aload_n C dX12_prepared_23 rfl rfl ?_
    refine r_geta C dX12_prepared_24 rfl fX12_46 rfl hR rfl ?_
    refine vi_iload_n C dX12_prepared_27 rfl rfl ?_
    refine r_iaload C dX12_prepared_28 rfl rfl hR h (fun v2 h => ?_)
    refine vi_icmp_ge (t' := 52) C dX12_prepared_29 rfl (by decide) (fun c29 => ?_) (fun c29 => ?_)
    · replace h := iT c29 h
      refine vi_iload_n C dX12_prepared_52 rfl rfl ?_
      refine vi_aload_n C dX12_prepared_53 rfl rfl ?_
      refine r_geta C dX12_prepared_54 rfl fX12_46 rfl hR rfl ?_
      refine vi_iload_n C dX12_prepared_57 rfl rfl ?_
      refine r_iaload C dX12_prepared_58 rfl rfl hR h (fun v3 h => ?_)
      refine r_jn h (fun k => ∀ (M13 : vM), k M13 = some R → ∀ S, RM S sz m b M13 → rF S0 S m b → vi_W E X 6 (vi_Z E X (Q0 S0 sz m b R) 0 0) 88 [(0, .ref m), (1, .int (a1)), (2, .int (a2)), (3, .int (a3)), (4, .int (a4))] [] S sz 0 0) ?_ ?_
      · intro M13 h S hR hF
        refine vi_aload_n C dX12_prepared_88 rfl rfl ?_
        refine vi_iload_n C dX12_prepared_89 rfl rfl ?_
        refine r_cv0 C [.int (a1)] [] dX12_prepared_90 rfl ivX12_284 imX12_follow rfl hR hF h (fun _ e => p_X12_follow e hR) rfl (Nat.le_of_ble_eq_true rfl) ⟨by decide, by decide⟩ ⟨Nat.le_refl _, Nat.le_refl _⟩ (fun S M14 h hR hF => ?_)
        refine vi_iload C dX12_prepared_93 rfl rfl ?_
        refine vi_aload_n C dX12_prepared_95 rfl rfl ?_
        refine r_geta C dX12_prepared_96 rfl fX12_37 rfl hR rfl ?_
        refine vi_iload_n C dX12_prepared_99 rfl rfl ?_
        refine r_iaload C dX12_prepared_100 rfl rfl hR h (fun v15 h => ?_)
        refine vi_iconst (v := 1) C dX12_prepared_101 rfl (by decide) ?_
        refine vi_iadd C dX12_prepared_102 rfl ?_
        refine r_jn h (fun k => ∀ (s0_120 : Int32), k s0_120 = some R → ∀ S, RM S sz m b M14 → rF S0 S m b → vi_W E X 6 (vi_Z E X (Q0 S0 sz m b R) 0 0) 120 [(0, .ref m), (1, .int (a1)), (2, .int (a2)), (3, .int (a3)), (4, .int (a4))] [.int (s0_120)] S sz 0 0) ?_ ?_
        · intro s0_120 h S hR hF
          refine vi_istore C dX12_prepared_120 rfl (by decide) ?_
          refine vi_aload_n C dX12_prepared_122 rfl rfl ?_
          refine vi_iconst (v := 2) C dX12_prepared_123 rfl (by decide) ?_
          refine vi_iload_n C dX12_prepared_124 rfl rfl ?_
          refine vi_iload_n C dX12_prepared_125 rfl rfl ?_
          refine vi_iload_n C dX12_prepared_126 rfl rfl ?_
          refine vi_iload C dX12_prepared_127 rfl rfl ?_
          refine vi_iload C dX12_prepared_129 rfl rfl ?_
          refine r_jn h (fun k => ∀ (s6_144 : Int32), k s6_144 = some R → ∀ S, RM S sz m b M14 → rF S0 S m b → vi_W E X 6 (vi_Z E X (Q0 S0 sz m b R) 0 0) 144 [(0, .ref m), (1, .int (a1)), (5, .int (s0_120))] [.int (s6_144), .int (a4), .int (a3), .int (a2), .int (a1), .int ((2 : Int32)), .ref m] S sz 0 0) ?_ ?_
          · intro s6_144 h S hR hF
            refine vi_iload C dX12_prepared_144 rfl rfl ?_
            refine vi_if_eq (t' := 158) C dX12_prepared_146 rfl (by decide) (fun c26 => ?_) (fun c26 => ?_)
            · replace h := iT c26 h
              refine vi_iconst (v := 0) C dX12_prepared_158 rfl (by decide) ?_
              refine r_cv0 C [.int ((2 : Int32)), .int (a1), .int (a2), .int (a3), .int (a4), .int (s6_144), .int ((0 : Int32))] [] dX12_prepared_159 rfl ivX12_299 imX12_send rfl hR hF h (fun _ e => p_X12_send e hR) rfl (Nat.le_of_ble_eq_true rfl) ⟨by decide, by decide⟩ ⟨Nat.le_refl _, Nat.le_refl _⟩ (fun S M23 h hR hF => ?_)
              exact r_ret0 C dX12_prepared_162 rfl hR hF h
            · replace h := iN c26 h
              refine vi_aload_n C dX12_prepared_149 rfl rfl ?_
              refine r_geta C dX12_prepared_150 rfl fX12_49 rfl hR rfl ?_
              refine vi_iload_n C dX12_prepared_153 rfl rfl ?_
              refine r_iaload C dX12_prepared_154 rfl rfl hR h (fun v24 h => ?_)
              refine vi_goto (t' := 159) C dX12_prepared_155 (by decide) ?_
              refine r_cv0 C [.int ((2 : Int32)), .int (a1), .int (a2), .int (a3), .int (a4), .int (s6_144), .int (v24)] [] dX12_prepared_159 rfl ivX12_299 imX12_send rfl hR hF h (fun _ e => p_X12_send e hR) rfl (Nat.le_of_ble_eq_true rfl) ⟨by decide, by decide⟩ ⟨Nat.le_refl _, Nat.le_refl _⟩ (fun S M25 h hR hF => ?_)
              exact r_ret0 C dX12_prepared_162 rfl hR hF h
          · intro k144_20 h144_20 h
            refine vi_if_eq (t' := 143) C dX12_prepared_131 rfl (by decide) (fun c22 => ?_) (fun c22 => ?_)
            · replace h := iT c22 h
              refine vi_iconst (v := 0) C dX12_prepared_143 rfl (by decide) ?_
              exact vi_cut [(0, .ref m), (1, .int (a1)), (5, .int (s0_120))] ⟨rfl, rfl, rfl, trivial⟩ (h144_20 _ h _ hR hF)
            · replace h := iN c22 h
              refine vi_aload_n C dX12_prepared_134 rfl rfl ?_
              refine r_geta C dX12_prepared_135 rfl fX12_52 rfl hR rfl ?_
              refine vi_iload_n C dX12_prepared_138 rfl rfl ?_
              refine r_iaload C dX12_prepared_139 rfl rfl hR h (fun v21 h => ?_)
              refine vi_goto (t' := 144) C dX12_prepared_140 (by decide) ?_
              exact vi_cut [(0, .ref m), (1, .int (a1)), (5, .int (s0_120))] ⟨rfl, rfl, rfl, trivial⟩ (h144_20 _ h _ hR hF)
        · intro k120_16 h120_16 h
          refine vi_icmp_ne (t' := 119) C dX12_prepared_103 rfl (by decide) (fun c19 => ?_) (fun c19 => ?_)
          · replace h := iN c19 h
            refine vi_iconst (v := 0) C dX12_prepared_119 rfl (by decide) ?_
            exact vi_cut [(0, .ref m), (1, .int (a1)), (2, .int (a2)), (3, .int (a3)), (4, .int (a4))] ⟨rfl, rfl, rfl, rfl, rfl, trivial⟩ (h120_16 _ h _ hR hF)
          · replace h := iT c19 h
            refine vi_aload_n C dX12_prepared_106 rfl rfl ?_
            refine r_geta C dX12_prepared_107 rfl fX12_52 rfl hR rfl ?_
            refine vi_iload_n C dX12_prepared_110 rfl rfl ?_
            refine r_iaload C dX12_prepared_111 rfl rfl hR h (fun v17 h => ?_)
            refine vi_if_le (t' := 119) C dX12_prepared_112 rfl (by decide) (fun c18 => ?_) (fun c18 => ?_)
            · replace h := iT c18 h
              refine vi_iconst (v := 0) C dX12_prepared_119 rfl (by decide) ?_
              exact vi_cut [(0, .ref m), (1, .int (a1)), (2, .int (a2)), (3, .int (a3)), (4, .int (a4))] ⟨rfl, rfl, rfl, rfl, rfl, trivial⟩ (h120_16 _ h _ hR hF)
            · replace h := iN c18 h
              refine vi_iconst (v := 1) C dX12_prepared_115 rfl (by decide) ?_
              refine vi_goto (t' := 120) C dX12_prepared_116 (by decide) ?_
              exact vi_cut [(0, .ref m), (1, .int (a1)), (2, .int (a2)), (3, .int (a3)), (4, .int (a4))] ⟨rfl, rfl, rfl, rfl, rfl, trivial⟩ (h120_16 _ h _ hR hF)
      · intro k88_4 h88_4 h
        refine vi_icmp_le (t' := 88) C dX12_prepared_59 rfl (by decide) (fun c12 => ?_) (fun c12 => ?_)
        · replace h := iT c12 h
          exact vi_cut [(0, .ref m), (1, .int (a1)), (2, .int (a2)), (3, .int (a3)), (4, .int (a4))] ⟨rfl, rfl, rfl, rfl, rfl, trivial⟩ (h88_4 _ h _ hR hF)
        · replace h := iN c12 h
          refine vi_aload_n C dX12_prepared_62 rfl rfl ?_
          refine vi_iload_n C dX12_prepared_63 rfl rfl ?_
          refine vi_iload_n C dX12_prepared_64 rfl rfl ?_
          refine r_cv1 C [.int (a1), .int (a3)] [] dX12_prepared_65 rfl ivX12_307 imX12_notePromise rfl hR hF h (fun _ e => p_X12_notePromise e hR) rfl (Nat.le_of_ble_eq_true rfl) ⟨by decide, by decide⟩ ⟨Nat.le_refl _, Nat.le_refl _⟩ (fun S M5 v6 h hR hF => ?_)
          refine vi_if_ne (t' := 72) C dX12_prepared_68 rfl (by decide) (fun c11 => ?_) (fun c11 => ?_)
          · replace h := iN c11 h
            refine vi_aload_n C dX12_prepared_72 rfl rfl ?_
            refine r_geta C dX12_prepared_73 rfl fX12_46 rfl hR rfl ?_
            refine vi_iload_n C dX12_prepared_76 rfl rfl ?_
            refine vi_iload_n C dX12_prepared_77 rfl rfl ?_
            refine r_iastore C dX12_prepared_78 rfl rfl hR hF h (fun S M7 h hR hF => ?_)
            refine vi_aload_n C dX12_prepared_79 rfl rfl ?_
            refine vi_iload_n C dX12_prepared_80 rfl rfl ?_
            refine r_cv1 C [.int (a1)] [] dX12_prepared_81 rfl ivX12_281 imX12_checkpoint rfl hR hF h (fun _ e => p_X12_checkpoint e hR) rfl (Nat.le_of_ble_eq_true rfl) ⟨by decide, by decide⟩ ⟨Nat.le_refl _, Nat.le_refl _⟩ (fun S M8 v9 h hR hF => ?_)
            refine vi_if_ne (t' := 88) C dX12_prepared_84 rfl (by decide) (fun c10 => ?_) (fun c10 => ?_)
            · replace h := iN c10 h
              exact vi_cut [(0, .ref m), (1, .int (a1)), (2, .int (a2)), (3, .int (a3)), (4, .int (a4))] ⟨rfl, rfl, rfl, rfl, rfl, trivial⟩ (h88_4 _ h _ hR hF)
            · replace h := iT c10 h
              exact r_ret0 C dX12_prepared_87 rfl hR hF h
          · replace h := iT c11 h
            exact r_ret0 C dX12_prepared_71 rfl hR hF h
    · replace h := iN c29 h
      refine vi_aload_n C dX12_prepared_32 rfl rfl ?_
      refine vi_bipush (v := 7) C dX12_prepared_33 rfl (by decide) ?_
      refine vi_iload_n C dX12_prepared_35 rfl rfl ?_
      refine vi_iload_n C dX12_prepared_36 rfl rfl ?_
      refine vi_aload_n C dX12_prepared_37 rfl rfl ?_
      refine r_geta C dX12_prepared_38 rfl fX12_46 rfl hR rfl ?_
      refine vi_iload_n C dX12_prepared_41 rfl rfl ?_
      refine r_iaload C dX12_prepared_42 rfl rfl hR h (fun v27 h => ?_)
      refine vi_iconst (v := 0) C dX12_prepared_43 rfl (by decide) ?_
      refine vi_iconst (v := 0) C dX12_prepared_44 rfl (by decide) ?_
      refine vi_iconst (v := 0) C dX12_prepared_45 rfl (by decide) ?_
      refine r_cv0 C [.int ((7 : Int32)), .int (a1), .int (a2), .int (v27), .int ((0 : Int32)), .int ((0 : Int32)), .int ((0 : Int32))] [] dX12_prepared_46 rfl ivX12_299 imX12_send rfl hR hF h (fun _ e => p_X12_send e hR) rfl (Nat.le_of_ble_eq_true rfl) ⟨by decide, by decide⟩ ⟨Nat.le_refl _, Nat.le_refl _⟩ (fun S M28 h hR hF => ?_)
      refine vi_goto (t' := 162) C dX12_prepared_49 (by decide) ?_
      exact r_ret0 C dX12_prepared_162 rfl hR hF h
  · replace h := iN c31 h
    refine vi_aload_n C dX12_prepared_11 rfl rfl ?_
    refine vi_iload_n C dX12_prepared_12 rfl rfl ?_
    refine vi_iload_n C dX12_prepared_13 rfl rfl ?_
    refine vi_iload C dX12_prepared_14 rfl rfl ?_
    refine r_cv0 C [.int (a1), .int (a2), .int (a4)] [] dX12_prepared_16 rfl ivX12_329 imX12_help rfl hR hF h (fun _ e => p_X12_help e hR) rfl (Nat.le_of_ble_eq_true rfl) ⟨by decide, by decide⟩ ⟨Nat.le_refl _, Nat.le_refl _⟩ (fun S M30 h hR hF => ?_)
    refine vi_goto (t' := 162) C dX12_prepared_19 (by decide) ?_
    exact r_ret0 C dX12_prepared_162 rfl hR hF h

def F_X12_gotPromise (M : vM) (a1 : Int32) (a2 : Int32) (a3 : Int32) (a4 : Int32) (a5 : Int32) (a6 : Int32) : Option vM := (mG M 19 (a1)).bind fun v1 => if v1 = (1 : Int32) then ((mG M 20 (a1)).bind fun v2 => if v2 = a3 then ((mG M 7 (a1)).bind fun v3 => if a4 = (v3 + (1 : Int32)) then ((mG M 21 (a1)).bind fun v4 => if ((v4 >>> (a2 &&& 31)) &&& (1 : Int32)) = (1 : Int32) then (some M) else ((mG M 21 (a1)).bind fun v5 => (mS M 21 (a1) ((v5 ||| ((1 : Int32) <<< (a2 &&& 31))))).bind fun M6 => jn (fun (M13 : vM) => (mG M13 21 (a1)).bind fun v14 => b2 (F_X12_count M13 (v14)) fun M15 v16 => if ((2 : Int32) * v16) ≤ (M15.1 1) then (some M15) else ((mS M15 19 (a1) ((2 : Int32))).bind fun M17 => (mS M17 21 (a1) ((0 : Int32))).bind fun M18 => (mS M18 13 (a1) ((0 : Int32))).bind fun M19 => (mG M19 23 (a1)).bind fun v20 => if v20 ≤ 0 then (b2 (F_X12_propose M19 (a1)) fun M21 v22 => some M21) else ((mG M19 23 (a1)).bind fun v23 => (F_X12_proposeIt M19 (a1) (v23)).bind fun M24 => some M24))) (fun k92_7 => if a5 ≤ 0 then ((k92_7 (M6))) else ((mG M6 24 (a1)).bind fun v8 => if a6 ≤ v8 then ((k92_7 (M6))) else ((mS M6 23 (a1) (a5)).bind fun M9 => (mS M9 24 (a1) (a6)).bind fun M10 => (k92_7 (M10))))))) else (some M)) else (some M)) else (some M)

set_option maxRecDepth 100000 in
set_option maxHeartbeats 4000000 in
theorem p_X12_gotPromise {M : vM} {R : vM} {a1 : Int32} {a2 : Int32} {a3 : Int32} {a4 : Int32} {a5 : Int32} {a6 : Int32} (h : F_X12_gotPromise M a1 a2 a3 a4 a5 a6 = some R) {E : vE} {S0 : vS} {sz m b : Nat} (hR : RM S0 sz m b M) : vi_Met E yX12_gotPromise cX12_gotPromise 8 none 9 0 0 [.ref m, .int (a1), .int (a2), .int (a3), .int (a4), .int (a5), .int (a6)] S0 sz (Q0 S0 sz m b R) := by
  refine vi_met (by decide) (Nat.le_of_ble_eq_true rfl) ?_
  intro X C
  have hF := rF.refl S0 m b
  unfold F_X12_gotPromise at h
  refine vi_aload_n C dX12_gotPromise_0 rfl rfl ?_
  refine r_geta C dX12_gotPromise_1 rfl fX12_73 rfl hR rfl ?_
  refine vi_iload_n C dX12_gotPromise_4 rfl rfl ?_
  refine r_iaload C dX12_gotPromise_5 rfl rfl hR h (fun v1 h => ?_)
  refine vi_iconst (v := 1) C dX12_gotPromise_6 rfl (by decide) ?_
  refine vi_icmp_ne (t' := 47) C dX12_gotPromise_7 rfl (by decide) (fun c30 => ?_) (fun c30 => ?_)
  · replace h := iN c30 h
    exact r_ret0 C dX12_gotPromise_47 rfl hR hF h
  · replace h := iT c30 h
    refine vi_aload_n C dX12_gotPromise_10 rfl rfl ?_
    refine r_geta C dX12_gotPromise_11 rfl fX12_76 rfl hR rfl ?_
    refine vi_iload_n C dX12_gotPromise_14 rfl rfl ?_
    refine r_iaload C dX12_gotPromise_15 rfl rfl hR h (fun v2 h => ?_)
    refine vi_iload_n C dX12_gotPromise_16 rfl rfl ?_
    refine vi_icmp_ne (t' := 47) C dX12_gotPromise_17 rfl (by decide) (fun c29 => ?_) (fun c29 => ?_)
    · replace h := iN c29 h
      exact r_ret0 C dX12_gotPromise_47 rfl hR hF h
    · replace h := iT c29 h
      refine vi_iload C dX12_gotPromise_20 rfl rfl ?_
      refine vi_aload_n C dX12_gotPromise_22 rfl rfl ?_
      refine r_geta C dX12_gotPromise_23 rfl fX12_37 rfl hR rfl ?_
      refine vi_iload_n C dX12_gotPromise_26 rfl rfl ?_
      refine r_iaload C dX12_gotPromise_27 rfl rfl hR h (fun v3 h => ?_)
      refine vi_iconst (v := 1) C dX12_gotPromise_28 rfl (by decide) ?_
      refine vi_iadd C dX12_gotPromise_29 rfl ?_
      refine vi_icmp_ne (t' := 47) C dX12_gotPromise_30 rfl (by decide) (fun c28 => ?_) (fun c28 => ?_)
      · replace h := iN c28 h
        exact r_ret0 C dX12_gotPromise_47 rfl hR hF h
      · replace h := iT c28 h
        refine vi_aload_n C dX12_gotPromise_33 rfl rfl ?_
        refine r_geta C dX12_gotPromise_34 rfl fX12_79 rfl hR rfl ?_
        refine vi_iload_n C dX12_gotPromise_37 rfl rfl ?_
        refine r_iaload C dX12_gotPromise_38 rfl rfl hR h (fun v4 h => ?_)
        refine vi_iload_n C dX12_gotPromise_39 rfl rfl ?_
        refine vi_ishr C dX12_gotPromise_40 rfl ?_
        refine vi_iconst (v := 1) C dX12_gotPromise_41 rfl (by decide) ?_
        refine vi_iand C dX12_gotPromise_42 rfl ?_
        refine vi_iconst (v := 1) C dX12_gotPromise_43 rfl (by decide) ?_
        refine vi_icmp_ne (t' := 48) C dX12_gotPromise_44 rfl (by decide) (fun c27 => ?_) (fun c27 => ?_)
        · replace h := iN c27 h
          refine vi_aload_n C dX12_gotPromise_48 rfl rfl ?_
          refine r_geta C dX12_gotPromise_49 rfl fX12_79 rfl hR rfl ?_
          refine vi_iload_n C dX12_gotPromise_52 rfl rfl ?_
          refine vi_dup2 C dX12_gotPromise_53 rfl rfl rfl ?_
          refine r_iaload C dX12_gotPromise_54 rfl rfl hR h (fun v5 h => ?_)
          refine vi_iconst (v := 1) C dX12_gotPromise_55 rfl (by decide) ?_
          refine vi_iload_n C dX12_gotPromise_56 rfl rfl ?_
          refine vi_ishl C dX12_gotPromise_57 rfl ?_
          refine vi_ior C dX12_gotPromise_58 rfl ?_
          refine r_iastore C dX12_gotPromise_59 rfl rfl hR hF h (fun S M6 h hR hF => ?_)
          refine vi_iload C dX12_gotPromise_60 rfl rfl ?_
          refine r_jn h (fun k => ∀ (M13 : vM), k M13 = some R → ∀ S, RM S sz m b M13 → rF S0 S m b → vi_W E X 8 (vi_Z E X (Q0 S0 sz m b R) 0 0) 92 [(0, .ref m), (1, .int (a1))] [] S sz 0 0) ?_ ?_
          · intro M13 h S hR hF
            refine vi_iconst (v := 2) C dX12_gotPromise_92 rfl (by decide) ?_
            refine vi_aload_n C dX12_gotPromise_93 rfl rfl ?_
            refine vi_aload_n C dX12_gotPromise_94 rfl rfl ?_
            refine r_geta C dX12_gotPromise_95 rfl fX12_79 rfl hR rfl ?_
            refine vi_iload_n C dX12_gotPromise_98 rfl rfl ?_
            refine r_iaload C dX12_gotPromise_99 rfl rfl hR h (fun v14 h => ?_)
            refine r_cv1 C [.int (v14)] [.int ((2 : Int32))] dX12_gotPromise_100 rfl ivX12_332 imX12_count rfl hR hF h (fun _ e => p_X12_count e hR) rfl (Nat.le_of_ble_eq_true rfl) ⟨by decide, by decide⟩ ⟨Nat.le_refl _, Nat.le_refl _⟩ (fun S M15 v16 h hR hF => ?_)
            refine vi_imul C dX12_gotPromise_103 rfl ?_
            refine vi_aload_n C dX12_gotPromise_104 rfl rfl ?_
            refine r_geti C dX12_gotPromise_105 rfl fX12_184 rfl hR ?_
            refine vi_icmp_le (t' := 162) C dX12_gotPromise_108 rfl (by decide) (fun c26 => ?_) (fun c26 => ?_)
            · replace h := iT c26 h
              exact r_ret0 C dX12_gotPromise_162 rfl hR hF h
            · replace h := iN c26 h
              refine vi_aload_n C dX12_gotPromise_111 rfl rfl ?_
              refine r_geta C dX12_gotPromise_112 rfl fX12_73 rfl hR rfl ?_
              refine vi_iload_n C dX12_gotPromise_115 rfl rfl ?_
              refine vi_iconst (v := 2) C dX12_gotPromise_116 rfl (by decide) ?_
              refine r_iastore C dX12_gotPromise_117 rfl rfl hR hF h (fun S M17 h hR hF => ?_)
              refine vi_aload_n C dX12_gotPromise_118 rfl rfl ?_
              refine r_geta C dX12_gotPromise_119 rfl fX12_79 rfl hR rfl ?_
              refine vi_iload_n C dX12_gotPromise_122 rfl rfl ?_
              refine vi_iconst (v := 0) C dX12_gotPromise_123 rfl (by decide) ?_
              refine r_iastore C dX12_gotPromise_124 rfl rfl hR hF h (fun S M18 h hR hF => ?_)
              refine vi_aload_n C dX12_gotPromise_125 rfl rfl ?_
              refine r_geta C dX12_gotPromise_126 rfl fX12_55 rfl hR rfl ?_
              refine vi_iload_n C dX12_gotPromise_129 rfl rfl ?_
              refine vi_iconst (v := 0) C dX12_gotPromise_130 rfl (by decide) ?_
              refine r_iastore C dX12_gotPromise_131 rfl rfl hR hF h (fun S M19 h hR hF => ?_)
              refine vi_aload_n C dX12_gotPromise_132 rfl rfl ?_
              refine r_geta C dX12_gotPromise_133 rfl fX12_85 rfl hR rfl ?_
              refine vi_iload_n C dX12_gotPromise_136 rfl rfl ?_
              refine r_iaload C dX12_gotPromise_137 rfl rfl hR h (fun v20 h => ?_)
              refine vi_if_le (t' := 155) C dX12_gotPromise_138 rfl (by decide) (fun c25 => ?_) (fun c25 => ?_)
              · replace h := iT c25 h
                refine vi_aload_n C dX12_gotPromise_155 rfl rfl ?_
                refine vi_iload_n C dX12_gotPromise_156 rfl rfl ?_
                refine r_cv1 C [.int (a1)] [] dX12_gotPromise_157 rfl ivX12_335 imX12_propose rfl hR hF h (fun _ e => p_X12_propose e hR) rfl (Nat.le_of_ble_eq_true rfl) ⟨by decide, by decide⟩ ⟨Nat.le_refl _, Nat.le_refl _⟩ (fun S M21 v22 h hR hF => ?_)
                refine vi_istore C dX12_gotPromise_160 rfl (by decide) ?_
                exact r_ret0 C dX12_gotPromise_162 rfl hR hF h
              · replace h := iN c25 h
                refine vi_aload_n C dX12_gotPromise_141 rfl rfl ?_
                refine vi_iload_n C dX12_gotPromise_142 rfl rfl ?_
                refine vi_aload_n C dX12_gotPromise_143 rfl rfl ?_
                refine r_geta C dX12_gotPromise_144 rfl fX12_85 rfl hR rfl ?_
                refine vi_iload_n C dX12_gotPromise_147 rfl rfl ?_
                refine r_iaload C dX12_gotPromise_148 rfl rfl hR h (fun v23 h => ?_)
                refine r_cv0 C [.int (a1), .int (v23)] [] dX12_gotPromise_149 rfl ivX12_323 imX12_proposeIt rfl hR hF h (fun _ e => p_X12_proposeIt e hR) rfl (Nat.le_of_ble_eq_true rfl) ⟨by decide, by decide⟩ ⟨Nat.le_refl _, Nat.le_refl _⟩ (fun S M24 h hR hF => ?_)
                refine vi_goto (t' := 162) C dX12_gotPromise_152 (by decide) ?_
                exact r_ret0 C dX12_gotPromise_162 rfl hR hF h
          · intro k92_7 h92_7 h
            refine vi_if_le (t' := 92) C dX12_gotPromise_62 rfl (by decide) (fun c12 => ?_) (fun c12 => ?_)
            · replace h := iT c12 h
              exact vi_cut [(0, .ref m), (1, .int (a1))] ⟨rfl, rfl, trivial⟩ (h92_7 _ h _ hR hF)
            · replace h := iN c12 h
              refine vi_iload C dX12_gotPromise_65 rfl rfl ?_
              refine vi_aload_n C dX12_gotPromise_67 rfl rfl ?_
              refine r_geta C dX12_gotPromise_68 rfl fX12_88 rfl hR rfl ?_
              refine vi_iload_n C dX12_gotPromise_71 rfl rfl ?_
              refine r_iaload C dX12_gotPromise_72 rfl rfl hR h (fun v8 h => ?_)
              refine vi_icmp_le (t' := 92) C dX12_gotPromise_73 rfl (by decide) (fun c11 => ?_) (fun c11 => ?_)
              · replace h := iT c11 h
                exact vi_cut [(0, .ref m), (1, .int (a1))] ⟨rfl, rfl, trivial⟩ (h92_7 _ h _ hR hF)
              · replace h := iN c11 h
                refine vi_aload_n C dX12_gotPromise_76 rfl rfl ?_
                refine r_geta C dX12_gotPromise_77 rfl fX12_85 rfl hR rfl ?_
                refine vi_iload_n C dX12_gotPromise_80 rfl rfl ?_
                refine vi_iload C dX12_gotPromise_81 rfl rfl ?_
                refine r_iastore C dX12_gotPromise_83 rfl rfl hR hF h (fun S M9 h hR hF => ?_)
                refine vi_aload_n C dX12_gotPromise_84 rfl rfl ?_
                refine r_geta C dX12_gotPromise_85 rfl fX12_88 rfl hR rfl ?_
                refine vi_iload_n C dX12_gotPromise_88 rfl rfl ?_
                refine vi_iload C dX12_gotPromise_89 rfl rfl ?_
                refine r_iastore C dX12_gotPromise_91 rfl rfl hR hF h (fun S M10 h hR hF => ?_)
                exact vi_cut [(0, .ref m), (1, .int (a1))] ⟨rfl, rfl, trivial⟩ (h92_7 _ h _ hR hF)
        · replace h := iT c27 h
          exact r_ret0 C dX12_gotPromise_47 rfl hR hF h

def F_X12_gotAccept (M : vM) (a1 : Int32) (a2 : Int32) (a3 : Int32) (a4 : Int32) (a5 : Int32) : Option vM := (mG M 7 (a1)).bind fun v1 => if v1 < a4 then ((mG M 7 (a1)).bind fun v2 => if a4 ≤ (v2 + (1 : Int32)) then ((mG M 10 (a1)).bind fun v3 => if a3 < v3 then ((mG M 10 (a1)).bind fun v4 => (F_X12_send M ((7 : Int32)) (a1) (a2) (v4) ((0 : Int32)) ((0 : Int32)) ((0 : Int32))).bind fun M5 => some M5) else (b2 (F_X12_accepts M (a1) (a3) (a5)) fun M6 v7 => if v7 = 0 then (some M6) else ((mG M6 19 (a1)).bind fun v8 => jn (fun (M17 : vM) => (mS M17 13 (a1) ((0 : Int32))).bind fun M18 => (F_X12_send M18 ((4 : Int32)) (a1) (a2) (a3) (a4) ((0 : Int32)) ((0 : Int32))).bind fun M19 => some M19) (fun k114_9 => if v8 = (1 : Int32) then ((F_X12_follow M6 (a1)).bind fun M10 => (k114_9 (M10))) else ((mG M6 19 (a1)).bind fun v11 => if v11 = (2 : Int32) then ((mG M6 20 (a1)).bind fun v12 => if v12 = a3 then ((k114_9 (M6))) else ((F_X12_follow M6 (a1)).bind fun M13 => (k114_9 (M13)))) else ((k114_9 (M6)))))))) else ((mG M 7 (a1)).bind fun v22 => (F_X12_send M ((6 : Int32)) (a1) (a2) ((0 : Int32)) ((v22 + (1 : Int32))) ((0 : Int32)) ((0 : Int32))).bind fun M23 => some M23)) else ((F_X12_help M (a1) (a2) (a4)).bind fun M25 => some M25)

set_option maxRecDepth 100000 in
set_option maxHeartbeats 4000000 in
theorem p_X12_gotAccept {M : vM} {R : vM} {a1 : Int32} {a2 : Int32} {a3 : Int32} {a4 : Int32} {a5 : Int32} (h : F_X12_gotAccept M a1 a2 a3 a4 a5 = some R) {E : vE} {S0 : vS} {sz m b : Nat} (hR : RM S0 sz m b M) : vi_Met E yX12_gotAccept cX12_gotAccept 6 none 7 0 0 [.ref m, .int (a1), .int (a2), .int (a3), .int (a4), .int (a5)] S0 sz (Q0 S0 sz m b R) := by
  refine vi_met (by decide) (Nat.le_of_ble_eq_true rfl) ?_
  intro X C
  have hF := rF.refl S0 m b
  unfold F_X12_gotAccept at h
  refine vi_iload C dX12_gotAccept_0 rfl rfl ?_
  refine vi_aload_n C dX12_gotAccept_2 rfl rfl ?_
  refine r_geta C dX12_gotAccept_3 rfl fX12_37 rfl hR rfl ?_
  refine vi_iload_n C dX12_gotAccept_6 rfl rfl ?_
  refine r_iaload C dX12_gotAccept_7 rfl rfl hR h (fun v1 h => ?_)
  refine vi_icmp_gt (t' := 22) C dX12_gotAccept_8 rfl (by decide) (fun c26 => ?_) (fun c26 => ?_)
  · replace h := iT c26 h
    refine vi_iload C dX12_gotAccept_22 rfl rfl ?_
    refine vi_aload_n C dX12_gotAccept_24 rfl rfl ?_
    refine r_geta C dX12_gotAccept_25 rfl fX12_37 rfl hR rfl ?_
    refine vi_iload_n C dX12_gotAccept_28 rfl rfl ?_
    refine r_iaload C dX12_gotAccept_29 rfl rfl hR h (fun v2 h => ?_)
    refine vi_iconst (v := 1) C dX12_gotAccept_30 rfl (by decide) ?_
    refine vi_iadd C dX12_gotAccept_31 rfl ?_
    refine vi_icmp_le (t' := 57) C dX12_gotAccept_32 rfl (by decide) (fun c24 => ?_) (fun c24 => ?_)
    · replace h := iT c24 h
      refine vi_iload_n C dX12_gotAccept_57 rfl rfl ?_
      refine vi_aload_n C dX12_gotAccept_58 rfl rfl ?_
      refine r_geta C dX12_gotAccept_59 rfl fX12_46 rfl hR rfl ?_
      refine vi_iload_n C dX12_gotAccept_62 rfl rfl ?_
      refine r_iaload C dX12_gotAccept_63 rfl rfl hR h (fun v3 h => ?_)
      refine vi_icmp_lt (t' := 136) C dX12_gotAccept_64 rfl (by decide) (fun c21 => ?_) (fun c21 => ?_)
      · replace h := iT c21 h
        refine vi_aload_n C dX12_gotAccept_136 rfl rfl ?_
        refine vi_bipush (v := 7) C dX12_gotAccept_137 rfl (by decide) ?_
        refine vi_iload_n C dX12_gotAccept_139 rfl rfl ?_
        refine vi_iload_n C dX12_gotAccept_140 rfl rfl ?_
        refine vi_aload_n C dX12_gotAccept_141 rfl rfl ?_
        refine r_geta C dX12_gotAccept_142 rfl fX12_46 rfl hR rfl ?_
        refine vi_iload_n C dX12_gotAccept_145 rfl rfl ?_
        refine r_iaload C dX12_gotAccept_146 rfl rfl hR h (fun v4 h => ?_)
        refine vi_iconst (v := 0) C dX12_gotAccept_147 rfl (by decide) ?_
        refine vi_iconst (v := 0) C dX12_gotAccept_148 rfl (by decide) ?_
        refine vi_iconst (v := 0) C dX12_gotAccept_149 rfl (by decide) ?_
        refine r_cv0 C [.int ((7 : Int32)), .int (a1), .int (a2), .int (v4), .int ((0 : Int32)), .int ((0 : Int32)), .int ((0 : Int32))] [] dX12_gotAccept_150 rfl ivX12_299 imX12_send rfl hR hF h (fun _ e => p_X12_send e hR) rfl (Nat.le_of_ble_eq_true rfl) ⟨by decide, by decide⟩ ⟨Nat.le_refl _, Nat.le_refl _⟩ (fun S M5 h hR hF => ?_)
        exact r_ret0 C dX12_gotAccept_153 rfl hR hF h
      · replace h := iN c21 h
        refine vi_aload_n C dX12_gotAccept_67 rfl rfl ?_
        refine vi_iload_n C dX12_gotAccept_68 rfl rfl ?_
        refine vi_iload_n C dX12_gotAccept_69 rfl rfl ?_
        refine vi_iload C dX12_gotAccept_70 rfl rfl ?_
        refine r_cv1 C [.int (a1), .int (a3), .int (a5)] [] dX12_gotAccept_72 rfl ivX12_314 imX12_accepts rfl hR hF h (fun _ e => p_X12_accepts e hR) rfl (Nat.le_of_ble_eq_true rfl) ⟨by decide, by decide⟩ ⟨Nat.le_refl _, Nat.le_refl _⟩ (fun S M6 v7 h hR hF => ?_)
        refine vi_if_ne (t' := 79) C dX12_gotAccept_75 rfl (by decide) (fun c20 => ?_) (fun c20 => ?_)
        · replace h := iN c20 h
          refine vi_aload_n C dX12_gotAccept_79 rfl rfl ?_
          refine r_geta C dX12_gotAccept_80 rfl fX12_73 rfl hR rfl ?_
          refine vi_iload_n C dX12_gotAccept_83 rfl rfl ?_
          refine r_iaload C dX12_gotAccept_84 rfl rfl hR h (fun v8 h => ?_)
          refine vi_iconst (v := 1) C dX12_gotAccept_85 rfl (by decide) ?_
          refine r_jn h (fun k => ∀ (M17 : vM), k M17 = some R → ∀ S, RM S sz m b M17 → rF S0 S m b → vi_W E X 6 (vi_Z E X (Q0 S0 sz m b R) 0 0) 114 [(0, .ref m), (1, .int (a1)), (2, .int (a2)), (3, .int (a3)), (4, .int (a4))] [] S sz 0 0) ?_ ?_
          · intro M17 h S hR hF
            refine vi_aload_n C dX12_gotAccept_114 rfl rfl ?_
            refine r_geta C dX12_gotAccept_115 rfl fX12_55 rfl hR rfl ?_
            refine vi_iload_n C dX12_gotAccept_118 rfl rfl ?_
            refine vi_iconst (v := 0) C dX12_gotAccept_119 rfl (by decide) ?_
            refine r_iastore C dX12_gotAccept_120 rfl rfl hR hF h (fun S M18 h hR hF => ?_)
            refine vi_aload_n C dX12_gotAccept_121 rfl rfl ?_
            refine vi_iconst (v := 4) C dX12_gotAccept_122 rfl (by decide) ?_
            refine vi_iload_n C dX12_gotAccept_123 rfl rfl ?_
            refine vi_iload_n C dX12_gotAccept_124 rfl rfl ?_
            refine vi_iload_n C dX12_gotAccept_125 rfl rfl ?_
            refine vi_iload C dX12_gotAccept_126 rfl rfl ?_
            refine vi_iconst (v := 0) C dX12_gotAccept_128 rfl (by decide) ?_
            refine vi_iconst (v := 0) C dX12_gotAccept_129 rfl (by decide) ?_
            refine r_cv0 C [.int ((4 : Int32)), .int (a1), .int (a2), .int (a3), .int (a4), .int ((0 : Int32)), .int ((0 : Int32))] [] dX12_gotAccept_130 rfl ivX12_299 imX12_send rfl hR hF h (fun _ e => p_X12_send e hR) rfl (Nat.le_of_ble_eq_true rfl) ⟨by decide, by decide⟩ ⟨Nat.le_refl _, Nat.le_refl _⟩ (fun S M19 h hR hF => ?_)
            refine vi_goto (t' := 153) C dX12_gotAccept_133 (by decide) ?_
            exact r_ret0 C dX12_gotAccept_153 rfl hR hF h
          · intro k114_9 h114_9 h
            refine vi_icmp_eq (t' := 109) C dX12_gotAccept_86 rfl (by decide) (fun c16 => ?_) (fun c16 => ?_)
            · replace h := iT c16 h
              refine vi_aload_n C dX12_gotAccept_109 rfl rfl ?_
              refine vi_iload_n C dX12_gotAccept_110 rfl rfl ?_
              refine r_cv0 C [.int (a1)] [] dX12_gotAccept_111 rfl ivX12_284 imX12_follow rfl hR hF h (fun _ e => p_X12_follow e hR) rfl (Nat.le_of_ble_eq_true rfl) ⟨by decide, by decide⟩ ⟨Nat.le_refl _, Nat.le_refl _⟩ (fun S M10 h hR hF => ?_)
              exact vi_cut [(0, .ref m), (1, .int (a1)), (2, .int (a2)), (3, .int (a3)), (4, .int (a4))] ⟨rfl, rfl, rfl, rfl, rfl, trivial⟩ (h114_9 _ h _ hR hF)
            · replace h := iN c16 h
              refine vi_aload_n C dX12_gotAccept_89 rfl rfl ?_
              refine r_geta C dX12_gotAccept_90 rfl fX12_73 rfl hR rfl ?_
              refine vi_iload_n C dX12_gotAccept_93 rfl rfl ?_
              refine r_iaload C dX12_gotAccept_94 rfl rfl hR h (fun v11 h => ?_)
              refine vi_iconst (v := 2) C dX12_gotAccept_95 rfl (by decide) ?_
              refine vi_icmp_ne (t' := 114) C dX12_gotAccept_96 rfl (by decide) (fun c15 => ?_) (fun c15 => ?_)
              · replace h := iN c15 h
                exact vi_cut [(0, .ref m), (1, .int (a1)), (2, .int (a2)), (3, .int (a3)), (4, .int (a4))] ⟨rfl, rfl, rfl, rfl, rfl, trivial⟩ (h114_9 _ h _ hR hF)
              · replace h := iT c15 h
                refine vi_aload_n C dX12_gotAccept_99 rfl rfl ?_
                refine r_geta C dX12_gotAccept_100 rfl fX12_76 rfl hR rfl ?_
                refine vi_iload_n C dX12_gotAccept_103 rfl rfl ?_
                refine r_iaload C dX12_gotAccept_104 rfl rfl hR h (fun v12 h => ?_)
                refine vi_iload_n C dX12_gotAccept_105 rfl rfl ?_
                refine vi_icmp_eq (t' := 114) C dX12_gotAccept_106 rfl (by decide) (fun c14 => ?_) (fun c14 => ?_)
                · replace h := iT c14 h
                  exact vi_cut [(0, .ref m), (1, .int (a1)), (2, .int (a2)), (3, .int (a3)), (4, .int (a4))] ⟨rfl, rfl, rfl, rfl, rfl, trivial⟩ (h114_9 _ h _ hR hF)
                · replace h := iN c14 h
                  refine vi_aload_n C dX12_gotAccept_109 rfl rfl ?_
                  refine vi_iload_n C dX12_gotAccept_110 rfl rfl ?_
                  refine r_cv0 C [.int (a1)] [] dX12_gotAccept_111 rfl ivX12_284 imX12_follow rfl hR hF h (fun _ e => p_X12_follow e hR) rfl (Nat.le_of_ble_eq_true rfl) ⟨by decide, by decide⟩ ⟨Nat.le_refl _, Nat.le_refl _⟩ (fun S M13 h hR hF => ?_)
                  exact vi_cut [(0, .ref m), (1, .int (a1)), (2, .int (a2)), (3, .int (a3)), (4, .int (a4))] ⟨rfl, rfl, rfl, rfl, rfl, trivial⟩ (h114_9 _ h _ hR hF)
        · replace h := iT c20 h
          exact r_ret0 C dX12_gotAccept_78 rfl hR hF h
    · replace h := iN c24 h
      refine vi_aload_n C dX12_gotAccept_35 rfl rfl ?_
      refine vi_bipush (v := 6) C dX12_gotAccept_36 rfl (by decide) ?_
      refine vi_iload_n C dX12_gotAccept_38 rfl rfl ?_
      refine vi_iload_n C dX12_gotAccept_39 rfl rfl ?_
      refine vi_iconst (v := 0) C dX12_gotAccept_40 rfl (by decide) ?_
      refine vi_aload_n C dX12_gotAccept_41 rfl rfl ?_
      refine r_geta C dX12_gotAccept_42 rfl fX12_37 rfl hR rfl ?_
      refine vi_iload_n C dX12_gotAccept_45 rfl rfl ?_
      refine r_iaload C dX12_gotAccept_46 rfl rfl hR h (fun v22 h => ?_)
      refine vi_iconst (v := 1) C dX12_gotAccept_47 rfl (by decide) ?_
      refine vi_iadd C dX12_gotAccept_48 rfl ?_
      refine vi_iconst (v := 0) C dX12_gotAccept_49 rfl (by decide) ?_
      refine vi_iconst (v := 0) C dX12_gotAccept_50 rfl (by decide) ?_
      refine r_cv0 C [.int ((6 : Int32)), .int (a1), .int (a2), .int ((0 : Int32)), .int ((v22 + (1 : Int32))), .int ((0 : Int32)), .int ((0 : Int32))] [] dX12_gotAccept_51 rfl ivX12_299 imX12_send rfl hR hF h (fun _ e => p_X12_send e hR) rfl (Nat.le_of_ble_eq_true rfl) ⟨by decide, by decide⟩ ⟨Nat.le_refl _, Nat.le_refl _⟩ (fun S M23 h hR hF => ?_)
      refine vi_goto (t' := 153) C dX12_gotAccept_54 (by decide) ?_
      exact r_ret0 C dX12_gotAccept_153 rfl hR hF h
  · replace h := iN c26 h
    refine vi_aload_n C dX12_gotAccept_11 rfl rfl ?_
    refine vi_iload_n C dX12_gotAccept_12 rfl rfl ?_
    refine vi_iload_n C dX12_gotAccept_13 rfl rfl ?_
    refine vi_iload C dX12_gotAccept_14 rfl rfl ?_
    refine r_cv0 C [.int (a1), .int (a2), .int (a4)] [] dX12_gotAccept_16 rfl ivX12_329 imX12_help rfl hR hF h (fun _ e => p_X12_help e hR) rfl (Nat.le_of_ble_eq_true rfl) ⟨by decide, by decide⟩ ⟨Nat.le_refl _, Nat.le_refl _⟩ (fun S M25 h hR hF => ?_)
    refine vi_goto (t' := 153) C dX12_gotAccept_19 (by decide) ?_
    exact r_ret0 C dX12_gotAccept_153 rfl hR hF h

def F_X12_gotAccepted (M : vM) (a1 : Int32) (a2 : Int32) (a3 : Int32) (a4 : Int32) : Option vM := (mG M 19 (a1)).bind fun v1 => if v1 = (2 : Int32) then ((mG M 20 (a1)).bind fun v2 => if v2 = a3 then ((mG M 22 (a1)).bind fun v3 => if v3 = 0 then (some M) else ((mG M 7 (a1)).bind fun v4 => if a4 = (v4 + (1 : Int32)) then ((mG M 21 (a1)).bind fun v5 => if ((v5 >>> (a2 &&& 31)) &&& (1 : Int32)) = (1 : Int32) then (some M) else ((mG M 21 (a1)).bind fun v6 => (mS M 21 (a1) ((v6 ||| ((1 : Int32) <<< (a2 &&& 31))))).bind fun M7 => (mG M7 21 (a1)).bind fun v8 => b2 (F_X12_count M7 (v8)) fun M9 v10 => if ((2 : Int32) * v10) ≤ (M9.1 1) then (some M9) else ((mG M9 22 (a1)).bind fun v11 => (F_X12_sendAll M9 ((5 : Int32)) (a1) ((0 : Int32)) (a4) (v11)).bind fun M12 => b2 (F_X12_learn M12 (a1) (v11)) fun M13 v14 => if v14 = 0 then (some M13) else (b2 (F_X12_propose M13 (a1)) fun M15 v16 => if v16 = 0 then (some M15) else (some M15))))) else (some M))) else (some M)) else (some M)

set_option maxRecDepth 100000 in
set_option maxHeartbeats 4000000 in
theorem p_X12_gotAccepted {M : vM} {R : vM} {a1 : Int32} {a2 : Int32} {a3 : Int32} {a4 : Int32} (h : F_X12_gotAccepted M a1 a2 a3 a4 = some R) {E : vE} {S0 : vS} {sz m b : Nat} (hR : RM S0 sz m b M) : vi_Met E yX12_gotAccepted cX12_gotAccepted 7 none 9 0 0 [.ref m, .int (a1), .int (a2), .int (a3), .int (a4)] S0 sz (Q0 S0 sz m b R) := by
  refine vi_met (by decide) (Nat.le_of_ble_eq_true rfl) ?_
  intro X C
  have hF := rF.refl S0 m b
  unfold F_X12_gotAccepted at h
  refine vi_aload_n C dX12_gotAccepted_0 rfl rfl ?_
  refine r_geta C dX12_gotAccepted_1 rfl fX12_73 rfl hR rfl ?_
  refine vi_iload_n C dX12_gotAccepted_4 rfl rfl ?_
  refine r_iaload C dX12_gotAccepted_5 rfl rfl hR h (fun v1 h => ?_)
  refine vi_iconst (v := 2) C dX12_gotAccepted_6 rfl (by decide) ?_
  refine vi_icmp_ne (t' := 56) C dX12_gotAccepted_7 rfl (by decide) (fun c24 => ?_) (fun c24 => ?_)
  · replace h := iN c24 h
    exact r_ret0 C dX12_gotAccepted_56 rfl hR hF h
  · replace h := iT c24 h
    refine vi_aload_n C dX12_gotAccepted_10 rfl rfl ?_
    refine r_geta C dX12_gotAccepted_11 rfl fX12_76 rfl hR rfl ?_
    refine vi_iload_n C dX12_gotAccepted_14 rfl rfl ?_
    refine r_iaload C dX12_gotAccepted_15 rfl rfl hR h (fun v2 h => ?_)
    refine vi_iload_n C dX12_gotAccepted_16 rfl rfl ?_
    refine vi_icmp_ne (t' := 56) C dX12_gotAccepted_17 rfl (by decide) (fun c23 => ?_) (fun c23 => ?_)
    · replace h := iN c23 h
      exact r_ret0 C dX12_gotAccepted_56 rfl hR hF h
    · replace h := iT c23 h
      refine vi_aload_n C dX12_gotAccepted_20 rfl rfl ?_
      refine r_geta C dX12_gotAccepted_21 rfl fX12_82 rfl hR rfl ?_
      refine vi_iload_n C dX12_gotAccepted_24 rfl rfl ?_
      refine r_iaload C dX12_gotAccepted_25 rfl rfl hR h (fun v3 h => ?_)
      refine vi_if_eq (t' := 56) C dX12_gotAccepted_26 rfl (by decide) (fun c22 => ?_) (fun c22 => ?_)
      · replace h := iT c22 h
        exact r_ret0 C dX12_gotAccepted_56 rfl hR hF h
      · replace h := iN c22 h
        refine vi_iload C dX12_gotAccepted_29 rfl rfl ?_
        refine vi_aload_n C dX12_gotAccepted_31 rfl rfl ?_
        refine r_geta C dX12_gotAccepted_32 rfl fX12_37 rfl hR rfl ?_
        refine vi_iload_n C dX12_gotAccepted_35 rfl rfl ?_
        refine r_iaload C dX12_gotAccepted_36 rfl rfl hR h (fun v4 h => ?_)
        refine vi_iconst (v := 1) C dX12_gotAccepted_37 rfl (by decide) ?_
        refine vi_iadd C dX12_gotAccepted_38 rfl ?_
        refine vi_icmp_ne (t' := 56) C dX12_gotAccepted_39 rfl (by decide) (fun c21 => ?_) (fun c21 => ?_)
        · replace h := iN c21 h
          exact r_ret0 C dX12_gotAccepted_56 rfl hR hF h
        · replace h := iT c21 h
          refine vi_aload_n C dX12_gotAccepted_42 rfl rfl ?_
          refine r_geta C dX12_gotAccepted_43 rfl fX12_79 rfl hR rfl ?_
          refine vi_iload_n C dX12_gotAccepted_46 rfl rfl ?_
          refine r_iaload C dX12_gotAccepted_47 rfl rfl hR h (fun v5 h => ?_)
          refine vi_iload_n C dX12_gotAccepted_48 rfl rfl ?_
          refine vi_ishr C dX12_gotAccepted_49 rfl ?_
          refine vi_iconst (v := 1) C dX12_gotAccepted_50 rfl (by decide) ?_
          refine vi_iand C dX12_gotAccepted_51 rfl ?_
          refine vi_iconst (v := 1) C dX12_gotAccepted_52 rfl (by decide) ?_
          refine vi_icmp_ne (t' := 57) C dX12_gotAccepted_53 rfl (by decide) (fun c20 => ?_) (fun c20 => ?_)
          · replace h := iN c20 h
            refine vi_aload_n C dX12_gotAccepted_57 rfl rfl ?_
            refine r_geta C dX12_gotAccepted_58 rfl fX12_79 rfl hR rfl ?_
            refine vi_iload_n C dX12_gotAccepted_61 rfl rfl ?_
            refine vi_dup2 C dX12_gotAccepted_62 rfl rfl rfl ?_
            refine r_iaload C dX12_gotAccepted_63 rfl rfl hR h (fun v6 h => ?_)
            refine vi_iconst (v := 1) C dX12_gotAccepted_64 rfl (by decide) ?_
            refine vi_iload_n C dX12_gotAccepted_65 rfl rfl ?_
            refine vi_ishl C dX12_gotAccepted_66 rfl ?_
            refine vi_ior C dX12_gotAccepted_67 rfl ?_
            refine r_iastore C dX12_gotAccepted_68 rfl rfl hR hF h (fun S M7 h hR hF => ?_)
            refine vi_iconst (v := 2) C dX12_gotAccepted_69 rfl (by decide) ?_
            refine vi_aload_n C dX12_gotAccepted_70 rfl rfl ?_
            refine vi_aload_n C dX12_gotAccepted_71 rfl rfl ?_
            refine r_geta C dX12_gotAccepted_72 rfl fX12_79 rfl hR rfl ?_
            refine vi_iload_n C dX12_gotAccepted_75 rfl rfl ?_
            refine r_iaload C dX12_gotAccepted_76 rfl rfl hR h (fun v8 h => ?_)
            refine r_cv1 C [.int (v8)] [.int ((2 : Int32))] dX12_gotAccepted_77 rfl ivX12_332 imX12_count rfl hR hF h (fun _ e => p_X12_count e hR) rfl (Nat.le_of_ble_eq_true rfl) ⟨by decide, by decide⟩ ⟨Nat.le_refl _, Nat.le_refl _⟩ (fun S M9 v10 h hR hF => ?_)
            refine vi_imul C dX12_gotAccepted_80 rfl ?_
            refine vi_aload_n C dX12_gotAccepted_81 rfl rfl ?_
            refine r_geti C dX12_gotAccepted_82 rfl fX12_184 rfl hR ?_
            refine vi_icmp_le (t' := 132) C dX12_gotAccepted_85 rfl (by decide) (fun c19 => ?_) (fun c19 => ?_)
            · replace h := iT c19 h
              exact r_ret0 C dX12_gotAccepted_132 rfl hR hF h
            · replace h := iN c19 h
              refine vi_aload_n C dX12_gotAccepted_88 rfl rfl ?_
              refine r_geta C dX12_gotAccepted_89 rfl fX12_82 rfl hR rfl ?_
              refine vi_iload_n C dX12_gotAccepted_92 rfl rfl ?_
              refine r_iaload C dX12_gotAccepted_93 rfl rfl hR h (fun v11 h => ?_)
              refine vi_istore C dX12_gotAccepted_94 rfl (by decide) ?_
              refine vi_aload_n C dX12_gotAccepted_96 rfl rfl ?_
              refine vi_iconst (v := 5) C dX12_gotAccepted_97 rfl (by decide) ?_
              refine vi_iload_n C dX12_gotAccepted_98 rfl rfl ?_
              refine vi_iconst (v := 0) C dX12_gotAccepted_99 rfl (by decide) ?_
              refine vi_iload C dX12_gotAccepted_100 rfl rfl ?_
              refine vi_iload C dX12_gotAccepted_102 rfl rfl ?_
              refine r_cv0 C [.int ((5 : Int32)), .int (a1), .int ((0 : Int32)), .int (a4), .int (v11)] [] dX12_gotAccepted_104 rfl ivX12_311 imX12_sendAll rfl hR hF h (fun _ e => p_X12_sendAll e hR) rfl (Nat.le_of_ble_eq_true rfl) ⟨by decide, by decide⟩ ⟨Nat.le_refl _, Nat.le_refl _⟩ (fun S M12 h hR hF => ?_)
              refine vi_aload_n C dX12_gotAccepted_107 rfl rfl ?_
              refine vi_iload_n C dX12_gotAccepted_108 rfl rfl ?_
              refine vi_iload C dX12_gotAccepted_109 rfl rfl ?_
              refine r_cv1 C [.int (a1), .int (v11)] [] dX12_gotAccepted_111 rfl ivX12_338 imX12_learn rfl hR hF h (fun _ e => p_X12_learn e hR) rfl (Nat.le_of_ble_eq_true rfl) ⟨by decide, by decide⟩ ⟨Nat.le_refl _, Nat.le_refl _⟩ (fun S M13 v14 h hR hF => ?_)
              refine vi_if_eq (t' := 129) C dX12_gotAccepted_114 rfl (by decide) (fun c18 => ?_) (fun c18 => ?_)
              · replace h := iT c18 h
                refine vi_iconst (v := 0) C dX12_gotAccepted_129 rfl (by decide) ?_
                refine vi_istore C dX12_gotAccepted_130 rfl (by decide) ?_
                exact r_ret0 C dX12_gotAccepted_132 rfl hR hF h
              · replace h := iN c18 h
                refine vi_aload_n C dX12_gotAccepted_117 rfl rfl ?_
                refine vi_iload_n C dX12_gotAccepted_118 rfl rfl ?_
                refine r_cv1 C [.int (a1)] [] dX12_gotAccepted_119 rfl ivX12_335 imX12_propose rfl hR hF h (fun _ e => p_X12_propose e hR) rfl (Nat.le_of_ble_eq_true rfl) ⟨by decide, by decide⟩ ⟨Nat.le_refl _, Nat.le_refl _⟩ (fun S M15 v16 h hR hF => ?_)
                refine vi_if_eq (t' := 129) C dX12_gotAccepted_122 rfl (by decide) (fun c17 => ?_) (fun c17 => ?_)
                · replace h := iT c17 h
                  refine vi_iconst (v := 0) C dX12_gotAccepted_129 rfl (by decide) ?_
                  refine vi_istore C dX12_gotAccepted_130 rfl (by decide) ?_
                  exact r_ret0 C dX12_gotAccepted_132 rfl hR hF h
                · replace h := iN c17 h
                  refine vi_iconst (v := 1) C dX12_gotAccepted_125 rfl (by decide) ?_
                  refine vi_goto (t' := 130) C dX12_gotAccepted_126 (by decide) ?_
                  refine vi_istore C dX12_gotAccepted_130 rfl (by decide) ?_
                  exact r_ret0 C dX12_gotAccepted_132 rfl hR hF h
          · replace h := iT c20 h
            exact r_ret0 C dX12_gotAccepted_56 rfl hR hF h

def L_X12_waitAt_5 {ρ : Type}  (l1 : Int32) (l2 : Int32) (kx48 : vM → Int32 → Option ρ) : Nat → vM → Int32 → Int32 → Option ρ
  | 0, _, _, _ => none
  | f + 1, M, l3, l4 => (mG M 27 (l1)).bind fun v1 => if v1 ≤ l4 then (kx48 M (l3)) else (if l3 = 0 then ((mG M 26 ((((8 : Int32) * l1) + l4))).bind fun v2 => if v2 = l2 then (L_X12_waitAt_5 l1 l2 kx48 f M ((1 : Int32)) ((l4 + (1)))) else (L_X12_waitAt_5 l1 l2 kx48 f M ((0 : Int32)) ((l4 + (1))))) else (L_X12_waitAt_5 l1 l2 kx48 f M ((1 : Int32)) ((l4 + (1)))))

def F_X12_waitAt (M : vM) (a1 : Int32) (a2 : Int32) : Option vM := L_X12_waitAt_5 (a1) (a2) (fun (M6 : vM) (l7 : Int32) => if l7 = 0 then ((mG M6 27 (a1)).bind fun v8 => if (8 : Int32) ≤ v8 then (some M6) else ((mG M6 27 (a1)).bind fun v9 => (mS M6 26 ((((8 : Int32) * a1) + v9)) (a2)).bind fun M10 => (mG M10 27 (a1)).bind fun v11 => (mS M10 27 (a1) ((v11 + (1 : Int32)))).bind fun M12 => some M12)) else (some M6)) fu M ((0 : Int32)) ((0 : Int32))

set_option maxRecDepth 100000 in
set_option maxHeartbeats 4000000 in
theorem w_X12_waitAt_5 {E : vE} {X : vX} {S0 : vS} {sz m b : Nat} {ρ : Type} {R : ρ} {Z : State → Prop} {l1 : Int32} {l2 : Int32} {kx48 : vM → Int32 → Option ρ} (C : vi_C E X yX12_waitAt cX12_waitAt 5 none 0 0 0 (45 * 0)) (hx48 : ∀ (M : vM) (l3 : Int32), kx48 M l3 = some R → ∀ S, RM S sz m b M → rF S0 S m b → vi_W E X 5 Z 48 [(0, .ref m), (1, .int (l1)), (2, .int (l2)), (3, .int (l3))] [] S sz 0 0) : ∀ (f : Nat) (M : vM) (l3 : Int32) (l4 : Int32), L_X12_waitAt_5 l1 l2 kx48 f M l3 l4 = some R → ∀ S, RM S sz m b M → rF S0 S m b → vi_W E X 5 Z 5 [(0, .ref m), (1, .int (l1)), (2, .int (l2)), (3, .int (l3)), (4, .int (l4))] [] S sz 0 0 := by
  intro f
  induction f with
  | zero => intro M l3 l4 h; cases h
  | succ f ih =>
    intro M l3 l4 h S hR hF
    rw [L_X12_waitAt_5] at h
    refine vi_iload C dX12_waitAt_5 rfl rfl ?_
    refine vi_aload_n C dX12_waitAt_7 rfl rfl ?_
    refine r_geta C dX12_waitAt_8 rfl fX12_97 rfl hR rfl ?_
    refine vi_iload_n C dX12_waitAt_11 rfl rfl ?_
    refine r_iaload C dX12_waitAt_12 rfl rfl hR h (fun v1 h => ?_)
    refine vi_icmp_ge (t' := 48) C dX12_waitAt_13 rfl (by decide) (fun c5 => ?_) (fun c5 => ?_)
    · replace h := iT c5 h
      exact vi_cut [(0, .ref m), (1, .int (l1)), (2, .int (l2)), (3, .int (l3))] ⟨rfl, rfl, rfl, rfl, trivial⟩ (hx48 _ _ h _ hR hF)
    · replace h := iN c5 h
      refine vi_iload_n C dX12_waitAt_16 rfl rfl ?_
      refine vi_if_ne (t' := 36) C dX12_waitAt_17 rfl (by decide) (fun c4 => ?_) (fun c4 => ?_)
      · replace h := iN c4 h
        refine vi_iconst (v := 1) C dX12_waitAt_36 rfl (by decide) ?_
        refine vi_goto (t' := 41) C dX12_waitAt_37 (by decide) ?_
        refine vi_istore_n C dX12_waitAt_41 rfl (by decide) ?_
        refine vi_iincv (v := 1) C dX12_waitAt_42 rfl rfl (by decide) (by decide) ?_
        refine vi_goto (t' := 5) C dX12_waitAt_45 (by decide) ?_
        exact vi_cut [(0, .ref m), (1, .int (l1)), (2, .int (l2)), (3, .int ((1 : Int32))), (4, .int ((l4 + (1))))] ⟨rfl, rfl, rfl, rfl, rfl, trivial⟩ (ih _ _ _ h _ hR hF)
      · replace h := iT c4 h
        refine vi_aload_n C dX12_waitAt_20 rfl rfl ?_
        refine r_geta C dX12_waitAt_21 rfl fX12_94 rfl hR rfl ?_
        refine vi_bipush (v := 8) C dX12_waitAt_24 rfl (by decide) ?_
        refine vi_iload_n C dX12_waitAt_26 rfl rfl ?_
        refine vi_imul C dX12_waitAt_27 rfl ?_
        refine vi_iload C dX12_waitAt_28 rfl rfl ?_
        refine vi_iadd C dX12_waitAt_30 rfl ?_
        refine r_iaload C dX12_waitAt_31 rfl rfl hR h (fun v2 h => ?_)
        refine vi_iload_n C dX12_waitAt_32 rfl rfl ?_
        refine vi_icmp_ne (t' := 40) C dX12_waitAt_33 rfl (by decide) (fun c3 => ?_) (fun c3 => ?_)
        · replace h := iN c3 h
          refine vi_iconst (v := 0) C dX12_waitAt_40 rfl (by decide) ?_
          refine vi_istore_n C dX12_waitAt_41 rfl (by decide) ?_
          refine vi_iincv (v := 1) C dX12_waitAt_42 rfl rfl (by decide) (by decide) ?_
          refine vi_goto (t' := 5) C dX12_waitAt_45 (by decide) ?_
          exact vi_cut [(0, .ref m), (1, .int (l1)), (2, .int (l2)), (3, .int ((0 : Int32))), (4, .int ((l4 + (1))))] ⟨rfl, rfl, rfl, rfl, rfl, trivial⟩ (ih _ _ _ h _ hR hF)
        · replace h := iT c3 h
          refine vi_iconst (v := 1) C dX12_waitAt_36 rfl (by decide) ?_
          refine vi_goto (t' := 41) C dX12_waitAt_37 (by decide) ?_
          refine vi_istore_n C dX12_waitAt_41 rfl (by decide) ?_
          refine vi_iincv (v := 1) C dX12_waitAt_42 rfl rfl (by decide) (by decide) ?_
          refine vi_goto (t' := 5) C dX12_waitAt_45 (by decide) ?_
          exact vi_cut [(0, .ref m), (1, .int (l1)), (2, .int (l2)), (3, .int ((1 : Int32))), (4, .int ((l4 + (1))))] ⟨rfl, rfl, rfl, rfl, rfl, trivial⟩ (ih _ _ _ h _ hR hF)

set_option maxRecDepth 100000 in
set_option maxHeartbeats 4000000 in
theorem p_X12_waitAt {M : vM} {R : vM} {a1 : Int32} {a2 : Int32} (h : F_X12_waitAt M a1 a2 = some R) {E : vE} {S0 : vS} {sz m b : Nat} (hR : RM S0 sz m b M) : vi_Met E yX12_waitAt cX12_waitAt 5 none 0 0 0 [.ref m, .int (a1), .int (a2)] S0 sz (Q0 S0 sz m b R) := by
  refine vi_met (by decide) (Nat.le_of_ble_eq_true rfl) ?_
  intro X C
  have hF := rF.refl S0 m b
  unfold F_X12_waitAt at h
  refine vi_iconst (v := 0) C dX12_waitAt_0 rfl (by decide) ?_
  refine vi_istore_n C dX12_waitAt_1 rfl (by decide) ?_
  refine vi_iconst (v := 0) C dX12_waitAt_2 rfl (by decide) ?_
  refine vi_istore C dX12_waitAt_3 rfl (by decide) ?_
  refine vi_cut [(0, .ref m), (1, .int (a1)), (2, .int (a2)), (3, .int ((0 : Int32))), (4, .int ((0 : Int32)))] ⟨rfl, rfl, rfl, rfl, rfl, trivial⟩ (w_X12_waitAt_5 C ?_ _ _ _ _ h _ hR hF)
  · intro M6 l7 h S hR hF
    refine vi_iload_n C dX12_waitAt_48 rfl rfl ?_
    refine vi_if_ne (t' := 90) C dX12_waitAt_49 rfl (by decide) (fun c14 => ?_) (fun c14 => ?_)
    · replace h := iN c14 h
      exact r_ret0 C dX12_waitAt_90 rfl hR hF h
    · replace h := iT c14 h
      refine vi_aload_n C dX12_waitAt_52 rfl rfl ?_
      refine r_geta C dX12_waitAt_53 rfl fX12_97 rfl hR rfl ?_
      refine vi_iload_n C dX12_waitAt_56 rfl rfl ?_
      refine r_iaload C dX12_waitAt_57 rfl rfl hR h (fun v8 h => ?_)
      refine vi_bipush (v := 8) C dX12_waitAt_58 rfl (by decide) ?_
      refine vi_icmp_ge (t' := 90) C dX12_waitAt_60 rfl (by decide) (fun c13 => ?_) (fun c13 => ?_)
      · replace h := iT c13 h
        exact r_ret0 C dX12_waitAt_90 rfl hR hF h
      · replace h := iN c13 h
        refine vi_aload_n C dX12_waitAt_63 rfl rfl ?_
        refine r_geta C dX12_waitAt_64 rfl fX12_94 rfl hR rfl ?_
        refine vi_bipush (v := 8) C dX12_waitAt_67 rfl (by decide) ?_
        refine vi_iload_n C dX12_waitAt_69 rfl rfl ?_
        refine vi_imul C dX12_waitAt_70 rfl ?_
        refine vi_aload_n C dX12_waitAt_71 rfl rfl ?_
        refine r_geta C dX12_waitAt_72 rfl fX12_97 rfl hR rfl ?_
        refine vi_iload_n C dX12_waitAt_75 rfl rfl ?_
        refine r_iaload C dX12_waitAt_76 rfl rfl hR h (fun v9 h => ?_)
        refine vi_iadd C dX12_waitAt_77 rfl ?_
        refine vi_iload_n C dX12_waitAt_78 rfl rfl ?_
        refine r_iastore C dX12_waitAt_79 rfl rfl hR hF h (fun S M10 h hR hF => ?_)
        refine vi_aload_n C dX12_waitAt_80 rfl rfl ?_
        refine r_geta C dX12_waitAt_81 rfl fX12_97 rfl hR rfl ?_
        refine vi_iload_n C dX12_waitAt_84 rfl rfl ?_
        refine vi_dup2 C dX12_waitAt_85 rfl rfl rfl ?_
        refine r_iaload C dX12_waitAt_86 rfl rfl hR h (fun v11 h => ?_)
        refine vi_iconst (v := 1) C dX12_waitAt_87 rfl (by decide) ?_
        refine vi_iadd C dX12_waitAt_88 rfl ?_
        refine r_iastore C dX12_waitAt_89 rfl rfl hR hF h (fun S M12 h hR hF => ?_)
        exact r_ret0 C dX12_waitAt_90 rfl hR hF h

def F_X12_gotForward (M : vM) (a1 : Int32) (a2 : Int32) : Option vM := b2 (F_X12_isKnown M (a1) (a2)) fun M1 v2 => if v2 = 0 then ((F_X12_waitAt M1 (a1) (a2)).bind fun M3 => some M3) else (some M1)

set_option maxRecDepth 100000 in
set_option maxHeartbeats 4000000 in
theorem p_X12_gotForward {M : vM} {R : vM} {a1 : Int32} {a2 : Int32} (h : F_X12_gotForward M a1 a2 = some R) {E : vE} {S0 : vS} {sz m b : Nat} (hR : RM S0 sz m b M) : vi_Met E yX12_gotForward cX12_gotForward 3 none 1 0 0 [.ref m, .int (a1), .int (a2)] S0 sz (Q0 S0 sz m b R) := by
  refine vi_met (by decide) (Nat.le_of_ble_eq_true rfl) ?_
  intro X C
  have hF := rF.refl S0 m b
  unfold F_X12_gotForward at h
  refine vi_aload_n C dX12_gotForward_0 rfl rfl ?_
  refine vi_iload_n C dX12_gotForward_1 rfl rfl ?_
  refine vi_iload_n C dX12_gotForward_2 rfl rfl ?_
  refine r_cv1 C [.int (a1), .int (a2)] [] dX12_gotForward_3 rfl ivX12_317 imX12_isKnown rfl hR hF h (fun _ e => p_X12_isKnown e hR) rfl (Nat.le_of_ble_eq_true rfl) ⟨by decide, by decide⟩ ⟨Nat.le_refl _, Nat.le_refl _⟩ (fun S M1 v2 h hR hF => ?_)
  refine vi_if_ne (t' := 15) C dX12_gotForward_6 rfl (by decide) (fun c4 => ?_) (fun c4 => ?_)
  · replace h := iN c4 h
    exact r_ret0 C dX12_gotForward_15 rfl hR hF h
  · replace h := iT c4 h
    refine vi_aload_n C dX12_gotForward_9 rfl rfl ?_
    refine vi_iload_n C dX12_gotForward_10 rfl rfl ?_
    refine vi_iload_n C dX12_gotForward_11 rfl rfl ?_
    refine r_cv0 C [.int (a1), .int (a2)] [] dX12_gotForward_12 rfl ivX12_341 imX12_waitAt rfl hR hF h (fun _ e => p_X12_waitAt e hR) rfl (Nat.le_of_ble_eq_true rfl) ⟨by decide, by decide⟩ ⟨Nat.le_refl _, Nat.le_refl _⟩ (fun S M3 h hR hF => ?_)
    exact r_ret0 C dX12_gotForward_15 rfl hR hF h

def F_X12_gotBeat (M : vM) (a1 : Int32) (a2 : Int32) (a3 : Int32) (a4 : Int32) : Option vM := (mG M 10 (a1)).bind fun v1 => if v1 ≤ a3 then ((mS M 13 (a1) ((0 : Int32))).bind fun M2 => (mG M2 19 (a1)).bind fun v3 => jn (fun (M9 : vM) => (mG M9 7 (a1)).bind fun v10 => if a4 ≤ v10 then ((mG M9 7 (a1)).bind fun v11 => if v11 ≤ a4 then (some M9) else ((F_X12_help M9 (a1) (a2) ((a4 + (1 : Int32)))).bind fun M12 => some M12)) else ((mG M9 7 (a1)).bind fun v14 => (F_X12_send M9 ((6 : Int32)) (a1) (a2) ((0 : Int32)) ((v14 + (1 : Int32))) ((0 : Int32)) ((0 : Int32))).bind fun M15 => some M15)) (fun k59_4 => if v3 ≤ 0 then ((k59_4 (M2))) else ((mG M2 20 (a1)).bind fun v5 => if a3 ≤ v5 then ((k59_4 (M2))) else ((F_X12_follow M2 (a1)).bind fun M6 => (k59_4 (M6)))))) else ((mG M 10 (a1)).bind fun v17 => (F_X12_send M ((7 : Int32)) (a1) (a2) (v17) ((0 : Int32)) ((0 : Int32)) ((0 : Int32))).bind fun M18 => some M18)

set_option maxRecDepth 100000 in
set_option maxHeartbeats 4000000 in
theorem p_X12_gotBeat {M : vM} {R : vM} {a1 : Int32} {a2 : Int32} {a3 : Int32} {a4 : Int32} (h : F_X12_gotBeat M a1 a2 a3 a4 = some R) {E : vE} {S0 : vS} {sz m b : Nat} (hR : RM S0 sz m b M) : vi_Met E yX12_gotBeat cX12_gotBeat 5 none 6 0 0 [.ref m, .int (a1), .int (a2), .int (a3), .int (a4)] S0 sz (Q0 S0 sz m b R) := by
  refine vi_met (by decide) (Nat.le_of_ble_eq_true rfl) ?_
  intro X C
  have hF := rF.refl S0 m b
  unfold F_X12_gotBeat at h
  refine vi_iload_n C dX12_gotBeat_0 rfl rfl ?_
  refine vi_aload_n C dX12_gotBeat_1 rfl rfl ?_
  refine r_geta C dX12_gotBeat_2 rfl fX12_46 rfl hR rfl ?_
  refine vi_iload_n C dX12_gotBeat_5 rfl rfl ?_
  refine r_iaload C dX12_gotBeat_6 rfl rfl hR h (fun v1 h => ?_)
  refine vi_icmp_ge (t' := 28) C dX12_gotBeat_7 rfl (by decide) (fun c19 => ?_) (fun c19 => ?_)
  · replace h := iT c19 h
    refine vi_aload_n C dX12_gotBeat_28 rfl rfl ?_
    refine r_geta C dX12_gotBeat_29 rfl fX12_55 rfl hR rfl ?_
    refine vi_iload_n C dX12_gotBeat_32 rfl rfl ?_
    refine vi_iconst (v := 0) C dX12_gotBeat_33 rfl (by decide) ?_
    refine r_iastore C dX12_gotBeat_34 rfl rfl hR hF h (fun S M2 h hR hF => ?_)
    refine vi_aload_n C dX12_gotBeat_35 rfl rfl ?_
    refine r_geta C dX12_gotBeat_36 rfl fX12_73 rfl hR rfl ?_
    refine vi_iload_n C dX12_gotBeat_39 rfl rfl ?_
    refine r_iaload C dX12_gotBeat_40 rfl rfl hR h (fun v3 h => ?_)
    refine r_jn h (fun k => ∀ (M9 : vM), k M9 = some R → ∀ S, RM S sz m b M9 → rF S0 S m b → vi_W E X 5 (vi_Z E X (Q0 S0 sz m b R) 0 0) 59 [(0, .ref m), (1, .int (a1)), (2, .int (a2)), (4, .int (a4))] [] S sz 0 0) ?_ ?_
    · intro M9 h S hR hF
      refine vi_iload C dX12_gotBeat_59 rfl rfl ?_
      refine vi_aload_n C dX12_gotBeat_61 rfl rfl ?_
      refine r_geta C dX12_gotBeat_62 rfl fX12_37 rfl hR rfl ?_
      refine vi_iload_n C dX12_gotBeat_65 rfl rfl ?_
      refine r_iaload C dX12_gotBeat_66 rfl rfl hR h (fun v10 h => ?_)
      refine vi_icmp_le (t' := 92) C dX12_gotBeat_67 rfl (by decide) (fun c16 => ?_) (fun c16 => ?_)
      · replace h := iT c16 h
        refine vi_iload C dX12_gotBeat_92 rfl rfl ?_
        refine vi_aload_n C dX12_gotBeat_94 rfl rfl ?_
        refine r_geta C dX12_gotBeat_95 rfl fX12_37 rfl hR rfl ?_
        refine vi_iload_n C dX12_gotBeat_98 rfl rfl ?_
        refine r_iaload C dX12_gotBeat_99 rfl rfl hR h (fun v11 h => ?_)
        refine vi_icmp_ge (t' := 113) C dX12_gotBeat_100 rfl (by decide) (fun c13 => ?_) (fun c13 => ?_)
        · replace h := iT c13 h
          exact r_ret0 C dX12_gotBeat_113 rfl hR hF h
        · replace h := iN c13 h
          refine vi_aload_n C dX12_gotBeat_103 rfl rfl ?_
          refine vi_iload_n C dX12_gotBeat_104 rfl rfl ?_
          refine vi_iload_n C dX12_gotBeat_105 rfl rfl ?_
          refine vi_iload C dX12_gotBeat_106 rfl rfl ?_
          refine vi_iconst (v := 1) C dX12_gotBeat_108 rfl (by decide) ?_
          refine vi_iadd C dX12_gotBeat_109 rfl ?_
          refine r_cv0 C [.int (a1), .int (a2), .int ((a4 + (1 : Int32)))] [] dX12_gotBeat_110 rfl ivX12_329 imX12_help rfl hR hF h (fun _ e => p_X12_help e hR) rfl (Nat.le_of_ble_eq_true rfl) ⟨by decide, by decide⟩ ⟨Nat.le_refl _, Nat.le_refl _⟩ (fun S M12 h hR hF => ?_)
          exact r_ret0 C dX12_gotBeat_113 rfl hR hF h
      · replace h := iN c16 h
        refine vi_aload_n C dX12_gotBeat_70 rfl rfl ?_
        refine vi_bipush (v := 6) C dX12_gotBeat_71 rfl (by decide) ?_
        refine vi_iload_n C dX12_gotBeat_73 rfl rfl ?_
        refine vi_iload_n C dX12_gotBeat_74 rfl rfl ?_
        refine vi_iconst (v := 0) C dX12_gotBeat_75 rfl (by decide) ?_
        refine vi_aload_n C dX12_gotBeat_76 rfl rfl ?_
        refine r_geta C dX12_gotBeat_77 rfl fX12_37 rfl hR rfl ?_
        refine vi_iload_n C dX12_gotBeat_80 rfl rfl ?_
        refine r_iaload C dX12_gotBeat_81 rfl rfl hR h (fun v14 h => ?_)
        refine vi_iconst (v := 1) C dX12_gotBeat_82 rfl (by decide) ?_
        refine vi_iadd C dX12_gotBeat_83 rfl ?_
        refine vi_iconst (v := 0) C dX12_gotBeat_84 rfl (by decide) ?_
        refine vi_iconst (v := 0) C dX12_gotBeat_85 rfl (by decide) ?_
        refine r_cv0 C [.int ((6 : Int32)), .int (a1), .int (a2), .int ((0 : Int32)), .int ((v14 + (1 : Int32))), .int ((0 : Int32)), .int ((0 : Int32))] [] dX12_gotBeat_86 rfl ivX12_299 imX12_send rfl hR hF h (fun _ e => p_X12_send e hR) rfl (Nat.le_of_ble_eq_true rfl) ⟨by decide, by decide⟩ ⟨Nat.le_refl _, Nat.le_refl _⟩ (fun S M15 h hR hF => ?_)
        refine vi_goto (t' := 113) C dX12_gotBeat_89 (by decide) ?_
        exact r_ret0 C dX12_gotBeat_113 rfl hR hF h
    · intro k59_4 h59_4 h
      refine vi_if_le (t' := 59) C dX12_gotBeat_41 rfl (by decide) (fun c8 => ?_) (fun c8 => ?_)
      · replace h := iT c8 h
        exact vi_cut [(0, .ref m), (1, .int (a1)), (2, .int (a2)), (4, .int (a4))] ⟨rfl, rfl, rfl, rfl, trivial⟩ (h59_4 _ h _ hR hF)
      · replace h := iN c8 h
        refine vi_aload_n C dX12_gotBeat_44 rfl rfl ?_
        refine r_geta C dX12_gotBeat_45 rfl fX12_76 rfl hR rfl ?_
        refine vi_iload_n C dX12_gotBeat_48 rfl rfl ?_
        refine r_iaload C dX12_gotBeat_49 rfl rfl hR h (fun v5 h => ?_)
        refine vi_iload_n C dX12_gotBeat_50 rfl rfl ?_
        refine vi_icmp_ge (t' := 59) C dX12_gotBeat_51 rfl (by decide) (fun c7 => ?_) (fun c7 => ?_)
        · replace h := iT c7 h
          exact vi_cut [(0, .ref m), (1, .int (a1)), (2, .int (a2)), (4, .int (a4))] ⟨rfl, rfl, rfl, rfl, trivial⟩ (h59_4 _ h _ hR hF)
        · replace h := iN c7 h
          refine vi_aload_n C dX12_gotBeat_54 rfl rfl ?_
          refine vi_iload_n C dX12_gotBeat_55 rfl rfl ?_
          refine r_cv0 C [.int (a1)] [] dX12_gotBeat_56 rfl ivX12_284 imX12_follow rfl hR hF h (fun _ e => p_X12_follow e hR) rfl (Nat.le_of_ble_eq_true rfl) ⟨by decide, by decide⟩ ⟨Nat.le_refl _, Nat.le_refl _⟩ (fun S M6 h hR hF => ?_)
          exact vi_cut [(0, .ref m), (1, .int (a1)), (2, .int (a2)), (4, .int (a4))] ⟨rfl, rfl, rfl, rfl, trivial⟩ (h59_4 _ h _ hR hF)
  · replace h := iN c19 h
    refine vi_aload_n C dX12_gotBeat_10 rfl rfl ?_
    refine vi_bipush (v := 7) C dX12_gotBeat_11 rfl (by decide) ?_
    refine vi_iload_n C dX12_gotBeat_13 rfl rfl ?_
    refine vi_iload_n C dX12_gotBeat_14 rfl rfl ?_
    refine vi_aload_n C dX12_gotBeat_15 rfl rfl ?_
    refine r_geta C dX12_gotBeat_16 rfl fX12_46 rfl hR rfl ?_
    refine vi_iload_n C dX12_gotBeat_19 rfl rfl ?_
    refine r_iaload C dX12_gotBeat_20 rfl rfl hR h (fun v17 h => ?_)
    refine vi_iconst (v := 0) C dX12_gotBeat_21 rfl (by decide) ?_
    refine vi_iconst (v := 0) C dX12_gotBeat_22 rfl (by decide) ?_
    refine vi_iconst (v := 0) C dX12_gotBeat_23 rfl (by decide) ?_
    refine r_cv0 C [.int ((7 : Int32)), .int (a1), .int (a2), .int (v17), .int ((0 : Int32)), .int ((0 : Int32)), .int ((0 : Int32))] [] dX12_gotBeat_24 rfl ivX12_299 imX12_send rfl hR hF h (fun _ e => p_X12_send e hR) rfl (Nat.le_of_ble_eq_true rfl) ⟨by decide, by decide⟩ ⟨Nat.le_refl _, Nat.le_refl _⟩ (fun S M18 h hR hF => ?_)
    exact r_ret0 C dX12_gotBeat_27 rfl hR hF h

def L_X12_gotState_121 {ρ : Type}  (l1 : Int32) (kx163 : vM → Option ρ) : Nat → vM → Int32 → Option ρ
  | 0, _, _ => none
  | f + 1, M, l5 => if (100 : Int32) ≤ l5 then (kx163 M ) else ((mG M 30 (l1)).bind fun v17 => (mG M 45 (l5)).bind fun v18 => (mS M 29 ((((100 : Int32) * (((64 : Int32) * l1) + v17)) + l5)) (v18)).bind fun M19 => L_X12_gotState_121 l1 kx163 f M19 ((l5 + (1))))

def F_X12_gotState (M : vM) (a1 : Int32) (a2 : Int32) (a3 : Int32) : Option vM := (mG M 7 (a1)).bind fun v1 => if a2 ≤ v1 then (some M) else ((mG M 43 (a1)).bind fun v2 => if v2 ≤ a2 then ((mG M 43 (a1)).bind fun v3 => jn (fun (s2_46 : Int32) => (mS M 44 (a1) (s2_46)).bind fun M7 => (mS M7 43 (a1) (a2)).bind fun M8 => (mG M8 44 (a1)).bind fun v9 => (mS M8 44 (a1) ((v9 ||| ((1 : Int32) <<< (a3 &&& 31))))).bind fun M10 => b2 (F_X12_layWhole M10 (45) ((0 : Int32))) fun M11 v12 => (mG M11 44 (a1)).bind fun v13 => if v13 = (((1 : Int32) <<< (((v12 + (63 : Int32)) / (64 : Int32)) &&& 31)) - (1 : Int32)) then (lt1 (mW M11 45 ((0 : Int32))) fun M14 => (F_X12_lay M14 ((4 : Int32))).bind fun M15 => (F_X12_layState M15 (45) ((0 : Int32))).bind fun M16 => L_X12_gotState_121 (a1) (fun (M21 : vM)  => b2 (F_X12_note M21 (a1) ((4 : Int32)) ((0 : Int32)) ((0 : Int32)) ((0 : Int32))) fun M22 v23 => if v23 = 0 then (some M22) else ((F_X12_restore M22 (a1) (45) ((0 : Int32))).bind fun M24 => (F_X12_accept M24 (a1) ((0 : Int32)) ((0 : Int32))).bind fun M25 => b2 (F_X12_checkpoint M25 (a1)) fun M26 v27 => if v27 = 0 then (some M26) else ((F_X12_follow M26 (a1)).bind fun M28 => (mS M28 13 (a1) ((0 : Int32))).bind fun M29 => (F_X12_tell M29 (a1)).bind fun M30 => some M30))) fu M16 ((0 : Int32))) else (some M11)) (fun k46_4 => if a2 ≤ v3 then ((mG M 44 (a1)).bind fun v5 => (k46_4 (v5))) else ((k46_4 ((0 : Int32)))))) else (some M))

set_option maxRecDepth 100000 in
set_option maxHeartbeats 4000000 in
theorem w_X12_gotState_121 {E : vE} {X : vX} {S0 : vS} {sz m b : Nat} {ρ : Type} {R : ρ} {Z : State → Prop} {l1 : Int32} {kx163 : vM → Option ρ} (C : vi_C E X yX12_gotState cX12_gotState 6 none 6 0 0 (45 * 6)) (hx163 : ∀ (M : vM) , kx163 M  = some R → ∀ S, RM S sz m b M → rF S0 S m b → vi_W E X 6 Z 163 [(0, .ref m), (1, .int (l1))] [] S sz 0 0) : ∀ (f : Nat) (M : vM) (l5 : Int32), L_X12_gotState_121 l1 kx163 f M l5 = some R → ∀ S, RM S sz m b M → rF S0 S m b → vi_W E X 6 Z 121 [(0, .ref m), (1, .int (l1)), (5, .int (l5))] [] S sz 0 0 := by
  intro f
  induction f with
  | zero => intro M l5 h; cases h
  | succ f ih =>
    intro M l5 h S hR hF
    rw [L_X12_gotState_121] at h
    refine vi_iload C dX12_gotState_121 rfl rfl ?_
    refine vi_bipush (v := 100) C dX12_gotState_123 rfl (by decide) ?_
    refine vi_icmp_ge (t' := 163) C dX12_gotState_125 rfl (by decide) (fun c20 => ?_) (fun c20 => ?_)
    · replace h := iT c20 h
      exact vi_cut [(0, .ref m), (1, .int (l1))] ⟨rfl, rfl, trivial⟩ (hx163 _  h _ hR hF)
    · replace h := iN c20 h
      refine vi_aload_n C dX12_gotState_128 rfl rfl ?_
      refine r_geta C dX12_gotState_129 rfl fX12_104 rfl hR rfl ?_
      refine vi_bipush (v := 100) C dX12_gotState_132 rfl (by decide) ?_
      refine vi_bipush (v := 64) C dX12_gotState_134 rfl (by decide) ?_
      refine vi_iload_n C dX12_gotState_136 rfl rfl ?_
      refine vi_imul C dX12_gotState_137 rfl ?_
      refine vi_aload_n C dX12_gotState_138 rfl rfl ?_
      refine r_geta C dX12_gotState_139 rfl fX12_107 rfl hR rfl ?_
      refine vi_iload_n C dX12_gotState_142 rfl rfl ?_
      refine r_iaload C dX12_gotState_143 rfl rfl hR h (fun v17 h => ?_)
      refine vi_iadd C dX12_gotState_144 rfl ?_
      refine vi_imul C dX12_gotState_145 rfl ?_
      refine vi_iload C dX12_gotState_146 rfl rfl ?_
      refine vi_iadd C dX12_gotState_148 rfl ?_
      refine vi_aload_n C dX12_gotState_149 rfl rfl ?_
      refine r_geta C dX12_gotState_150 rfl fX12_154 rfl hR rfl ?_
      refine vi_iload C dX12_gotState_153 rfl rfl ?_
      refine r_iaload C dX12_gotState_155 rfl rfl hR h (fun v18 h => ?_)
      refine r_iastore C dX12_gotState_156 rfl rfl hR hF h (fun S M19 h hR hF => ?_)
      refine vi_iincv (v := 1) C dX12_gotState_157 rfl rfl (by decide) (by decide) ?_
      refine vi_goto (t' := 121) C dX12_gotState_160 (by decide) ?_
      exact vi_cut [(0, .ref m), (1, .int (l1)), (5, .int ((l5 + (1))))] ⟨rfl, rfl, rfl, trivial⟩ (ih _ _ h _ hR hF)

set_option maxRecDepth 100000 in
set_option maxHeartbeats 4000000 in
theorem p_X12_gotState {M : vM} {R : vM} {a1 : Int32} {a2 : Int32} {a3 : Int32} (h : F_X12_gotState M a1 a2 a3 = some R) {E : vE} {S0 : vS} {sz m b : Nat} (hR : RM S0 sz m b M) : vi_Met E yX12_gotState cX12_gotState 6 none 6 0 0 [.ref m, .int (a1), .int (a2), .int (a3)] S0 sz (Q0 S0 sz m b R) := by
  refine vi_met (by decide) (Nat.le_of_ble_eq_true rfl) ?_
  intro X C
  have hF := rF.refl S0 m b
  unfold F_X12_gotState at h
  refine vi_iload_n C dX12_gotState_0 rfl rfl ?_
  refine vi_aload_n C dX12_gotState_1 rfl rfl ?_
  refine r_geta C dX12_gotState_2 rfl fX12_37 rfl hR rfl ?_
  refine vi_iload_n C dX12_gotState_5 rfl rfl ?_
  refine r_iaload C dX12_gotState_6 rfl rfl hR h (fun v1 h => ?_)
  refine vi_icmp_le (t' := 20) C dX12_gotState_7 rfl (by decide) (fun c35 => ?_) (fun c35 => ?_)
  · replace h := iT c35 h
    exact r_ret0 C dX12_gotState_20 rfl hR hF h
  · replace h := iN c35 h
    refine vi_iload_n C dX12_gotState_10 rfl rfl ?_
    refine vi_aload_n C dX12_gotState_11 rfl rfl ?_
    refine r_geta C dX12_gotState_12 rfl fX12_148 rfl hR rfl ?_
    refine vi_iload_n C dX12_gotState_15 rfl rfl ?_
    refine r_iaload C dX12_gotState_16 rfl rfl hR h (fun v2 h => ?_)
    refine vi_icmp_ge (t' := 21) C dX12_gotState_17 rfl (by decide) (fun c34 => ?_) (fun c34 => ?_)
    · replace h := iT c34 h
      refine vi_aload_n C dX12_gotState_21 rfl rfl ?_
      refine r_geta C dX12_gotState_22 rfl fX12_151 rfl hR rfl ?_
      refine vi_iload_n C dX12_gotState_25 rfl rfl ?_
      refine vi_iload_n C dX12_gotState_26 rfl rfl ?_
      refine vi_aload_n C dX12_gotState_27 rfl rfl ?_
      refine r_geta C dX12_gotState_28 rfl fX12_148 rfl hR rfl ?_
      refine vi_iload_n C dX12_gotState_31 rfl rfl ?_
      refine r_iaload C dX12_gotState_32 rfl rfl hR h (fun v3 h => ?_)
      refine r_jn h (fun k => ∀ (s2_46 : Int32), k s2_46 = some R → ∀ S, RM S sz m b M → rF S0 S m b → vi_W E X 6 (vi_Z E X (Q0 S0 sz m b R) 0 0) 46 [(0, .ref m), (1, .int (a1)), (2, .int (a2)), (3, .int (a3))] [.int (s2_46), .int (a1), .ref (b + 44)] S sz 0 0) ?_ ?_
      · intro s2_46 h S hR hF
        refine r_iastore C dX12_gotState_46 rfl rfl hR hF h (fun S M7 h hR hF => ?_)
        refine vi_aload_n C dX12_gotState_47 rfl rfl ?_
        refine r_geta C dX12_gotState_48 rfl fX12_148 rfl hR rfl ?_
        refine vi_iload_n C dX12_gotState_51 rfl rfl ?_
        refine vi_iload_n C dX12_gotState_52 rfl rfl ?_
        refine r_iastore C dX12_gotState_53 rfl rfl hR hF h (fun S M8 h hR hF => ?_)
        refine vi_aload_n C dX12_gotState_54 rfl rfl ?_
        refine r_geta C dX12_gotState_55 rfl fX12_151 rfl hR rfl ?_
        refine vi_iload_n C dX12_gotState_58 rfl rfl ?_
        refine vi_dup2 C dX12_gotState_59 rfl rfl rfl ?_
        refine r_iaload C dX12_gotState_60 rfl rfl hR h (fun v9 h => ?_)
        refine vi_iconst (v := 1) C dX12_gotState_61 rfl (by decide) ?_
        refine vi_iload_n C dX12_gotState_62 rfl rfl ?_
        refine vi_ishl C dX12_gotState_63 rfl ?_
        refine vi_ior C dX12_gotState_64 rfl ?_
        refine r_iastore C dX12_gotState_65 rfl rfl hR hF h (fun S M10 h hR hF => ?_)
        refine vi_aload_n C dX12_gotState_66 rfl rfl ?_
        refine vi_aload_n C dX12_gotState_67 rfl rfl ?_
        refine r_geta C dX12_gotState_68 rfl fX12_154 rfl hR rfl ?_
        refine vi_iconst (v := 0) C dX12_gotState_71 rfl (by decide) ?_
        refine r_cv1 C [.ref (b + 45), .int ((0 : Int32))] [] dX12_gotState_72 rfl ivX12_303 imX12_layWhole rfl hR hF h (fun _ e => p_X12_layWhole e hR) rfl (Nat.le_of_ble_eq_true rfl) ⟨by decide, by decide⟩ ⟨Nat.le_refl _, Nat.le_refl _⟩ (fun S M11 v12 h hR hF => ?_)
        refine vi_bipush (v := 63) C dX12_gotState_75 rfl (by decide) ?_
        refine vi_iadd C dX12_gotState_77 rfl ?_
        refine vi_bipush (v := 64) C dX12_gotState_78 rfl (by decide) ?_
        refine vi_idiv C dX12_gotState_80 rfl (by decide) ?_
        refine vi_istore C dX12_gotState_81 rfl (by decide) ?_
        refine vi_aload_n C dX12_gotState_83 rfl rfl ?_
        refine r_geta C dX12_gotState_84 rfl fX12_151 rfl hR rfl ?_
        refine vi_iload_n C dX12_gotState_87 rfl rfl ?_
        refine r_iaload C dX12_gotState_88 rfl rfl hR h (fun v13 h => ?_)
        refine vi_iconst (v := 1) C dX12_gotState_89 rfl (by decide) ?_
        refine vi_iload C dX12_gotState_90 rfl rfl ?_
        refine vi_ishl C dX12_gotState_92 rfl ?_
        refine vi_iconst (v := 1) C dX12_gotState_93 rfl (by decide) ?_
        refine vi_isub C dX12_gotState_94 rfl ?_
        refine vi_icmp_eq (t' := 99) C dX12_gotState_95 rfl (by decide) (fun c33 => ?_) (fun c33 => ?_)
        · replace h := iT c33 h
          refine vi_aload_n C dX12_gotState_99 rfl rfl ?_
          refine vi_iconst (v := 0) C dX12_gotState_100 rfl (by decide) ?_
          refine r_puti C dX12_gotState_101 rfl (fpX12_218 _) rfl hR hF h (fun S M14 h hR hF => ?_)
          refine vi_aload_n C dX12_gotState_104 rfl rfl ?_
          refine vi_iconst (v := 4) C dX12_gotState_105 rfl (by decide) ?_
          refine r_cv0 C [.int ((4 : Int32))] [] dX12_gotState_106 rfl ivX12_221 imX12_lay rfl hR hF h (fun _ e => p_X12_lay e hR) rfl (Nat.le_of_ble_eq_true rfl) ⟨by decide, by decide⟩ ⟨Nat.le_refl _, Nat.le_refl _⟩ (fun S M15 h hR hF => ?_)
          refine vi_aload_n C dX12_gotState_109 rfl rfl ?_
          refine vi_aload_n C dX12_gotState_110 rfl rfl ?_
          refine r_geta C dX12_gotState_111 rfl fX12_154 rfl hR rfl ?_
          refine vi_iconst (v := 0) C dX12_gotState_114 rfl (by decide) ?_
          refine r_cv0 C [.ref (b + 45), .int ((0 : Int32))] [] dX12_gotState_115 rfl ivX12_264 imX12_layState rfl hR hF h (fun _ e => p_X12_layState e hR) rfl (Nat.le_of_ble_eq_true rfl) ⟨by decide, by decide⟩ ⟨Nat.le_refl _, Nat.le_refl _⟩ (fun S M16 h hR hF => ?_)
          refine vi_iconst (v := 0) C dX12_gotState_118 rfl (by decide) ?_
          refine vi_istore C dX12_gotState_119 rfl (by decide) ?_
          refine vi_cut [(0, .ref m), (1, .int (a1)), (5, .int ((0 : Int32)))] ⟨rfl, rfl, rfl, trivial⟩ (w_X12_gotState_121 C ?_ _ _ _ h _ hR hF)
          · intro M21 h S hR hF
            refine vi_aload_n C dX12_gotState_163 rfl rfl ?_
            refine vi_iload_n C dX12_gotState_164 rfl rfl ?_
            refine vi_iconst (v := 4) C dX12_gotState_165 rfl (by decide) ?_
            refine vi_iconst (v := 0) C dX12_gotState_166 rfl (by decide) ?_
            refine vi_iconst (v := 0) C dX12_gotState_167 rfl (by decide) ?_
            refine vi_iconst (v := 0) C dX12_gotState_168 rfl (by decide) ?_
            refine r_cv1 C [.int (a1), .int ((4 : Int32)), .int ((0 : Int32)), .int ((0 : Int32)), .int ((0 : Int32))] [] dX12_gotState_169 rfl ivX12_253 imX12_note rfl hR hF h (fun _ e => p_X12_note e hR) rfl (Nat.le_of_ble_eq_true rfl) ⟨by decide, by decide⟩ ⟨Nat.le_refl _, Nat.le_refl _⟩ (fun S M22 v23 h hR hF => ?_)
            refine vi_if_ne (t' := 176) C dX12_gotState_172 rfl (by decide) (fun c32 => ?_) (fun c32 => ?_)
            · replace h := iN c32 h
              refine vi_aload_n C dX12_gotState_176 rfl rfl ?_
              refine vi_iload_n C dX12_gotState_177 rfl rfl ?_
              refine vi_aload_n C dX12_gotState_178 rfl rfl ?_
              refine r_geta C dX12_gotState_179 rfl fX12_154 rfl hR rfl ?_
              refine vi_iconst (v := 0) C dX12_gotState_182 rfl (by decide) ?_
              refine r_cv0 C [.int (a1), .ref (b + 45), .int ((0 : Int32))] [] dX12_gotState_183 rfl ivX12_278 imX12_restore rfl hR hF h (fun _ e => p_X12_restore e hR) rfl (Nat.le_of_ble_eq_true rfl) ⟨by decide, by decide⟩ ⟨Nat.le_refl _, Nat.le_refl _⟩ (fun S M24 h hR hF => ?_)
              refine vi_aload_n C dX12_gotState_186 rfl rfl ?_
              refine vi_iload_n C dX12_gotState_187 rfl rfl ?_
              refine vi_iconst (v := 0) C dX12_gotState_188 rfl (by decide) ?_
              refine vi_iconst (v := 0) C dX12_gotState_189 rfl (by decide) ?_
              refine r_cv0 C [.int (a1), .int ((0 : Int32)), .int ((0 : Int32))] [] dX12_gotState_190 rfl ivX12_272 imX12_accept rfl hR hF h (fun _ e => p_X12_accept e hR) rfl (Nat.le_of_ble_eq_true rfl) ⟨by decide, by decide⟩ ⟨Nat.le_refl _, Nat.le_refl _⟩ (fun S M25 h hR hF => ?_)
              refine vi_aload_n C dX12_gotState_193 rfl rfl ?_
              refine vi_iload_n C dX12_gotState_194 rfl rfl ?_
              refine r_cv1 C [.int (a1)] [] dX12_gotState_195 rfl ivX12_281 imX12_checkpoint rfl hR hF h (fun _ e => p_X12_checkpoint e hR) rfl (Nat.le_of_ble_eq_true rfl) ⟨by decide, by decide⟩ ⟨Nat.le_refl _, Nat.le_refl _⟩ (fun S M26 v27 h hR hF => ?_)
              refine vi_if_ne (t' := 202) C dX12_gotState_198 rfl (by decide) (fun c31 => ?_) (fun c31 => ?_)
              · replace h := iN c31 h
                refine vi_aload_n C dX12_gotState_202 rfl rfl ?_
                refine vi_iload_n C dX12_gotState_203 rfl rfl ?_
                refine r_cv0 C [.int (a1)] [] dX12_gotState_204 rfl ivX12_284 imX12_follow rfl hR hF h (fun _ e => p_X12_follow e hR) rfl (Nat.le_of_ble_eq_true rfl) ⟨by decide, by decide⟩ ⟨Nat.le_refl _, Nat.le_refl _⟩ (fun S M28 h hR hF => ?_)
                refine vi_aload_n C dX12_gotState_207 rfl rfl ?_
                refine r_geta C dX12_gotState_208 rfl fX12_55 rfl hR rfl ?_
                refine vi_iload_n C dX12_gotState_211 rfl rfl ?_
                refine vi_iconst (v := 0) C dX12_gotState_212 rfl (by decide) ?_
                refine r_iastore C dX12_gotState_213 rfl rfl hR hF h (fun S M29 h hR hF => ?_)
                refine vi_aload_n C dX12_gotState_214 rfl rfl ?_
                refine vi_iload_n C dX12_gotState_215 rfl rfl ?_
                refine r_cv0 C [.int (a1)] [] dX12_gotState_216 rfl ivX12_326 imX12_tell rfl hR hF h (fun _ e => p_X12_tell e hR) rfl (Nat.le_of_ble_eq_true rfl) ⟨by decide, by decide⟩ ⟨Nat.le_refl _, Nat.le_refl _⟩ (fun S M30 h hR hF => ?_)
                exact r_ret0 C dX12_gotState_219 rfl hR hF h
              · replace h := iT c31 h
                exact r_ret0 C dX12_gotState_201 rfl hR hF h
            · replace h := iT c32 h
              exact r_ret0 C dX12_gotState_175 rfl hR hF h
        · replace h := iN c33 h
          exact r_ret0 C dX12_gotState_98 rfl hR hF h
      · intro k46_4 h46_4 h
        refine vi_icmp_le (t' := 40) C dX12_gotState_33 rfl (by decide) (fun c6 => ?_) (fun c6 => ?_)
        · replace h := iT c6 h
          refine vi_aload_n C dX12_gotState_40 rfl rfl ?_
          refine r_geta C dX12_gotState_41 rfl fX12_151 rfl hR rfl ?_
          refine vi_iload_n C dX12_gotState_44 rfl rfl ?_
          refine r_iaload C dX12_gotState_45 rfl rfl hR h (fun v5 h => ?_)
          exact vi_cut [(0, .ref m), (1, .int (a1)), (2, .int (a2)), (3, .int (a3))] ⟨rfl, rfl, rfl, rfl, trivial⟩ (h46_4 _ h _ hR hF)
        · replace h := iN c6 h
          refine vi_iconst (v := 0) C dX12_gotState_36 rfl (by decide) ?_
          refine vi_goto (t' := 46) C dX12_gotState_37 (by decide) ?_
          exact vi_cut [(0, .ref m), (1, .int (a1)), (2, .int (a2)), (3, .int (a3))] ⟨rfl, rfl, rfl, rfl, trivial⟩ (h46_4 _ h _ hR hF)
    · replace h := iN c34 h
      exact r_ret0 C dX12_gotState_20 rfl hR hF h

def F_X12_comes (M : vM) (a1 : Int32) (a2 : Int32) (a3 : Int32) (a4 : Int32) (a5 : Int32) (a6 : Int32) (a7 : Int32) : Option vM := (mG M 25 (a3)).bind fun v1 => jn (fun (s2_27 : Int32) => (mS M 25 (a3) (s2_27)).bind fun M5 => if a1 = 1 then ((F_X12_prepared M5 (a3) (a2) (a4) (a5)).bind fun M7 => some M7) else if a1 = 2 then ((F_X12_gotPromise M5 (a3) (a2) (a4) (a5) (a6) (a7)).bind fun M9 => some M9) else if a1 = 3 then ((F_X12_gotAccept M5 (a3) (a2) (a4) (a5) (a6)).bind fun M11 => some M11) else if a1 = 4 then ((F_X12_gotAccepted M5 (a3) (a2) (a4) (a5)).bind fun M13 => some M13) else if a1 = 5 then ((mG M5 7 (a3)).bind fun v15 => if a5 = (v15 + (1 : Int32)) then (b2 (F_X12_learn M5 (a3) (a6)) fun M20 v21 => some M20) else ((mG M5 7 (a3)).bind fun v16 => if a5 ≤ (v16 + (1 : Int32)) then (some M5) else ((mG M5 7 (a3)).bind fun v17 => (F_X12_send M5 ((6 : Int32)) (a3) (a2) ((0 : Int32)) ((v17 + (1 : Int32))) ((0 : Int32)) ((0 : Int32))).bind fun M18 => some M18))) else if a1 = 6 then ((mG M5 7 (a3)).bind fun v24 => if v24 < a5 then (some M5) else ((F_X12_help M5 (a3) (a2) (a5)).bind fun M25 => some M25)) else if a1 = 7 then ((mG M5 19 (a3)).bind fun v28 => if v28 ≤ 0 then (some M5) else ((mG M5 20 (a3)).bind fun v29 => if a4 ≤ v29 then (some M5) else ((F_X12_follow M5 (a3)).bind fun M30 => some M30))) else if a1 = 8 then ((F_X12_gotState M5 (a3) (a5) ((M5.1 58))).bind fun M34 => some M34) else if a1 = 9 then ((F_X12_gotForward M5 (a3) (a6)).bind fun M36 => some M36) else ((F_X12_gotBeat M5 (a3) (a2) (a4) (a5)).bind fun M38 => some M38)) (fun k27_2 => if a4 ≤ v1 then ((mG M 25 (a3)).bind fun v3 => (k27_2 (v3))) else ((k27_2 (a4))))

set_option maxRecDepth 100000 in
set_option maxHeartbeats 4000000 in
theorem p_X12_comes {M : vM} {R : vM} {a1 : Int32} {a2 : Int32} {a3 : Int32} {a4 : Int32} {a5 : Int32} {a6 : Int32} {a7 : Int32} (h : F_X12_comes M a1 a2 a3 a4 a5 a6 a7 = some R) {E : vE} {S0 : vS} {sz m b : Nat} (hR : RM S0 sz m b M) : vi_Met E yX12_comes cX12_comes 9 none 10 0 0 [.ref m, .int (a1), .int (a2), .int (a3), .int (a4), .int (a5), .int (a6), .int (a7)] S0 sz (Q0 S0 sz m b R) := by
  refine vi_met (by decide) (Nat.le_of_ble_eq_true rfl) ?_
  intro X C
  have hF := rF.refl S0 m b
  unfold F_X12_comes at h
  refine vi_aload_n C dX12_comes_0 rfl rfl ?_
  refine r_geta C dX12_comes_1 rfl fX12_91 rfl hR rfl ?_
  refine vi_iload_n C dX12_comes_4 rfl rfl ?_
  refine vi_iload C dX12_comes_5 rfl rfl ?_
  refine vi_aload_n C dX12_comes_7 rfl rfl ?_
  refine r_geta C dX12_comes_8 rfl fX12_91 rfl hR rfl ?_
  refine vi_iload_n C dX12_comes_11 rfl rfl ?_
  refine r_iaload C dX12_comes_12 rfl rfl hR h (fun v1 h => ?_)
  refine r_jn h (fun k => ∀ (s2_27 : Int32), k s2_27 = some R → ∀ S, RM S sz m b M → rF S0 S m b → vi_W E X 9 (vi_Z E X (Q0 S0 sz m b R) 0 0) 27 [(0, .ref m), (1, .int (a1)), (2, .int (a2)), (3, .int (a3)), (4, .int (a4)), (5, .int (a5)), (6, .int (a6)), (7, .int (a7))] [.int (s2_27), .int (a3), .ref (b + 25)] S sz 0 0) ?_ ?_
  · intro s2_27 h S hR hF
    refine r_iastore C dX12_comes_27 rfl rfl hR hF h (fun S M5 h hR hF => ?_)
    refine vi_iload_n C dX12_comes_28 rfl rfl ?_
    by_cases c8 : a1 = 1
    · replace h := iT c8 h
      refine vi_tswI (v := 1) (t' := 80) C c8 dX12_comes_29 (by decide) (by decide) rfl (by decide) ?_
      refine vi_aload_n C dX12_comes_80 rfl rfl ?_
      refine vi_iload_n C dX12_comes_81 rfl rfl ?_
      refine vi_iload_n C dX12_comes_82 rfl rfl ?_
      refine vi_iload C dX12_comes_83 rfl rfl ?_
      refine vi_iload C dX12_comes_85 rfl rfl ?_
      refine r_cv0 C [.int (a3), .int (a2), .int (a4), .int (a5)] [] dX12_comes_87 rfl ivX12_344 imX12_prepared rfl hR hF h (fun _ e => p_X12_prepared e hR) rfl (Nat.le_of_ble_eq_true rfl) ⟨by decide, by decide⟩ ⟨Nat.le_refl _, Nat.le_refl _⟩ (fun S M7 h hR hF => ?_)
      refine vi_goto (t' := 282) C dX12_comes_90 (by decide) ?_
      exact r_ret0 C dX12_comes_282 rfl hR hF h
    replace h := iN c8 h
    by_cases c10 : a1 = 2
    · replace h := iT c10 h
      refine vi_tswI (v := 2) (t' := 93) C c10 dX12_comes_29 (by decide) (by decide) rfl (by decide) ?_
      refine vi_aload_n C dX12_comes_93 rfl rfl ?_
      refine vi_iload_n C dX12_comes_94 rfl rfl ?_
      refine vi_iload_n C dX12_comes_95 rfl rfl ?_
      refine vi_iload C dX12_comes_96 rfl rfl ?_
      refine vi_iload C dX12_comes_98 rfl rfl ?_
      refine vi_iload C dX12_comes_100 rfl rfl ?_
      refine vi_iload C dX12_comes_102 rfl rfl ?_
      refine r_cv0 C [.int (a3), .int (a2), .int (a4), .int (a5), .int (a6), .int (a7)] [] dX12_comes_104 rfl ivX12_348 imX12_gotPromise rfl hR hF h (fun _ e => p_X12_gotPromise e hR) rfl (Nat.le_of_ble_eq_true rfl) ⟨by decide, by decide⟩ ⟨Nat.le_refl _, Nat.le_refl _⟩ (fun S M9 h hR hF => ?_)
      refine vi_goto (t' := 282) C dX12_comes_107 (by decide) ?_
      exact r_ret0 C dX12_comes_282 rfl hR hF h
    replace h := iN c10 h
    by_cases c12 : a1 = 3
    · replace h := iT c12 h
      refine vi_tswI (v := 3) (t' := 110) C c12 dX12_comes_29 (by decide) (by decide) rfl (by decide) ?_
      refine vi_aload_n C dX12_comes_110 rfl rfl ?_
      refine vi_iload_n C dX12_comes_111 rfl rfl ?_
      refine vi_iload_n C dX12_comes_112 rfl rfl ?_
      refine vi_iload C dX12_comes_113 rfl rfl ?_
      refine vi_iload C dX12_comes_115 rfl rfl ?_
      refine vi_iload C dX12_comes_117 rfl rfl ?_
      refine r_cv0 C [.int (a3), .int (a2), .int (a4), .int (a5), .int (a6)] [] dX12_comes_119 rfl ivX12_352 imX12_gotAccept rfl hR hF h (fun _ e => p_X12_gotAccept e hR) rfl (Nat.le_of_ble_eq_true rfl) ⟨by decide, by decide⟩ ⟨Nat.le_refl _, Nat.le_refl _⟩ (fun S M11 h hR hF => ?_)
      refine vi_goto (t' := 282) C dX12_comes_122 (by decide) ?_
      exact r_ret0 C dX12_comes_282 rfl hR hF h
    replace h := iN c12 h
    by_cases c14 : a1 = 4
    · replace h := iT c14 h
      refine vi_tswI (v := 4) (t' := 125) C c14 dX12_comes_29 (by decide) (by decide) rfl (by decide) ?_
      refine vi_aload_n C dX12_comes_125 rfl rfl ?_
      refine vi_iload_n C dX12_comes_126 rfl rfl ?_
      refine vi_iload_n C dX12_comes_127 rfl rfl ?_
      refine vi_iload C dX12_comes_128 rfl rfl ?_
      refine vi_iload C dX12_comes_130 rfl rfl ?_
      refine r_cv0 C [.int (a3), .int (a2), .int (a4), .int (a5)] [] dX12_comes_132 rfl ivX12_355 imX12_gotAccepted rfl hR hF h (fun _ e => p_X12_gotAccepted e hR) rfl (Nat.le_of_ble_eq_true rfl) ⟨by decide, by decide⟩ ⟨Nat.le_refl _, Nat.le_refl _⟩ (fun S M13 h hR hF => ?_)
      refine vi_goto (t' := 282) C dX12_comes_135 (by decide) ?_
      exact r_ret0 C dX12_comes_282 rfl hR hF h
    replace h := iN c14 h
    by_cases c23 : a1 = 5
    · replace h := iT c23 h
      refine vi_tswI (v := 5) (t' := 138) C c23 dX12_comes_29 (by decide) (by decide) rfl (by decide) ?_
      refine vi_iload C dX12_comes_138 rfl rfl ?_
      refine vi_aload_n C dX12_comes_140 rfl rfl ?_
      refine r_geta C dX12_comes_141 rfl fX12_37 rfl hR rfl ?_
      refine vi_iload_n C dX12_comes_144 rfl rfl ?_
      refine r_iaload C dX12_comes_145 rfl rfl hR h (fun v15 h => ?_)
      refine vi_iconst (v := 1) C dX12_comes_146 rfl (by decide) ?_
      refine vi_iadd C dX12_comes_147 rfl ?_
      refine vi_icmp_ne (t' := 163) C dX12_comes_148 rfl (by decide) (fun c22 => ?_) (fun c22 => ?_)
      · replace h := iN c22 h
        refine vi_iload C dX12_comes_163 rfl rfl ?_
        refine vi_aload_n C dX12_comes_165 rfl rfl ?_
        refine r_geta C dX12_comes_166 rfl fX12_37 rfl hR rfl ?_
        refine vi_iload_n C dX12_comes_169 rfl rfl ?_
        refine r_iaload C dX12_comes_170 rfl rfl hR h (fun v16 h => ?_)
        refine vi_iconst (v := 1) C dX12_comes_171 rfl (by decide) ?_
        refine vi_iadd C dX12_comes_172 rfl ?_
        refine vi_icmp_le (t' := 282) C dX12_comes_173 rfl (by decide) (fun c19 => ?_) (fun c19 => ?_)
        · replace h := iT c19 h
          exact r_ret0 C dX12_comes_282 rfl hR hF h
        · replace h := iN c19 h
          refine vi_aload_n C dX12_comes_176 rfl rfl ?_
          refine vi_bipush (v := 6) C dX12_comes_177 rfl (by decide) ?_
          refine vi_iload_n C dX12_comes_179 rfl rfl ?_
          refine vi_iload_n C dX12_comes_180 rfl rfl ?_
          refine vi_iconst (v := 0) C dX12_comes_181 rfl (by decide) ?_
          refine vi_aload_n C dX12_comes_182 rfl rfl ?_
          refine r_geta C dX12_comes_183 rfl fX12_37 rfl hR rfl ?_
          refine vi_iload_n C dX12_comes_186 rfl rfl ?_
          refine r_iaload C dX12_comes_187 rfl rfl hR h (fun v17 h => ?_)
          refine vi_iconst (v := 1) C dX12_comes_188 rfl (by decide) ?_
          refine vi_iadd C dX12_comes_189 rfl ?_
          refine vi_iconst (v := 0) C dX12_comes_190 rfl (by decide) ?_
          refine vi_iconst (v := 0) C dX12_comes_191 rfl (by decide) ?_
          refine r_cv0 C [.int ((6 : Int32)), .int (a3), .int (a2), .int ((0 : Int32)), .int ((v17 + (1 : Int32))), .int ((0 : Int32)), .int ((0 : Int32))] [] dX12_comes_192 rfl ivX12_299 imX12_send rfl hR hF h (fun _ e => p_X12_send e hR) rfl (Nat.le_of_ble_eq_true rfl) ⟨by decide, by decide⟩ ⟨Nat.le_refl _, Nat.le_refl _⟩ (fun S M18 h hR hF => ?_)
          refine vi_goto (t' := 282) C dX12_comes_195 (by decide) ?_
          exact r_ret0 C dX12_comes_282 rfl hR hF h
      · replace h := iT c22 h
        refine vi_aload_n C dX12_comes_151 rfl rfl ?_
        refine vi_iload_n C dX12_comes_152 rfl rfl ?_
        refine vi_iload C dX12_comes_153 rfl rfl ?_
        refine r_cv1 C [.int (a3), .int (a6)] [] dX12_comes_155 rfl ivX12_338 imX12_learn rfl hR hF h (fun _ e => p_X12_learn e hR) rfl (Nat.le_of_ble_eq_true rfl) ⟨by decide, by decide⟩ ⟨Nat.le_refl _, Nat.le_refl _⟩ (fun S M20 v21 h hR hF => ?_)
        refine vi_istore C dX12_comes_158 rfl (by decide) ?_
        refine vi_goto (t' := 282) C dX12_comes_160 (by decide) ?_
        exact r_ret0 C dX12_comes_282 rfl hR hF h
    replace h := iN c23 h
    by_cases c27 : a1 = 6
    · replace h := iT c27 h
      refine vi_tswI (v := 6) (t' := 198) C c27 dX12_comes_29 (by decide) (by decide) rfl (by decide) ?_
      refine vi_iload C dX12_comes_198 rfl rfl ?_
      refine vi_aload_n C dX12_comes_200 rfl rfl ?_
      refine r_geta C dX12_comes_201 rfl fX12_37 rfl hR rfl ?_
      refine vi_iload_n C dX12_comes_204 rfl rfl ?_
      refine r_iaload C dX12_comes_205 rfl rfl hR h (fun v24 h => ?_)
      refine vi_icmp_gt (t' := 282) C dX12_comes_206 rfl (by decide) (fun c26 => ?_) (fun c26 => ?_)
      · replace h := iT c26 h
        exact r_ret0 C dX12_comes_282 rfl hR hF h
      · replace h := iN c26 h
        refine vi_aload_n C dX12_comes_209 rfl rfl ?_
        refine vi_iload_n C dX12_comes_210 rfl rfl ?_
        refine vi_iload_n C dX12_comes_211 rfl rfl ?_
        refine vi_iload C dX12_comes_212 rfl rfl ?_
        refine r_cv0 C [.int (a3), .int (a2), .int (a5)] [] dX12_comes_214 rfl ivX12_329 imX12_help rfl hR hF h (fun _ e => p_X12_help e hR) rfl (Nat.le_of_ble_eq_true rfl) ⟨by decide, by decide⟩ ⟨Nat.le_refl _, Nat.le_refl _⟩ (fun S M25 h hR hF => ?_)
        refine vi_goto (t' := 282) C dX12_comes_217 (by decide) ?_
        exact r_ret0 C dX12_comes_282 rfl hR hF h
    replace h := iN c27 h
    by_cases c33 : a1 = 7
    · replace h := iT c33 h
      refine vi_tswI (v := 7) (t' := 220) C c33 dX12_comes_29 (by decide) (by decide) rfl (by decide) ?_
      refine vi_aload_n C dX12_comes_220 rfl rfl ?_
      refine r_geta C dX12_comes_221 rfl fX12_73 rfl hR rfl ?_
      refine vi_iload_n C dX12_comes_224 rfl rfl ?_
      refine r_iaload C dX12_comes_225 rfl rfl hR h (fun v28 h => ?_)
      refine vi_if_le (t' := 282) C dX12_comes_226 rfl (by decide) (fun c32 => ?_) (fun c32 => ?_)
      · replace h := iT c32 h
        exact r_ret0 C dX12_comes_282 rfl hR hF h
      · replace h := iN c32 h
        refine vi_aload_n C dX12_comes_229 rfl rfl ?_
        refine r_geta C dX12_comes_230 rfl fX12_76 rfl hR rfl ?_
        refine vi_iload_n C dX12_comes_233 rfl rfl ?_
        refine r_iaload C dX12_comes_234 rfl rfl hR h (fun v29 h => ?_)
        refine vi_iload C dX12_comes_235 rfl rfl ?_
        refine vi_icmp_ge (t' := 282) C dX12_comes_237 rfl (by decide) (fun c31 => ?_) (fun c31 => ?_)
        · replace h := iT c31 h
          exact r_ret0 C dX12_comes_282 rfl hR hF h
        · replace h := iN c31 h
          refine vi_aload_n C dX12_comes_240 rfl rfl ?_
          refine vi_iload_n C dX12_comes_241 rfl rfl ?_
          refine r_cv0 C [.int (a3)] [] dX12_comes_242 rfl ivX12_284 imX12_follow rfl hR hF h (fun _ e => p_X12_follow e hR) rfl (Nat.le_of_ble_eq_true rfl) ⟨by decide, by decide⟩ ⟨Nat.le_refl _, Nat.le_refl _⟩ (fun S M30 h hR hF => ?_)
          refine vi_goto (t' := 282) C dX12_comes_245 (by decide) ?_
          exact r_ret0 C dX12_comes_282 rfl hR hF h
    replace h := iN c33 h
    by_cases c35 : a1 = 8
    · replace h := iT c35 h
      refine vi_tswI (v := 8) (t' := 248) C c35 dX12_comes_29 (by decide) (by decide) rfl (by decide) ?_
      refine vi_aload_n C dX12_comes_248 rfl rfl ?_
      refine vi_iload_n C dX12_comes_249 rfl rfl ?_
      refine vi_iload C dX12_comes_250 rfl rfl ?_
      refine vi_aload_n C dX12_comes_252 rfl rfl ?_
      refine r_geti C dX12_comes_253 rfl fX12_358 rfl hR ?_
      refine r_cv0 C [.int (a3), .int (a5), .int ((M5.1 58))] [] dX12_comes_256 rfl ivX12_361 imX12_gotState rfl hR hF h (fun _ e => p_X12_gotState e hR) rfl (Nat.le_of_ble_eq_true rfl) ⟨by decide, by decide⟩ ⟨Nat.le_refl _, Nat.le_refl _⟩ (fun S M34 h hR hF => ?_)
      refine vi_goto (t' := 282) C dX12_comes_259 (by decide) ?_
      exact r_ret0 C dX12_comes_282 rfl hR hF h
    replace h := iN c35 h
    by_cases c37 : a1 = 9
    · replace h := iT c37 h
      refine vi_tswI (v := 9) (t' := 262) C c37 dX12_comes_29 (by decide) (by decide) rfl (by decide) ?_
      refine vi_aload_n C dX12_comes_262 rfl rfl ?_
      refine vi_iload_n C dX12_comes_263 rfl rfl ?_
      refine vi_iload C dX12_comes_264 rfl rfl ?_
      refine r_cv0 C [.int (a3), .int (a6)] [] dX12_comes_266 rfl ivX12_364 imX12_gotForward rfl hR hF h (fun _ e => p_X12_gotForward e hR) rfl (Nat.le_of_ble_eq_true rfl) ⟨by decide, by decide⟩ ⟨Nat.le_refl _, Nat.le_refl _⟩ (fun S M36 h hR hF => ?_)
      refine vi_goto (t' := 282) C dX12_comes_269 (by decide) ?_
      exact r_ret0 C dX12_comes_282 rfl hR hF h
    replace h := iN c37 h
    have tc8 := tne (w := 1) c8 (by decide)
    have tc10 := tne (w := 2) c10 (by decide)
    have tc12 := tne (w := 3) c12 (by decide)
    have tc14 := tne (w := 4) c14 (by decide)
    have tc23 := tne (w := 5) c23 (by decide)
    have tc27 := tne (w := 6) c27 (by decide)
    have tc33 := tne (w := 7) c33 (by decide)
    have tc35 := tne (w := 8) c35 (by decide)
    have tc37 := tne (w := 9) c37 (by decide)
    refine vi_tswO (t' := 272) C dX12_comes_29 (by omega) (by decide) ?_
    refine vi_aload_n C dX12_comes_272 rfl rfl ?_
    refine vi_iload_n C dX12_comes_273 rfl rfl ?_
    refine vi_iload_n C dX12_comes_274 rfl rfl ?_
    refine vi_iload C dX12_comes_275 rfl rfl ?_
    refine vi_iload C dX12_comes_277 rfl rfl ?_
    refine r_cv0 C [.int (a3), .int (a2), .int (a4), .int (a5)] [] dX12_comes_279 rfl ivX12_367 imX12_gotBeat rfl hR hF h (fun _ e => p_X12_gotBeat e hR) rfl (Nat.le_of_ble_eq_true rfl) ⟨by decide, by decide⟩ ⟨Nat.le_refl _, Nat.le_refl _⟩ (fun S M38 h hR hF => ?_)
    exact r_ret0 C dX12_comes_282 rfl hR hF h
  · intro k27_2 h27_2 h
    refine vi_icmp_le (t' := 21) C dX12_comes_13 rfl (by decide) (fun c4 => ?_) (fun c4 => ?_)
    · replace h := iT c4 h
      refine vi_aload_n C dX12_comes_21 rfl rfl ?_
      refine r_geta C dX12_comes_22 rfl fX12_91 rfl hR rfl ?_
      refine vi_iload_n C dX12_comes_25 rfl rfl ?_
      refine r_iaload C dX12_comes_26 rfl rfl hR h (fun v3 h => ?_)
      exact vi_cut [(0, .ref m), (1, .int (a1)), (2, .int (a2)), (3, .int (a3)), (4, .int (a4)), (5, .int (a5)), (6, .int (a6)), (7, .int (a7))] ⟨rfl, rfl, rfl, rfl, rfl, rfl, rfl, rfl, trivial⟩ (h27_2 _ h _ hR hF)
    · replace h := iN c4 h
      refine vi_iload C dX12_comes_16 rfl rfl ?_
      refine vi_goto (t' := 27) C dX12_comes_18 (by decide) ?_
      exact vi_cut [(0, .ref m), (1, .int (a1)), (2, .int (a2)), (3, .int (a3)), (4, .int (a4)), (5, .int (a5)), (6, .int (a6)), (7, .int (a7))] ⟨rfl, rfl, rfl, rfl, rfl, rfl, rfl, rfl, trivial⟩ (h27_2 _ h _ hR hF)
