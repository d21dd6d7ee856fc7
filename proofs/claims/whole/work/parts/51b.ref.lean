def F_X12_notePromise (M : vM) (a1 : Int32) (a2 : Int32) : Option (vM × Int32) := lt1 (mW M 45 ((0 : Int32))) fun M1 => (F_X12_lay M1 ((1 : Int32))).bind fun M2 => (F_X12_layU M2 (a2)).bind fun M3 => b2 (F_X12_note M3 (a1) ((1 : Int32)) (a2) ((0 : Int32)) ((0 : Int32))) fun M4 v5 => zb (v5) (some (M4, v5))

set_option maxRecDepth 100000 in
set_option maxHeartbeats 4000000 in
theorem p_X12_notePromise {M : vM} {R : (vM × Int32)} {a1 : Int32} {a2 : Int32} (h : F_X12_notePromise M a1 a2 = some R) {E : vE} {S0 : vS} {sz m b : Nat} (hR : RM S0 sz m b M) : vi_Met E yX12_notePromise cX12_notePromise 3 (some .boolean) 4 0 0 [.ref m, .int (a1), .int (a2)] S0 sz (Q1 S0 sz m b R) := by
  refine vi_met (by decide) (Nat.le_of_ble_eq_true rfl) ?_
  intro X C
  have hF := rF.refl S0 m b
  unfold F_X12_notePromise at h
  refine vi_aload_n C dX12_notePromise_0 rfl rfl ?_
  refine vi_iconst (v := 0) C dX12_notePromise_1 rfl (by decide) ?_
  refine r_puti C dX12_notePromise_2 rfl (fpX12_218 _) rfl hR hF h (fun S M1 h hR hF => ?_)
  refine vi_aload_n C dX12_notePromise_5 rfl rfl ?_
  refine vi_iconst (v := 1) C dX12_notePromise_6 rfl (by decide) ?_
  refine r_cv0 C [.int ((1 : Int32))] [] dX12_notePromise_7 rfl ivX12_221 imX12_lay rfl hR hF h (fun _ e => p_X12_lay e hR) rfl (Nat.le_of_ble_eq_true rfl) ⟨by decide, by decide⟩ ⟨Nat.le_refl _, Nat.le_refl _⟩ (fun S M2 h hR hF => ?_)
  refine vi_aload_n C dX12_notePromise_10 rfl rfl ?_
  refine vi_iload_n C dX12_notePromise_11 rfl rfl ?_
  refine r_cv0 C [.int (a2)] [] dX12_notePromise_12 rfl ivX12_228 imX12_layU rfl hR hF h (fun _ e => p_X12_layU e hR) rfl (Nat.le_of_ble_eq_true rfl) ⟨by decide, by decide⟩ ⟨Nat.le_refl _, Nat.le_refl _⟩ (fun S M3 h hR hF => ?_)
  refine vi_aload_n C dX12_notePromise_15 rfl rfl ?_
  refine vi_iload_n C dX12_notePromise_16 rfl rfl ?_
  refine vi_iconst (v := 1) C dX12_notePromise_17 rfl (by decide) ?_
  refine vi_iload_n C dX12_notePromise_18 rfl rfl ?_
  refine vi_iconst (v := 0) C dX12_notePromise_19 rfl (by decide) ?_
  refine vi_iconst (v := 0) C dX12_notePromise_20 rfl (by decide) ?_
  refine r_cv1 C [.int (a1), .int ((1 : Int32)), .int (a2), .int ((0 : Int32)), .int ((0 : Int32))] [] dX12_notePromise_21 rfl ivX12_253 imX12_note rfl hR hF h (fun _ e => p_X12_note e hR) rfl (Nat.le_of_ble_eq_true rfl) ⟨by decide, by decide⟩ ⟨Nat.le_refl _, Nat.le_refl _⟩ (fun S M4 v5 h hR hF => ?_)
  exact r_retz C dX12_notePromise_24 rfl hR hF h

def F_X12_layAccepted (M : vM) (a1 : Int32) (a2 : Int32) (a3 : Int32) : Option vM := (F_X12_lay M ((2 : Int32))).bind fun M1 => (F_X12_layU M1 (a1)).bind fun M2 => (F_X12_layU M2 (a2)).bind fun M3 => (F_X12_layRequest M3 (a3)).bind fun M4 => some M4

set_option maxRecDepth 100000 in
set_option maxHeartbeats 4000000 in
theorem p_X12_layAccepted {M : vM} {R : vM} {a1 : Int32} {a2 : Int32} {a3 : Int32} (h : F_X12_layAccepted M a1 a2 a3 = some R) {E : vE} {S0 : vS} {sz m b : Nat} (hR : RM S0 sz m b M) : vi_Met E yX12_layAccepted cX12_layAccepted 4 none 4 0 0 [.ref m, .int (a1), .int (a2), .int (a3)] S0 sz (Q0 S0 sz m b R) := by
  refine vi_met (by decide) (Nat.le_of_ble_eq_true rfl) ?_
  intro X C
  have hF := rF.refl S0 m b
  unfold F_X12_layAccepted at h
  refine vi_aload_n C dX12_layAccepted_0 rfl rfl ?_
  refine vi_iconst (v := 2) C dX12_layAccepted_1 rfl (by decide) ?_
  refine r_cv0 C [.int ((2 : Int32))] [] dX12_layAccepted_2 rfl ivX12_221 imX12_lay rfl hR hF h (fun _ e => p_X12_lay e hR) rfl (Nat.le_of_ble_eq_true rfl) ⟨by decide, by decide⟩ ⟨Nat.le_refl _, Nat.le_refl _⟩ (fun S M1 h hR hF => ?_)
  refine vi_aload_n C dX12_layAccepted_5 rfl rfl ?_
  refine vi_iload_n C dX12_layAccepted_6 rfl rfl ?_
  refine r_cv0 C [.int (a1)] [] dX12_layAccepted_7 rfl ivX12_228 imX12_layU rfl hR hF h (fun _ e => p_X12_layU e hR) rfl (Nat.le_of_ble_eq_true rfl) ⟨by decide, by decide⟩ ⟨Nat.le_refl _, Nat.le_refl _⟩ (fun S M2 h hR hF => ?_)
  refine vi_aload_n C dX12_layAccepted_10 rfl rfl ?_
  refine vi_iload_n C dX12_layAccepted_11 rfl rfl ?_
  refine r_cv0 C [.int (a2)] [] dX12_layAccepted_12 rfl ivX12_228 imX12_layU rfl hR hF h (fun _ e => p_X12_layU e hR) rfl (Nat.le_of_ble_eq_true rfl) ⟨by decide, by decide⟩ ⟨Nat.le_refl _, Nat.le_refl _⟩ (fun S M3 h hR hF => ?_)
  refine vi_aload_n C dX12_layAccepted_15 rfl rfl ?_
  refine vi_iload_n C dX12_layAccepted_16 rfl rfl ?_
  refine r_cv0 C [.int (a3)] [] dX12_layAccepted_17 rfl ivX12_257 imX12_layRequest rfl hR hF h (fun _ e => p_X12_layRequest e hR) rfl (Nat.le_of_ble_eq_true rfl) ⟨by decide, by decide⟩ ⟨Nat.le_refl _, Nat.le_refl _⟩ (fun S M4 h hR hF => ?_)
  exact r_ret0 C dX12_layAccepted_20 rfl hR hF h

def L_X12_store_12 {ρ : Type}  (l1 : Int32) (l2 : Nat) (l3 : Int32) (kx96 : vM → Option ρ) : Nat → vM → Int32 → Option ρ
  | 0, _, _ => none
  | f + 1, M, l4 => if (16 : Int32) ≤ l4 then (kx96 M ) else ((mG M 7 (l1)).bind fun v4 => b2 (F_X12_at M (l1) (v4)) fun M5 v6 => (mG M5 14 ((((16 : Int32) * v6) + l4))).bind fun v7 => gd (mKd l2 = 21) <| (mS M5 l2 (((l3 + (1 : Int32)) + l4)) (v7)).bind fun M9 => (mG M9 17 ((((16 : Int32) * l1) + l4))).bind fun v10 => gd (mKd l2 = 21) <| (mS M9 l2 (((l3 + (17 : Int32)) + l4)) (v10)).bind fun M12 => (mG M12 18 ((((16 : Int32) * l1) + l4))).bind fun v13 => gd (mKd l2 = 21) <| (mS M12 l2 (((l3 + (33 : Int32)) + l4)) (v13)).bind fun M15 => L_X12_store_12 l1 l2 l3 kx96 f M15 ((l4 + (1))))

def L_X12_store_99 {ρ : Type}  (l1 : Int32) (l2 : Nat) (l3 : Int32) (kx165 : vM → Option ρ) : Nat → vM → Int32 → Option ρ
  | 0, _, _ => none
  | f + 1, M, l4 => if (17 : Int32) ≤ l4 then (kx165 M ) else ((mG M 7 (l1)).bind fun v18 => if (v18 - l4) < (1 : Int32) then (gd (mKd l2 = 21) <| (mS M l2 (((l3 + (49 : Int32)) + l4)) ((0 : Int32))).bind fun M20 => L_X12_store_99 l1 l2 l3 kx165 f M20 ((l4 + (1)))) else (if l4 < (M.1 2) then ((mG M 7 (l1)).bind fun v21 => b2 (F_X12_at M (l1) ((v21 - l4))) fun M22 v23 => (mG M22 15 (v23)).bind fun v24 => gd (mKd l2 = 21) <| (mS M22 l2 (((l3 + (49 : Int32)) + l4)) (v24)).bind fun M26 => L_X12_store_99 l1 l2 l3 kx165 f M26 ((l4 + (1)))) else (gd (mKd l2 = 21) <| (mS M l2 (((l3 + (49 : Int32)) + l4)) ((0 : Int32))).bind fun M28 => L_X12_store_99 l1 l2 l3 kx165 f M28 ((l4 + (1))))))

def F_X12_store (M : vM) (a1 : Int32) (a2 : Nat) (a3 : Int32) : Option vM := (mG M 7 (a1)).bind fun v1 => gd (mKd a2 = 21) <| (mS M a2 (a3) (v1)).bind fun M3 => L_X12_store_12 (a1) (a2) (a3) (fun (M17 : vM)  => L_X12_store_99 (a1) (a2) (a3) (fun (M32 : vM)  => some M32) fu M17 ((0 : Int32))) fu M3 ((0 : Int32))

set_option maxRecDepth 100000 in
set_option maxHeartbeats 4000000 in
theorem w_X12_store_12 {E : vE} {X : vX} {S0 : vS} {sz m b : Nat} {ρ : Type} {R : ρ} {Z : State → Prop} {l1 : Int32} {l2 : Nat} {l3 : Int32} {kx96 : vM → Option ρ} (C : vi_C E X yX12_store cX12_store 5 none 1 0 0 (45 * 1)) (hx96 : ∀ (M : vM) , kx96 M  = some R → ∀ S, RM S sz m b M → rF S0 S m b → vi_W E X 5 Z 96 [(0, .ref m), (1, .int (l1)), (2, .ref (b + l2)), (3, .int (l3))] [] S sz 0 0) : ∀ (f : Nat) (M : vM) (l4 : Int32), L_X12_store_12 l1 l2 l3 kx96 f M l4 = some R → ∀ S, RM S sz m b M → rF S0 S m b → vi_W E X 5 Z 12 [(0, .ref m), (1, .int (l1)), (2, .ref (b + l2)), (3, .int (l3)), (4, .int (l4))] [] S sz 0 0 := by
  intro f
  induction f with
  | zero => intro M l4 h; cases h
  | succ f ih =>
    intro M l4 h S hR hF
    rw [L_X12_store_12] at h
    refine vi_iload C dX12_store_12 rfl rfl ?_
    refine vi_bipush (v := 16) C dX12_store_14 rfl (by decide) ?_
    refine vi_icmp_ge (t' := 96) C dX12_store_16 rfl (by decide) (fun c16 => ?_) (fun c16 => ?_)
    · replace h := iT c16 h
      exact vi_cut [(0, .ref m), (1, .int (l1)), (2, .ref (b + l2)), (3, .int (l3))] ⟨rfl, rfl, rfl, rfl, trivial⟩ (hx96 _  h _ hR hF)
    · replace h := iN c16 h
      refine vi_aload_n C dX12_store_19 rfl rfl ?_
      refine vi_iload_n C dX12_store_20 rfl rfl ?_
      refine vi_iconst (v := 1) C dX12_store_21 rfl (by decide) ?_
      refine vi_iadd C dX12_store_22 rfl ?_
      refine vi_iload C dX12_store_23 rfl rfl ?_
      refine vi_iadd C dX12_store_25 rfl ?_
      refine vi_aload_n C dX12_store_26 rfl rfl ?_
      refine r_geta C dX12_store_27 rfl fX12_58 rfl hR rfl ?_
      refine vi_bipush (v := 16) C dX12_store_30 rfl (by decide) ?_
      refine vi_iload_n C dX12_store_32 rfl rfl ?_
      refine vi_aload_n C dX12_store_33 rfl rfl ?_
      refine r_geta C dX12_store_34 rfl fX12_37 rfl hR rfl ?_
      refine vi_iload_n C dX12_store_37 rfl rfl ?_
      refine r_iaload C dX12_store_38 rfl rfl hR h (fun v4 h => ?_)
      refine r_cs1 C [.int (l1), .int (v4)] [.int ((16 : Int32)), .ref (b + 14), .int (((l3 + (1 : Int32)) + l4)), .ref (b + l2)] dX12_store_39 rfl ivX12_211 isX12_at hR hF h (fun _ e => p_X12_at e hR) rfl (Nat.le_of_ble_eq_true rfl) ⟨by decide, by decide⟩ ⟨Nat.le_refl _, Nat.le_refl _⟩ (fun S M5 v6 h hR hF => ?_)
      refine vi_imul C dX12_store_42 rfl ?_
      refine vi_iload C dX12_store_43 rfl rfl ?_
      refine vi_iadd C dX12_store_45 rfl ?_
      refine r_iaload C dX12_store_46 rfl rfl hR h (fun v7 h => ?_)
      obtain ⟨c8, h⟩ := gdo h
      refine r_iastore C dX12_store_47 rfl c8 hR hF h (fun S M9 h hR hF => ?_)
      refine vi_aload_n C dX12_store_48 rfl rfl ?_
      refine vi_iload_n C dX12_store_49 rfl rfl ?_
      refine vi_bipush (v := 17) C dX12_store_50 rfl (by decide) ?_
      refine vi_iadd C dX12_store_52 rfl ?_
      refine vi_iload C dX12_store_53 rfl rfl ?_
      refine vi_iadd C dX12_store_55 rfl ?_
      refine vi_aload_n C dX12_store_56 rfl rfl ?_
      refine r_geta C dX12_store_57 rfl fX12_67 rfl hR rfl ?_
      refine vi_bipush (v := 16) C dX12_store_60 rfl (by decide) ?_
      refine vi_iload_n C dX12_store_62 rfl rfl ?_
      refine vi_imul C dX12_store_63 rfl ?_
      refine vi_iload C dX12_store_64 rfl rfl ?_
      refine vi_iadd C dX12_store_66 rfl ?_
      refine r_iaload C dX12_store_67 rfl rfl hR h (fun v10 h => ?_)
      obtain ⟨c11, h⟩ := gdo h
      refine r_iastore C dX12_store_68 rfl c11 hR hF h (fun S M12 h hR hF => ?_)
      refine vi_aload_n C dX12_store_69 rfl rfl ?_
      refine vi_iload_n C dX12_store_70 rfl rfl ?_
      refine vi_bipush (v := 33) C dX12_store_71 rfl (by decide) ?_
      refine vi_iadd C dX12_store_73 rfl ?_
      refine vi_iload C dX12_store_74 rfl rfl ?_
      refine vi_iadd C dX12_store_76 rfl ?_
      refine vi_aload_n C dX12_store_77 rfl rfl ?_
      refine r_geta C dX12_store_78 rfl fX12_70 rfl hR rfl ?_
      refine vi_bipush (v := 16) C dX12_store_81 rfl (by decide) ?_
      refine vi_iload_n C dX12_store_83 rfl rfl ?_
      refine vi_imul C dX12_store_84 rfl ?_
      refine vi_iload C dX12_store_85 rfl rfl ?_
      refine vi_iadd C dX12_store_87 rfl ?_
      refine r_iaload C dX12_store_88 rfl rfl hR h (fun v13 h => ?_)
      obtain ⟨c14, h⟩ := gdo h
      refine r_iastore C dX12_store_89 rfl c14 hR hF h (fun S M15 h hR hF => ?_)
      refine vi_iincv (v := 1) C dX12_store_90 rfl rfl (by decide) (by decide) ?_
      refine vi_goto (t' := 12) C dX12_store_93 (by decide) ?_
      exact vi_cut [(0, .ref m), (1, .int (l1)), (2, .ref (b + l2)), (3, .int (l3)), (4, .int ((l4 + (1))))] ⟨rfl, rfl, rfl, rfl, rfl, trivial⟩ (ih _ _ h _ hR hF)

set_option maxRecDepth 100000 in
set_option maxHeartbeats 4000000 in
theorem w_X12_store_99 {E : vE} {X : vX} {S0 : vS} {sz m b : Nat} {ρ : Type} {R : ρ} {Z : State → Prop} {l1 : Int32} {l2 : Nat} {l3 : Int32} {kx165 : vM → Option ρ} (C : vi_C E X yX12_store cX12_store 5 none 1 0 0 (45 * 1)) (hx165 : ∀ (M : vM) , kx165 M  = some R → ∀ S, RM S sz m b M → rF S0 S m b → vi_W E X 5 Z 165 [] [] S sz 0 0) : ∀ (f : Nat) (M : vM) (l4 : Int32), L_X12_store_99 l1 l2 l3 kx165 f M l4 = some R → ∀ S, RM S sz m b M → rF S0 S m b → vi_W E X 5 Z 99 [(0, .ref m), (1, .int (l1)), (2, .ref (b + l2)), (3, .int (l3)), (4, .int (l4))] [] S sz 0 0 := by
  intro f
  induction f with
  | zero => intro M l4 h; cases h
  | succ f ih =>
    intro M l4 h S hR hF
    rw [L_X12_store_99] at h
    refine vi_iload C dX12_store_99 rfl rfl ?_
    refine vi_bipush (v := 17) C dX12_store_101 rfl (by decide) ?_
    refine vi_icmp_ge (t' := 165) C dX12_store_103 rfl (by decide) (fun c31 => ?_) (fun c31 => ?_)
    · replace h := iT c31 h
      exact vi_cut [] trivial (hx165 _  h _ hR hF)
    · replace h := iN c31 h
      refine vi_aload_n C dX12_store_106 rfl rfl ?_
      refine vi_iload_n C dX12_store_107 rfl rfl ?_
      refine vi_bipush (v := 49) C dX12_store_108 rfl (by decide) ?_
      refine vi_iadd C dX12_store_110 rfl ?_
      refine vi_iload C dX12_store_111 rfl rfl ?_
      refine vi_iadd C dX12_store_113 rfl ?_
      refine vi_aload_n C dX12_store_114 rfl rfl ?_
      refine r_geta C dX12_store_115 rfl fX12_37 rfl hR rfl ?_
      refine vi_iload_n C dX12_store_118 rfl rfl ?_
      refine r_iaload C dX12_store_119 rfl rfl hR h (fun v18 h => ?_)
      refine vi_iload C dX12_store_120 rfl rfl ?_
      refine vi_isub C dX12_store_122 rfl ?_
      refine vi_iconst (v := 1) C dX12_store_123 rfl (by decide) ?_
      refine vi_icmp_lt (t' := 136) C dX12_store_124 rfl (by decide) (fun c30 => ?_) (fun c30 => ?_)
      · replace h := iT c30 h
        refine vi_iconst (v := 0) C dX12_store_136 rfl (by decide) ?_
        refine vi_goto (t' := 158) C dX12_store_137 (by decide) ?_
        obtain ⟨c19, h⟩ := gdo h
        refine r_iastore C dX12_store_158 rfl c19 hR hF h (fun S M20 h hR hF => ?_)
        refine vi_iincv (v := 1) C dX12_store_159 rfl rfl (by decide) (by decide) ?_
        refine vi_goto (t' := 99) C dX12_store_162 (by decide) ?_
        exact vi_cut [(0, .ref m), (1, .int (l1)), (2, .ref (b + l2)), (3, .int (l3)), (4, .int ((l4 + (1))))] ⟨rfl, rfl, rfl, rfl, rfl, trivial⟩ (ih _ _ h _ hR hF)
      · replace h := iN c30 h
        refine vi_iload C dX12_store_127 rfl rfl ?_
        refine vi_aload_n C dX12_store_129 rfl rfl ?_
        refine r_geti C dX12_store_130 rfl fX12_190 rfl hR ?_
        refine vi_icmp_lt (t' := 140) C dX12_store_133 rfl (by decide) (fun c29 => ?_) (fun c29 => ?_)
        · replace h := iT c29 h
          refine vi_aload_n C dX12_store_140 rfl rfl ?_
          refine r_geta C dX12_store_141 rfl fX12_61 rfl hR rfl ?_
          refine vi_iload_n C dX12_store_144 rfl rfl ?_
          refine vi_aload_n C dX12_store_145 rfl rfl ?_
          refine r_geta C dX12_store_146 rfl fX12_37 rfl hR rfl ?_
          refine vi_iload_n C dX12_store_149 rfl rfl ?_
          refine r_iaload C dX12_store_150 rfl rfl hR h (fun v21 h => ?_)
          refine vi_iload C dX12_store_151 rfl rfl ?_
          refine vi_isub C dX12_store_153 rfl ?_
          refine r_cs1 C [.int (l1), .int ((v21 - l4))] [.ref (b + 15), .int (((l3 + (49 : Int32)) + l4)), .ref (b + l2)] dX12_store_154 rfl ivX12_211 isX12_at hR hF h (fun _ e => p_X12_at e hR) rfl (Nat.le_of_ble_eq_true rfl) ⟨by decide, by decide⟩ ⟨Nat.le_refl _, Nat.le_refl _⟩ (fun S M22 v23 h hR hF => ?_)
          refine r_iaload C dX12_store_157 rfl rfl hR h (fun v24 h => ?_)
          obtain ⟨c25, h⟩ := gdo h
          refine r_iastore C dX12_store_158 rfl c25 hR hF h (fun S M26 h hR hF => ?_)
          refine vi_iincv (v := 1) C dX12_store_159 rfl rfl (by decide) (by decide) ?_
          refine vi_goto (t' := 99) C dX12_store_162 (by decide) ?_
          exact vi_cut [(0, .ref m), (1, .int (l1)), (2, .ref (b + l2)), (3, .int (l3)), (4, .int ((l4 + (1))))] ⟨rfl, rfl, rfl, rfl, rfl, trivial⟩ (ih _ _ h _ hR hF)
        · replace h := iN c29 h
          refine vi_iconst (v := 0) C dX12_store_136 rfl (by decide) ?_
          refine vi_goto (t' := 158) C dX12_store_137 (by decide) ?_
          obtain ⟨c27, h⟩ := gdo h
          refine r_iastore C dX12_store_158 rfl c27 hR hF h (fun S M28 h hR hF => ?_)
          refine vi_iincv (v := 1) C dX12_store_159 rfl rfl (by decide) (by decide) ?_
          refine vi_goto (t' := 99) C dX12_store_162 (by decide) ?_
          exact vi_cut [(0, .ref m), (1, .int (l1)), (2, .ref (b + l2)), (3, .int (l3)), (4, .int ((l4 + (1))))] ⟨rfl, rfl, rfl, rfl, rfl, trivial⟩ (ih _ _ h _ hR hF)

set_option maxRecDepth 100000 in
set_option maxHeartbeats 4000000 in
theorem p_X12_store {M : vM} {R : vM} {a1 : Int32} {a2 : Nat} {a3 : Int32} (h : F_X12_store M a1 a2 a3 = some R) {E : vE} {S0 : vS} {sz m b : Nat} (hR : RM S0 sz m b M) : vi_Met E yX12_store cX12_store 5 none 1 0 0 [.ref m, .int (a1), .ref (b + a2), .int (a3)] S0 sz (Q0 S0 sz m b R) := by
  refine vi_met (by decide) (Nat.le_of_ble_eq_true rfl) ?_
  intro X C
  have hF := rF.refl S0 m b
  unfold F_X12_store at h
  refine vi_aload_n C dX12_store_0 rfl rfl ?_
  refine vi_iload_n C dX12_store_1 rfl rfl ?_
  refine vi_aload_n C dX12_store_2 rfl rfl ?_
  refine r_geta C dX12_store_3 rfl fX12_37 rfl hR rfl ?_
  refine vi_iload_n C dX12_store_6 rfl rfl ?_
  refine r_iaload C dX12_store_7 rfl rfl hR h (fun v1 h => ?_)
  obtain ⟨c2, h⟩ := gdo h
  refine r_iastore C dX12_store_8 rfl c2 hR hF h (fun S M3 h hR hF => ?_)
  refine vi_iconst (v := 0) C dX12_store_9 rfl (by decide) ?_
  refine vi_istore C dX12_store_10 rfl (by decide) ?_
  refine vi_cut [(0, .ref m), (1, .int (a1)), (2, .ref (b + a2)), (3, .int (a3)), (4, .int ((0 : Int32)))] ⟨rfl, rfl, rfl, rfl, rfl, trivial⟩ (w_X12_store_12 C ?_ _ _ _ h _ hR hF)
  · intro M17 h S hR hF
    refine vi_iconst (v := 0) C dX12_store_96 rfl (by decide) ?_
    refine vi_istore C dX12_store_97 rfl (by decide) ?_
    refine vi_cut [(0, .ref m), (1, .int (a1)), (2, .ref (b + a2)), (3, .int (a3)), (4, .int ((0 : Int32)))] ⟨rfl, rfl, rfl, rfl, rfl, trivial⟩ (w_X12_store_99 C ?_ _ _ _ h _ hR hF)
    · intro M32 h S hR hF
      exact r_ret0 C dX12_store_165 rfl hR hF h

def L_X12_checkpoint_89 {ρ : Type}  (l1 : Int32) (l2 : Int32) (l3 : Int32) (l4 : Int32) (kx122 : vM → Option ρ) : Nat → vM → Int32 → Option ρ
  | 0, _, _ => none
  | f + 1, M, l5 => if (16 : Int32) ≤ l5 then (kx122 M ) else (b2 (F_X12_at M (l1) (l3)) fun M11 v12 => (mG M11 14 ((((16 : Int32) * v12) + l5))).bind fun v13 => (F_X12_layFour M11 (v13)).bind fun M14 => L_X12_checkpoint_89 l1 l2 l3 l4 kx122 f M14 ((l5 + (1))))

def L_X12_checkpoint_65 {ρ : Type}  (l1 : Int32) (l2 : Int32) (kx134 : vM → Option ρ) : Nat → vM → Int32 → Option ρ
  | 0, _, _ => none
  | f + 1, M, l3 => (mG M 8 (l1)).bind fun v9 => if l3 < v9 then (kx134 M ) else ((F_X12_lay M ((5 : Int32))).bind fun M10 => L_X12_checkpoint_89 (l1) (l2) (l3) ((M.1 45)) (fun (M16 : vM)  => (F_X12_asRecord M16 ((M.1 45))).bind fun M17 => L_X12_checkpoint_65 l1 l2 kx134 f M17 ((l3 + (-1)))) fu M10 ((0 : Int32)))

def L_X12_checkpoint_211 {ρ : Type}  (l1 : Int32) (l2 : Int32) (l4 : Int32) (kx245 : vM → Option ρ) (kx253 : vM → Option ρ) : Nat → vM → Int32 → Option ρ
  | 0, _, _ => none
  | f + 1, M, l5 => if ((l4 + (1 : Int32)) / (512 : Int32)) < l5 then (kx253 M ) else (b2 (F_X12_firstBlock M (l2)) fun M33 v34 => b2 (F_X12_putBlock M33 (l1) ((v34 + l5)) (((-512 : Int32) * l5))) fun M35 v36 => if v36 = 0 then (kx245 M35 ) else (L_X12_checkpoint_211 l1 l2 l4 kx245 kx253 f M35 ((l5 + (1)))))

def L_X12_checkpoint_322 {ρ : Type}  (l1 : Int32) (kx355 : vM → Option ρ) : Nat → vM → Int32 → Option ρ
  | 0, _, _ => none
  | f + 1, M, l5 => if (100 : Int32) ≤ l5 then (kx355 M ) else ((mG M 37 (l5)).bind fun v51 => (mS M 29 ((((6400 : Int32) * l1) + l5)) (v51)).bind fun M52 => L_X12_checkpoint_322 l1 kx355 f M52 ((l5 + (1))))

def L_X12_checkpoint_388 {ρ : Type}  (l1 : Int32) (l5 : Int32) (kx441 : vM → Option ρ) : Nat → vM → Int32 → Option ρ
  | 0, _, _ => none
  | f + 1, M, l6 => if (16 : Int32) ≤ l6 then (kx441 M ) else ((mG M 30 (l1)).bind fun v58 => b2 (F_X12_at M (l1) (l5)) fun M59 v60 => (mG M59 14 ((((16 : Int32) * v60) + l6))).bind fun v61 => (mS M59 29 (((((6400 : Int32) * l1) + ((100 : Int32) * v58)) + l6)) (v61)).bind fun M62 => L_X12_checkpoint_388 l1 l5 kx441 f M62 ((l6 + (1))))

def L_X12_checkpoint_374 {ρ : Type}  (l1 : Int32) (kx456 : vM → Option ρ) : Nat → vM → Int32 → Option ρ
  | 0, _, _ => none
  | f + 1, M, l5 => (mG M 8 (l1)).bind fun v57 => if l5 < v57 then (kx456 M ) else (L_X12_checkpoint_388 (l1) (l5) (fun (M64 : vM)  => (F_X12_addNote M64 (l1) ((5 : Int32)) ((0 : Int32)) ((0 : Int32)) ((0 : Int32))).bind fun M65 => L_X12_checkpoint_374 l1 kx456 f M65 ((l5 + (-1)))) fu M ((0 : Int32)))

def F_X12_checkpoint (M : vM) (a1 : Int32) : Option (vM × Int32) := (mG M 30 (a1)).bind fun v1 => if (48 : Int32) ≤ v1 then ((mG M 33 (a1)).bind fun v2 => (F_X12_store M (a1) (37) ((0 : Int32))).bind fun M3 => lt1 (mW M3 45 ((0 : Int32))) fun M4 => (F_X12_lay M4 ((4 : Int32))).bind fun M5 => (F_X12_layState M5 (37) ((0 : Int32))).bind fun M6 => (F_X12_asRecord M6 ((0 : Int32))).bind fun M7 => (mG M7 7 (a1)).bind fun v8 => L_X12_checkpoint_65 (a1) (((1 : Int32) - v2)) (fun (M19 : vM)  => (mG M19 12 (a1)).bind fun v20 => jn (fun (M28 : vM) => (F_X12_lay M28 ((1 : Int32))).bind fun M29 => (mG M29 10 (a1)).bind fun v30 => (F_X12_layU M29 (v30)).bind fun M31 => (F_X12_asRecord M31 ((M28.1 45))).bind fun M32 => L_X12_checkpoint_211 (a1) (((1 : Int32) - v2)) ((M32.1 45)) (fun (M39 : vM)  => zb ((0 : Int32)) (some (M39, (0 : Int32)))) (fun (M40 : vM)  => (mG M40 32 (a1)).bind fun v41 => (F_X12_layHead M40 (((1 : Int32) - v2)) ((v41 + (1 : Int32)))).bind fun M42 => (mG M42 32 (a1)).bind fun v43 => b2 (F_X12_putBlock M42 (a1) (((v43 + (1 : Int32)) - (v43 + (1 : Int32)) / (2 : Int32) * (2 : Int32))) ((0 : Int32))) fun M44 v45 => if v45 = 0 then (zb ((0 : Int32)) (some (M44, (0 : Int32)))) else ((mG M44 32 (a1)).bind fun v46 => (mS M44 32 (a1) ((v46 + (1 : Int32)))).bind fun M47 => (mS M47 33 (a1) (((1 : Int32) - v2))).bind fun M48 => (mS M48 31 (a1) ((M32.1 45))).bind fun M49 => (mS M49 30 (a1) ((0 : Int32))).bind fun M50 => L_X12_checkpoint_322 (a1) (fun (M54 : vM)  => (F_X12_addNote M54 (a1) ((4 : Int32)) ((0 : Int32)) ((0 : Int32)) ((0 : Int32))).bind fun M55 => (mG M55 7 (a1)).bind fun v56 => L_X12_checkpoint_374 (a1) (fun (M67 : vM)  => (mG M67 12 (a1)).bind fun v68 => jn (fun (M75 : vM) => (mG M75 10 (a1)).bind fun v76 => (F_X12_addNote M75 (a1) ((1 : Int32)) (v76) ((0 : Int32)) ((0 : Int32))).bind fun M77 => zb ((1 : Int32)) (some (M77, (1 : Int32)))) (fun k491_69 => if v68 ≤ 0 then ((k491_69 (M67))) else ((mG M67 11 (a1)).bind fun v70 => (mG M67 7 (a1)).bind fun v71 => (mG M67 12 (a1)).bind fun v72 => (F_X12_addNote M67 (a1) ((2 : Int32)) (v70) ((v71 + (1 : Int32))) (v72)).bind fun M73 => (k491_69 (M73))))) fu M55 ((v56 - (1 : Int32)))) fu M50 ((0 : Int32)))) fu M32 ((0 : Int32))) (fun k177_21 => if v20 ≤ 0 then ((k177_21 (M19))) else ((mG M19 11 (a1)).bind fun v22 => (mG M19 7 (a1)).bind fun v23 => (mG M19 12 (a1)).bind fun v24 => (F_X12_layAccepted M19 (v22) ((v23 + (1 : Int32))) (v24)).bind fun M25 => (F_X12_asRecord M25 ((M19.1 45))).bind fun M26 => (k177_21 (M26))))) fu M7 ((v8 - (1 : Int32)))) else (zb ((1 : Int32)) (some (M, (1 : Int32))))

set_option maxRecDepth 100000 in
set_option maxHeartbeats 4000000 in
theorem w_X12_checkpoint_89 {E : vE} {X : vX} {S0 : vS} {sz m b : Nat} {ρ : Type} {R : ρ} {Z : State → Prop} {l1 : Int32} {l2 : Int32} {l3 : Int32} {l4 : Int32} {kx122 : vM → Option ρ} (C : vi_C E X yX12_checkpoint cX12_checkpoint 7 (some .boolean) 5 0 0 (45 * 5)) (hx122 : ∀ (M : vM) , kx122 M  = some R → ∀ S, RM S sz m b M → rF S0 S m b → vi_W E X 7 Z 122 [(0, .ref m), (1, .int (l1)), (2, .int (l2)), (3, .int (l3)), (4, .int (l4))] [] S sz 0 0) : ∀ (f : Nat) (M : vM) (l5 : Int32), L_X12_checkpoint_89 l1 l2 l3 l4 kx122 f M l5 = some R → ∀ S, RM S sz m b M → rF S0 S m b → vi_W E X 7 Z 89 [(0, .ref m), (1, .int (l1)), (2, .int (l2)), (3, .int (l3)), (4, .int (l4)), (5, .int (l5))] [] S sz 0 0 := by
  intro f
  induction f with
  | zero => intro M l5 h; cases h
  | succ f ih =>
    intro M l5 h S hR hF
    rw [L_X12_checkpoint_89] at h
    refine vi_iload C dX12_checkpoint_89 rfl rfl ?_
    refine vi_bipush (v := 16) C dX12_checkpoint_91 rfl (by decide) ?_
    refine vi_icmp_ge (t' := 122) C dX12_checkpoint_93 rfl (by decide) (fun c15 => ?_) (fun c15 => ?_)
    · replace h := iT c15 h
      exact vi_cut [(0, .ref m), (1, .int (l1)), (2, .int (l2)), (3, .int (l3)), (4, .int (l4))] ⟨rfl, rfl, rfl, rfl, rfl, trivial⟩ (hx122 _  h _ hR hF)
    · replace h := iN c15 h
      refine vi_aload_n C dX12_checkpoint_96 rfl rfl ?_
      refine vi_aload_n C dX12_checkpoint_97 rfl rfl ?_
      refine r_geta C dX12_checkpoint_98 rfl fX12_58 rfl hR rfl ?_
      refine vi_bipush (v := 16) C dX12_checkpoint_101 rfl (by decide) ?_
      refine vi_iload_n C dX12_checkpoint_103 rfl rfl ?_
      refine vi_iload_n C dX12_checkpoint_104 rfl rfl ?_
      refine r_cs1 C [.int (l1), .int (l3)] [.int ((16 : Int32)), .ref (b + 14), .ref m] dX12_checkpoint_105 rfl ivX12_211 isX12_at hR hF h (fun _ e => p_X12_at e hR) rfl (Nat.le_of_ble_eq_true rfl) ⟨by decide, by decide⟩ ⟨Nat.le_refl _, Nat.le_refl _⟩ (fun S M11 v12 h hR hF => ?_)
      refine vi_imul C dX12_checkpoint_108 rfl ?_
      refine vi_iload C dX12_checkpoint_109 rfl rfl ?_
      refine vi_iadd C dX12_checkpoint_111 rfl ?_
      refine r_iaload C dX12_checkpoint_112 rfl rfl hR h (fun v13 h => ?_)
      refine r_cv0 C [.int (v13)] [] dX12_checkpoint_113 rfl ivX12_231 imX12_layFour rfl hR hF h (fun _ e => p_X12_layFour e hR) rfl (Nat.le_of_ble_eq_true rfl) ⟨by decide, by decide⟩ ⟨Nat.le_refl _, Nat.le_refl _⟩ (fun S M14 h hR hF => ?_)
      refine vi_iincv (v := 1) C dX12_checkpoint_116 rfl rfl (by decide) (by decide) ?_
      refine vi_goto (t' := 89) C dX12_checkpoint_119 (by decide) ?_
      exact vi_cut [(0, .ref m), (1, .int (l1)), (2, .int (l2)), (3, .int (l3)), (4, .int (l4)), (5, .int ((l5 + (1))))] ⟨rfl, rfl, rfl, rfl, rfl, rfl, trivial⟩ (ih _ _ h _ hR hF)

set_option maxRecDepth 100000 in
set_option maxHeartbeats 4000000 in
theorem w_X12_checkpoint_65 {E : vE} {X : vX} {S0 : vS} {sz m b : Nat} {ρ : Type} {R : ρ} {Z : State → Prop} {l1 : Int32} {l2 : Int32} {kx134 : vM → Option ρ} (C : vi_C E X yX12_checkpoint cX12_checkpoint 7 (some .boolean) 5 0 0 (45 * 5)) (hx134 : ∀ (M : vM) , kx134 M  = some R → ∀ S, RM S sz m b M → rF S0 S m b → vi_W E X 7 Z 134 [(0, .ref m), (1, .int (l1)), (2, .int (l2))] [] S sz 0 0) : ∀ (f : Nat) (M : vM) (l3 : Int32), L_X12_checkpoint_65 l1 l2 kx134 f M l3 = some R → ∀ S, RM S sz m b M → rF S0 S m b → vi_W E X 7 Z 65 [(0, .ref m), (1, .int (l1)), (2, .int (l2)), (3, .int (l3))] [] S sz 0 0 := by
  intro f
  induction f with
  | zero => intro M l3 h; cases h
  | succ f ih =>
    intro M l3 h S hR hF
    rw [L_X12_checkpoint_65] at h
    refine vi_iload_n C dX12_checkpoint_65 rfl rfl ?_
    refine vi_aload_n C dX12_checkpoint_66 rfl rfl ?_
    refine r_geta C dX12_checkpoint_67 rfl fX12_40 rfl hR rfl ?_
    refine vi_iload_n C dX12_checkpoint_70 rfl rfl ?_
    refine r_iaload C dX12_checkpoint_71 rfl rfl hR h (fun v9 h => ?_)
    refine vi_icmp_lt (t' := 134) C dX12_checkpoint_72 rfl (by decide) (fun c18 => ?_) (fun c18 => ?_)
    · replace h := iT c18 h
      exact vi_cut [(0, .ref m), (1, .int (l1)), (2, .int (l2))] ⟨rfl, rfl, rfl, trivial⟩ (hx134 _  h _ hR hF)
    · replace h := iN c18 h
      refine vi_aload_n C dX12_checkpoint_75 rfl rfl ?_
      refine r_geti C dX12_checkpoint_76 rfl fX12_218 rfl hR ?_
      refine vi_istore C dX12_checkpoint_79 rfl (by decide) ?_
      refine vi_aload_n C dX12_checkpoint_81 rfl rfl ?_
      refine vi_iconst (v := 5) C dX12_checkpoint_82 rfl (by decide) ?_
      refine r_cv0 C [.int ((5 : Int32))] [] dX12_checkpoint_83 rfl ivX12_221 imX12_lay rfl hR hF h (fun _ e => p_X12_lay e hR) rfl (Nat.le_of_ble_eq_true rfl) ⟨by decide, by decide⟩ ⟨Nat.le_refl _, Nat.le_refl _⟩ (fun S M10 h hR hF => ?_)
      refine vi_iconst (v := 0) C dX12_checkpoint_86 rfl (by decide) ?_
      refine vi_istore C dX12_checkpoint_87 rfl (by decide) ?_
      refine vi_cut [(0, .ref m), (1, .int (l1)), (2, .int (l2)), (3, .int (l3)), (4, .int ((M.1 45))), (5, .int ((0 : Int32)))] ⟨rfl, rfl, rfl, rfl, rfl, rfl, trivial⟩ (w_X12_checkpoint_89 C ?_ _ _ _ h _ hR hF)
      · intro M16 h S hR hF
        refine vi_aload_n C dX12_checkpoint_122 rfl rfl ?_
        refine vi_iload C dX12_checkpoint_123 rfl rfl ?_
        refine r_cv0 C [.int ((M.1 45))] [] dX12_checkpoint_125 rfl ivX12_242 imX12_asRecord rfl hR hF h (fun _ e => p_X12_asRecord e hR) rfl (Nat.le_of_ble_eq_true rfl) ⟨by decide, by decide⟩ ⟨Nat.le_refl _, Nat.le_refl _⟩ (fun S M17 h hR hF => ?_)
        refine vi_iincv (v := -1) C dX12_checkpoint_128 rfl rfl (by decide) (by decide) ?_
        refine vi_goto (t' := 65) C dX12_checkpoint_131 (by decide) ?_
        exact vi_cut [(0, .ref m), (1, .int (l1)), (2, .int (l2)), (3, .int ((l3 + (-1))))] ⟨rfl, rfl, rfl, rfl, trivial⟩ (ih _ _ h _ hR hF)

set_option maxRecDepth 100000 in
set_option maxHeartbeats 4000000 in
theorem w_X12_checkpoint_211 {E : vE} {X : vX} {S0 : vS} {sz m b : Nat} {ρ : Type} {R : ρ} {Z : State → Prop} {l1 : Int32} {l2 : Int32} {l4 : Int32} {kx245 : vM → Option ρ} {kx253 : vM → Option ρ} (C : vi_C E X yX12_checkpoint cX12_checkpoint 7 (some .boolean) 5 0 0 (45 * 5)) (hx245 : ∀ (M : vM) , kx245 M  = some R → ∀ S, RM S sz m b M → rF S0 S m b → vi_W E X 7 Z 245 [] [] S sz 0 0) (hx253 : ∀ (M : vM) , kx253 M  = some R → ∀ S, RM S sz m b M → rF S0 S m b → vi_W E X 7 Z 253 [(0, .ref m), (1, .int (l1)), (2, .int (l2)), (4, .int (l4))] [] S sz 0 0) : ∀ (f : Nat) (M : vM) (l5 : Int32), L_X12_checkpoint_211 l1 l2 l4 kx245 kx253 f M l5 = some R → ∀ S, RM S sz m b M → rF S0 S m b → vi_W E X 7 Z 211 [(0, .ref m), (1, .int (l1)), (2, .int (l2)), (4, .int (l4)), (5, .int (l5))] [] S sz 0 0 := by
  intro f
  induction f with
  | zero => intro M l5 h; cases h
  | succ f ih =>
    intro M l5 h S hR hF
    rw [L_X12_checkpoint_211] at h
    refine vi_iload C dX12_checkpoint_211 rfl rfl ?_
    refine vi_iload C dX12_checkpoint_213 rfl rfl ?_
    refine vi_iconst (v := 1) C dX12_checkpoint_215 rfl (by decide) ?_
    refine vi_iadd C dX12_checkpoint_216 rfl ?_
    refine vi_sipush (v := 512) C dX12_checkpoint_217 rfl (by decide) ?_
    refine vi_idiv C dX12_checkpoint_220 rfl (by decide) ?_
    refine vi_icmp_gt (t' := 253) C dX12_checkpoint_221 rfl (by decide) (fun c38 => ?_) (fun c38 => ?_)
    · replace h := iT c38 h
      exact vi_cut [(0, .ref m), (1, .int (l1)), (2, .int (l2)), (4, .int (l4))] ⟨rfl, rfl, rfl, rfl, trivial⟩ (hx253 _  h _ hR hF)
    · replace h := iN c38 h
      refine vi_aload_n C dX12_checkpoint_224 rfl rfl ?_
      refine vi_iload_n C dX12_checkpoint_225 rfl rfl ?_
      refine vi_iload_n C dX12_checkpoint_226 rfl rfl ?_
      refine r_cs1 C [.int (l2)] [.int (l1), .ref m] dX12_checkpoint_227 rfl ivX12_245 isX12_firstBlock hR hF h (fun _ e => p_X12_firstBlock e hR) rfl (Nat.le_of_ble_eq_true rfl) ⟨by decide, by decide⟩ ⟨Nat.le_refl _, Nat.le_refl _⟩ (fun S M33 v34 h hR hF => ?_)
      refine vi_iload C dX12_checkpoint_230 rfl rfl ?_
      refine vi_iadd C dX12_checkpoint_232 rfl ?_
      refine vi_sipush (v := -512) C dX12_checkpoint_233 rfl (by decide) ?_
      refine vi_iload C dX12_checkpoint_236 rfl rfl ?_
      refine vi_imul C dX12_checkpoint_238 rfl ?_
      refine r_cv1 C [.int (l1), .int ((v34 + l5)), .int (((-512 : Int32) * l5))] [] dX12_checkpoint_239 rfl ivX12_200 imX12_putBlock rfl hR hF h (fun _ e => p_X12_putBlock e hR) rfl (Nat.le_of_ble_eq_true rfl) ⟨by decide, by decide⟩ ⟨Nat.le_refl _, Nat.le_refl _⟩ (fun S M35 v36 h hR hF => ?_)
      refine vi_if_ne (t' := 247) C dX12_checkpoint_242 rfl (by decide) (fun c37 => ?_) (fun c37 => ?_)
      · replace h := iN c37 h
        refine vi_iincv (v := 1) C dX12_checkpoint_247 rfl rfl (by decide) (by decide) ?_
        refine vi_goto (t' := 211) C dX12_checkpoint_250 (by decide) ?_
        exact vi_cut [(0, .ref m), (1, .int (l1)), (2, .int (l2)), (4, .int (l4)), (5, .int ((l5 + (1))))] ⟨rfl, rfl, rfl, rfl, rfl, trivial⟩ (ih _ _ h _ hR hF)
      · replace h := iT c37 h
        exact vi_cut [] trivial (hx245 _  h _ hR hF)

set_option maxRecDepth 100000 in
set_option maxHeartbeats 4000000 in
theorem w_X12_checkpoint_322 {E : vE} {X : vX} {S0 : vS} {sz m b : Nat} {ρ : Type} {R : ρ} {Z : State → Prop} {l1 : Int32} {kx355 : vM → Option ρ} (C : vi_C E X yX12_checkpoint cX12_checkpoint 7 (some .boolean) 5 0 0 (45 * 5)) (hx355 : ∀ (M : vM) , kx355 M  = some R → ∀ S, RM S sz m b M → rF S0 S m b → vi_W E X 7 Z 355 [(0, .ref m), (1, .int (l1))] [] S sz 0 0) : ∀ (f : Nat) (M : vM) (l5 : Int32), L_X12_checkpoint_322 l1 kx355 f M l5 = some R → ∀ S, RM S sz m b M → rF S0 S m b → vi_W E X 7 Z 322 [(0, .ref m), (1, .int (l1)), (5, .int (l5))] [] S sz 0 0 := by
  intro f
  induction f with
  | zero => intro M l5 h; cases h
  | succ f ih =>
    intro M l5 h S hR hF
    rw [L_X12_checkpoint_322] at h
    refine vi_iload C dX12_checkpoint_322 rfl rfl ?_
    refine vi_bipush (v := 100) C dX12_checkpoint_324 rfl (by decide) ?_
    refine vi_icmp_ge (t' := 355) C dX12_checkpoint_326 rfl (by decide) (fun c53 => ?_) (fun c53 => ?_)
    · replace h := iT c53 h
      exact vi_cut [(0, .ref m), (1, .int (l1))] ⟨rfl, rfl, trivial⟩ (hx355 _  h _ hR hF)
    · replace h := iN c53 h
      refine vi_aload_n C dX12_checkpoint_329 rfl rfl ?_
      refine r_geta C dX12_checkpoint_330 rfl fX12_104 rfl hR rfl ?_
      refine vi_sipush (v := 6400) C dX12_checkpoint_333 rfl (by decide) ?_
      refine vi_iload_n C dX12_checkpoint_336 rfl rfl ?_
      refine vi_imul C dX12_checkpoint_337 rfl ?_
      refine vi_iload C dX12_checkpoint_338 rfl rfl ?_
      refine vi_iadd C dX12_checkpoint_340 rfl ?_
      refine vi_aload_n C dX12_checkpoint_341 rfl rfl ?_
      refine r_geta C dX12_checkpoint_342 rfl fX12_130 rfl hR rfl ?_
      refine vi_iload C dX12_checkpoint_345 rfl rfl ?_
      refine r_iaload C dX12_checkpoint_347 rfl rfl hR h (fun v51 h => ?_)
      refine r_iastore C dX12_checkpoint_348 rfl rfl hR hF h (fun S M52 h hR hF => ?_)
      refine vi_iincv (v := 1) C dX12_checkpoint_349 rfl rfl (by decide) (by decide) ?_
      refine vi_goto (t' := 322) C dX12_checkpoint_352 (by decide) ?_
      exact vi_cut [(0, .ref m), (1, .int (l1)), (5, .int ((l5 + (1))))] ⟨rfl, rfl, rfl, trivial⟩ (ih _ _ h _ hR hF)

set_option maxRecDepth 100000 in
set_option maxHeartbeats 4000000 in
theorem w_X12_checkpoint_388 {E : vE} {X : vX} {S0 : vS} {sz m b : Nat} {ρ : Type} {R : ρ} {Z : State → Prop} {l1 : Int32} {l5 : Int32} {kx441 : vM → Option ρ} (C : vi_C E X yX12_checkpoint cX12_checkpoint 7 (some .boolean) 5 0 0 (45 * 5)) (hx441 : ∀ (M : vM) , kx441 M  = some R → ∀ S, RM S sz m b M → rF S0 S m b → vi_W E X 7 Z 441 [(0, .ref m), (1, .int (l1)), (5, .int (l5))] [] S sz 0 0) : ∀ (f : Nat) (M : vM) (l6 : Int32), L_X12_checkpoint_388 l1 l5 kx441 f M l6 = some R → ∀ S, RM S sz m b M → rF S0 S m b → vi_W E X 7 Z 388 [(0, .ref m), (1, .int (l1)), (5, .int (l5)), (6, .int (l6))] [] S sz 0 0 := by
  intro f
  induction f with
  | zero => intro M l6 h; cases h
  | succ f ih =>
    intro M l6 h S hR hF
    rw [L_X12_checkpoint_388] at h
    refine vi_iload C dX12_checkpoint_388 rfl rfl ?_
    refine vi_bipush (v := 16) C dX12_checkpoint_390 rfl (by decide) ?_
    refine vi_icmp_ge (t' := 441) C dX12_checkpoint_392 rfl (by decide) (fun c63 => ?_) (fun c63 => ?_)
    · replace h := iT c63 h
      exact vi_cut [(0, .ref m), (1, .int (l1)), (5, .int (l5))] ⟨rfl, rfl, rfl, trivial⟩ (hx441 _  h _ hR hF)
    · replace h := iN c63 h
      refine vi_aload_n C dX12_checkpoint_395 rfl rfl ?_
      refine r_geta C dX12_checkpoint_396 rfl fX12_104 rfl hR rfl ?_
      refine vi_sipush (v := 6400) C dX12_checkpoint_399 rfl (by decide) ?_
      refine vi_iload_n C dX12_checkpoint_402 rfl rfl ?_
      refine vi_imul C dX12_checkpoint_403 rfl ?_
      refine vi_bipush (v := 100) C dX12_checkpoint_404 rfl (by decide) ?_
      refine vi_aload_n C dX12_checkpoint_406 rfl rfl ?_
      refine r_geta C dX12_checkpoint_407 rfl fX12_107 rfl hR rfl ?_
      refine vi_iload_n C dX12_checkpoint_410 rfl rfl ?_
      refine r_iaload C dX12_checkpoint_411 rfl rfl hR h (fun v58 h => ?_)
      refine vi_imul C dX12_checkpoint_412 rfl ?_
      refine vi_iadd C dX12_checkpoint_413 rfl ?_
      refine vi_iload C dX12_checkpoint_414 rfl rfl ?_
      refine vi_iadd C dX12_checkpoint_416 rfl ?_
      refine vi_aload_n C dX12_checkpoint_417 rfl rfl ?_
      refine r_geta C dX12_checkpoint_418 rfl fX12_58 rfl hR rfl ?_
      refine vi_bipush (v := 16) C dX12_checkpoint_421 rfl (by decide) ?_
      refine vi_iload_n C dX12_checkpoint_423 rfl rfl ?_
      refine vi_iload C dX12_checkpoint_424 rfl rfl ?_
      refine r_cs1 C [.int (l1), .int (l5)] [.int ((16 : Int32)), .ref (b + 14), .int (((((6400 : Int32) * l1) + ((100 : Int32) * v58)) + l6)), .ref (b + 29)] dX12_checkpoint_426 rfl ivX12_211 isX12_at hR hF h (fun _ e => p_X12_at e hR) rfl (Nat.le_of_ble_eq_true rfl) ⟨by decide, by decide⟩ ⟨Nat.le_refl _, Nat.le_refl _⟩ (fun S M59 v60 h hR hF => ?_)
      refine vi_imul C dX12_checkpoint_429 rfl ?_
      refine vi_iload C dX12_checkpoint_430 rfl rfl ?_
      refine vi_iadd C dX12_checkpoint_432 rfl ?_
      refine r_iaload C dX12_checkpoint_433 rfl rfl hR h (fun v61 h => ?_)
      refine r_iastore C dX12_checkpoint_434 rfl rfl hR hF h (fun S M62 h hR hF => ?_)
      refine vi_iincv (v := 1) C dX12_checkpoint_435 rfl rfl (by decide) (by decide) ?_
      refine vi_goto (t' := 388) C dX12_checkpoint_438 (by decide) ?_
      exact vi_cut [(0, .ref m), (1, .int (l1)), (5, .int (l5)), (6, .int ((l6 + (1))))] ⟨rfl, rfl, rfl, rfl, trivial⟩ (ih _ _ h _ hR hF)

set_option maxRecDepth 100000 in
set_option maxHeartbeats 4000000 in
theorem w_X12_checkpoint_374 {E : vE} {X : vX} {S0 : vS} {sz m b : Nat} {ρ : Type} {R : ρ} {Z : State → Prop} {l1 : Int32} {kx456 : vM → Option ρ} (C : vi_C E X yX12_checkpoint cX12_checkpoint 7 (some .boolean) 5 0 0 (45 * 5)) (hx456 : ∀ (M : vM) , kx456 M  = some R → ∀ S, RM S sz m b M → rF S0 S m b → vi_W E X 7 Z 456 [(0, .ref m), (1, .int (l1))] [] S sz 0 0) : ∀ (f : Nat) (M : vM) (l5 : Int32), L_X12_checkpoint_374 l1 kx456 f M l5 = some R → ∀ S, RM S sz m b M → rF S0 S m b → vi_W E X 7 Z 374 [(0, .ref m), (1, .int (l1)), (5, .int (l5))] [] S sz 0 0 := by
  intro f
  induction f with
  | zero => intro M l5 h; cases h
  | succ f ih =>
    intro M l5 h S hR hF
    rw [L_X12_checkpoint_374] at h
    refine vi_iload C dX12_checkpoint_374 rfl rfl ?_
    refine vi_aload_n C dX12_checkpoint_376 rfl rfl ?_
    refine r_geta C dX12_checkpoint_377 rfl fX12_40 rfl hR rfl ?_
    refine vi_iload_n C dX12_checkpoint_380 rfl rfl ?_
    refine r_iaload C dX12_checkpoint_381 rfl rfl hR h (fun v57 h => ?_)
    refine vi_icmp_lt (t' := 456) C dX12_checkpoint_382 rfl (by decide) (fun c66 => ?_) (fun c66 => ?_)
    · replace h := iT c66 h
      exact vi_cut [(0, .ref m), (1, .int (l1))] ⟨rfl, rfl, trivial⟩ (hx456 _  h _ hR hF)
    · replace h := iN c66 h
      refine vi_iconst (v := 0) C dX12_checkpoint_385 rfl (by decide) ?_
      refine vi_istore C dX12_checkpoint_386 rfl (by decide) ?_
      refine vi_cut [(0, .ref m), (1, .int (l1)), (5, .int (l5)), (6, .int ((0 : Int32)))] ⟨rfl, rfl, rfl, rfl, trivial⟩ (w_X12_checkpoint_388 C ?_ _ _ _ h _ hR hF)
      · intro M64 h S hR hF
        refine vi_aload_n C dX12_checkpoint_441 rfl rfl ?_
        refine vi_iload_n C dX12_checkpoint_442 rfl rfl ?_
        refine vi_iconst (v := 5) C dX12_checkpoint_443 rfl (by decide) ?_
        refine vi_iconst (v := 0) C dX12_checkpoint_444 rfl (by decide) ?_
        refine vi_iconst (v := 0) C dX12_checkpoint_445 rfl (by decide) ?_
        refine vi_iconst (v := 0) C dX12_checkpoint_446 rfl (by decide) ?_
        refine r_cv0 C [.int (l1), .int ((5 : Int32)), .int ((0 : Int32)), .int ((0 : Int32)), .int ((0 : Int32))] [] dX12_checkpoint_447 rfl ivX12_249 imX12_addNote rfl hR hF h (fun _ e => p_X12_addNote e hR) rfl (Nat.le_of_ble_eq_true rfl) ⟨by decide, by decide⟩ ⟨Nat.le_refl _, Nat.le_refl _⟩ (fun S M65 h hR hF => ?_)
        refine vi_iincv (v := -1) C dX12_checkpoint_450 rfl rfl (by decide) (by decide) ?_
        refine vi_goto (t' := 374) C dX12_checkpoint_453 (by decide) ?_
        exact vi_cut [(0, .ref m), (1, .int (l1)), (5, .int ((l5 + (-1))))] ⟨rfl, rfl, rfl, trivial⟩ (ih _ _ h _ hR hF)

set_option maxRecDepth 100000 in
set_option maxHeartbeats 4000000 in
theorem p_X12_checkpoint {M : vM} {R : (vM × Int32)} {a1 : Int32} (h : F_X12_checkpoint M a1 = some R) {E : vE} {S0 : vS} {sz m b : Nat} (hR : RM S0 sz m b M) : vi_Met E yX12_checkpoint cX12_checkpoint 7 (some .boolean) 5 0 0 [.ref m, .int (a1)] S0 sz (Q1 S0 sz m b R) := by
  refine vi_met (by decide) (Nat.le_of_ble_eq_true rfl) ?_
  intro X C
  have hF := rF.refl S0 m b
  unfold F_X12_checkpoint at h
  refine vi_aload_n C dX12_checkpoint_0 rfl rfl ?_
  refine r_geta C dX12_checkpoint_1 rfl fX12_107 rfl hR rfl ?_
  refine vi_iload_n C dX12_checkpoint_4 rfl rfl ?_
  refine r_iaload C dX12_checkpoint_5 rfl rfl hR h (fun v1 h => ?_)
  refine vi_bipush (v := 48) C dX12_checkpoint_6 rfl (by decide) ?_
  refine vi_icmp_ge (t' := 13) C dX12_checkpoint_8 rfl (by decide) (fun c79 => ?_) (fun c79 => ?_)
  · replace h := iT c79 h
    refine vi_iconst (v := 1) C dX12_checkpoint_13 rfl (by decide) ?_
    refine vi_aload_n C dX12_checkpoint_14 rfl rfl ?_
    refine r_geta C dX12_checkpoint_15 rfl fX12_116 rfl hR rfl ?_
    refine vi_iload_n C dX12_checkpoint_18 rfl rfl ?_
    refine r_iaload C dX12_checkpoint_19 rfl rfl hR h (fun v2 h => ?_)
    refine vi_isub C dX12_checkpoint_20 rfl ?_
    refine vi_istore_n C dX12_checkpoint_21 rfl (by decide) ?_
    refine vi_aload_n C dX12_checkpoint_22 rfl rfl ?_
    refine vi_iload_n C dX12_checkpoint_23 rfl rfl ?_
    refine vi_aload_n C dX12_checkpoint_24 rfl rfl ?_
    refine r_geta C dX12_checkpoint_25 rfl fX12_130 rfl hR rfl ?_
    refine vi_iconst (v := 0) C dX12_checkpoint_28 rfl (by decide) ?_
    refine r_cv0 C [.int (a1), .ref (b + 37), .int ((0 : Int32))] [] dX12_checkpoint_29 rfl ivX12_260 imX12_store rfl hR hF h (fun _ e => p_X12_store e hR) rfl (Nat.le_of_ble_eq_true rfl) ⟨by decide, by decide⟩ ⟨Nat.le_refl _, Nat.le_refl _⟩ (fun S M3 h hR hF => ?_)
    refine vi_aload_n C dX12_checkpoint_32 rfl rfl ?_
    refine vi_iconst (v := 0) C dX12_checkpoint_33 rfl (by decide) ?_
    refine r_puti C dX12_checkpoint_34 rfl (fpX12_218 _) rfl hR hF h (fun S M4 h hR hF => ?_)
    refine vi_aload_n C dX12_checkpoint_37 rfl rfl ?_
    refine vi_iconst (v := 4) C dX12_checkpoint_38 rfl (by decide) ?_
    refine r_cv0 C [.int ((4 : Int32))] [] dX12_checkpoint_39 rfl ivX12_221 imX12_lay rfl hR hF h (fun _ e => p_X12_lay e hR) rfl (Nat.le_of_ble_eq_true rfl) ⟨by decide, by decide⟩ ⟨Nat.le_refl _, Nat.le_refl _⟩ (fun S M5 h hR hF => ?_)
    refine vi_aload_n C dX12_checkpoint_42 rfl rfl ?_
    refine vi_aload_n C dX12_checkpoint_43 rfl rfl ?_
    refine r_geta C dX12_checkpoint_44 rfl fX12_130 rfl hR rfl ?_
    refine vi_iconst (v := 0) C dX12_checkpoint_47 rfl (by decide) ?_
    refine r_cv0 C [.ref (b + 37), .int ((0 : Int32))] [] dX12_checkpoint_48 rfl ivX12_264 imX12_layState rfl hR hF h (fun _ e => p_X12_layState e hR) rfl (Nat.le_of_ble_eq_true rfl) ⟨by decide, by decide⟩ ⟨Nat.le_refl _, Nat.le_refl _⟩ (fun S M6 h hR hF => ?_)
    refine vi_aload_n C dX12_checkpoint_51 rfl rfl ?_
    refine vi_iconst (v := 0) C dX12_checkpoint_52 rfl (by decide) ?_
    refine r_cv0 C [.int ((0 : Int32))] [] dX12_checkpoint_53 rfl ivX12_242 imX12_asRecord rfl hR hF h (fun _ e => p_X12_asRecord e hR) rfl (Nat.le_of_ble_eq_true rfl) ⟨by decide, by decide⟩ ⟨Nat.le_refl _, Nat.le_refl _⟩ (fun S M7 h hR hF => ?_)
    refine vi_aload_n C dX12_checkpoint_56 rfl rfl ?_
    refine r_geta C dX12_checkpoint_57 rfl fX12_37 rfl hR rfl ?_
    refine vi_iload_n C dX12_checkpoint_60 rfl rfl ?_
    refine r_iaload C dX12_checkpoint_61 rfl rfl hR h (fun v8 h => ?_)
    refine vi_iconst (v := 1) C dX12_checkpoint_62 rfl (by decide) ?_
    refine vi_isub C dX12_checkpoint_63 rfl ?_
    refine vi_istore_n C dX12_checkpoint_64 rfl (by decide) ?_
    refine vi_cut [(0, .ref m), (1, .int (a1)), (2, .int (((1 : Int32) - v2))), (3, .int ((v8 - (1 : Int32))))] ⟨rfl, rfl, rfl, rfl, trivial⟩ (w_X12_checkpoint_65 C ?_ _ _ _ h _ hR hF)
    · intro M19 h S hR hF
      refine vi_aload_n C dX12_checkpoint_134 rfl rfl ?_
      refine r_geti C dX12_checkpoint_135 rfl fX12_218 rfl hR ?_
      refine vi_istore_n C dX12_checkpoint_138 rfl (by decide) ?_
      refine vi_aload_n C dX12_checkpoint_139 rfl rfl ?_
      refine r_geta C dX12_checkpoint_140 rfl fX12_52 rfl hR rfl ?_
      refine vi_iload_n C dX12_checkpoint_143 rfl rfl ?_
      refine r_iaload C dX12_checkpoint_144 rfl rfl hR h (fun v20 h => ?_)
      refine r_jn h (fun k => ∀ (M28 : vM), k M28 = some R → ∀ S, RM S sz m b M28 → rF S0 S m b → vi_W E X 7 (vi_Z E X (Q1 S0 sz m b R) 0 0) 177 [(0, .ref m), (1, .int (a1)), (2, .int (((1 : Int32) - v2)))] [] S sz 0 0) ?_ ?_
      · intro M28 h S hR hF
        refine vi_aload_n C dX12_checkpoint_177 rfl rfl ?_
        refine r_geti C dX12_checkpoint_178 rfl fX12_218 rfl hR ?_
        refine vi_istore_n C dX12_checkpoint_181 rfl (by decide) ?_
        refine vi_aload_n C dX12_checkpoint_182 rfl rfl ?_
        refine vi_iconst (v := 1) C dX12_checkpoint_183 rfl (by decide) ?_
        refine r_cv0 C [.int ((1 : Int32))] [] dX12_checkpoint_184 rfl ivX12_221 imX12_lay rfl hR hF h (fun _ e => p_X12_lay e hR) rfl (Nat.le_of_ble_eq_true rfl) ⟨by decide, by decide⟩ ⟨Nat.le_refl _, Nat.le_refl _⟩ (fun S M29 h hR hF => ?_)
        refine vi_aload_n C dX12_checkpoint_187 rfl rfl ?_
        refine vi_aload_n C dX12_checkpoint_188 rfl rfl ?_
        refine r_geta C dX12_checkpoint_189 rfl fX12_46 rfl hR rfl ?_
        refine vi_iload_n C dX12_checkpoint_192 rfl rfl ?_
        refine r_iaload C dX12_checkpoint_193 rfl rfl hR h (fun v30 h => ?_)
        refine r_cv0 C [.int (v30)] [] dX12_checkpoint_194 rfl ivX12_228 imX12_layU rfl hR hF h (fun _ e => p_X12_layU e hR) rfl (Nat.le_of_ble_eq_true rfl) ⟨by decide, by decide⟩ ⟨Nat.le_refl _, Nat.le_refl _⟩ (fun S M31 h hR hF => ?_)
        refine vi_aload_n C dX12_checkpoint_197 rfl rfl ?_
        refine vi_iload_n C dX12_checkpoint_198 rfl rfl ?_
        refine r_cv0 C [.int ((M28.1 45))] [] dX12_checkpoint_199 rfl ivX12_242 imX12_asRecord rfl hR hF h (fun _ e => p_X12_asRecord e hR) rfl (Nat.le_of_ble_eq_true rfl) ⟨by decide, by decide⟩ ⟨Nat.le_refl _, Nat.le_refl _⟩ (fun S M32 h hR hF => ?_)
        refine vi_aload_n C dX12_checkpoint_202 rfl rfl ?_
        refine r_geti C dX12_checkpoint_203 rfl fX12_218 rfl hR ?_
        refine vi_istore C dX12_checkpoint_206 rfl (by decide) ?_
        refine vi_iconst (v := 0) C dX12_checkpoint_208 rfl (by decide) ?_
        refine vi_istore C dX12_checkpoint_209 rfl (by decide) ?_
        refine vi_cut [(0, .ref m), (1, .int (a1)), (2, .int (((1 : Int32) - v2))), (4, .int ((M32.1 45))), (5, .int ((0 : Int32)))] ⟨rfl, rfl, rfl, rfl, rfl, trivial⟩ (w_X12_checkpoint_211 C ?_ ?_ _ _ _ h _ hR hF)
        · intro M39 h S hR hF
          refine vi_iconst (v := 0) C dX12_checkpoint_245 rfl (by decide) ?_
          exact r_retz C dX12_checkpoint_246 rfl hR hF h
        · intro M40 h S hR hF
          refine vi_aload_n C dX12_checkpoint_253 rfl rfl ?_
          refine vi_iload_n C dX12_checkpoint_254 rfl rfl ?_
          refine vi_aload_n C dX12_checkpoint_255 rfl rfl ?_
          refine r_geta C dX12_checkpoint_256 rfl fX12_113 rfl hR rfl ?_
          refine vi_iload_n C dX12_checkpoint_259 rfl rfl ?_
          refine r_iaload C dX12_checkpoint_260 rfl rfl hR h (fun v41 h => ?_)
          refine vi_iconst (v := 1) C dX12_checkpoint_261 rfl (by decide) ?_
          refine vi_iadd C dX12_checkpoint_262 rfl ?_
          refine r_cv0 C [.int (((1 : Int32) - v2)), .int ((v41 + (1 : Int32)))] [] dX12_checkpoint_263 rfl ivX12_196 imX12_layHead rfl hR hF h (fun _ e => p_X12_layHead e hR) rfl (Nat.le_of_ble_eq_true rfl) ⟨by decide, by decide⟩ ⟨Nat.le_refl _, Nat.le_refl _⟩ (fun S M42 h hR hF => ?_)
          refine vi_aload_n C dX12_checkpoint_266 rfl rfl ?_
          refine vi_iload_n C dX12_checkpoint_267 rfl rfl ?_
          refine vi_aload_n C dX12_checkpoint_268 rfl rfl ?_
          refine r_geta C dX12_checkpoint_269 rfl fX12_113 rfl hR rfl ?_
          refine vi_iload_n C dX12_checkpoint_272 rfl rfl ?_
          refine r_iaload C dX12_checkpoint_273 rfl rfl hR h (fun v43 h => ?_)
          refine vi_iconst (v := 1) C dX12_checkpoint_274 rfl (by decide) ?_
          refine vi_iadd C dX12_checkpoint_275 rfl ?_
          refine vi_iconst (v := 2) C dX12_checkpoint_276 rfl (by decide) ?_
          refine vi_irem C dX12_checkpoint_277 rfl (by decide) ?_
          refine vi_iconst (v := 0) C dX12_checkpoint_278 rfl (by decide) ?_
          refine r_cv1 C [.int (a1), .int (((v43 + (1 : Int32)) - (v43 + (1 : Int32)) / (2 : Int32) * (2 : Int32))), .int ((0 : Int32))] [] dX12_checkpoint_279 rfl ivX12_200 imX12_putBlock rfl hR hF h (fun _ e => p_X12_putBlock e hR) rfl (Nat.le_of_ble_eq_true rfl) ⟨by decide, by decide⟩ ⟨Nat.le_refl _, Nat.le_refl _⟩ (fun S M44 v45 h hR hF => ?_)
          refine vi_if_ne (t' := 287) C dX12_checkpoint_282 rfl (by decide) (fun c78 => ?_) (fun c78 => ?_)
          · replace h := iN c78 h
            refine vi_aload_n C dX12_checkpoint_287 rfl rfl ?_
            refine r_geta C dX12_checkpoint_288 rfl fX12_113 rfl hR rfl ?_
            refine vi_iload_n C dX12_checkpoint_291 rfl rfl ?_
            refine vi_dup2 C dX12_checkpoint_292 rfl rfl rfl ?_
            refine r_iaload C dX12_checkpoint_293 rfl rfl hR h (fun v46 h => ?_)
            refine vi_iconst (v := 1) C dX12_checkpoint_294 rfl (by decide) ?_
            refine vi_iadd C dX12_checkpoint_295 rfl ?_
            refine r_iastore C dX12_checkpoint_296 rfl rfl hR hF h (fun S M47 h hR hF => ?_)
            refine vi_aload_n C dX12_checkpoint_297 rfl rfl ?_
            refine r_geta C dX12_checkpoint_298 rfl fX12_116 rfl hR rfl ?_
            refine vi_iload_n C dX12_checkpoint_301 rfl rfl ?_
            refine vi_iload_n C dX12_checkpoint_302 rfl rfl ?_
            refine r_iastore C dX12_checkpoint_303 rfl rfl hR hF h (fun S M48 h hR hF => ?_)
            refine vi_aload_n C dX12_checkpoint_304 rfl rfl ?_
            refine r_geta C dX12_checkpoint_305 rfl fX12_110 rfl hR rfl ?_
            refine vi_iload_n C dX12_checkpoint_308 rfl rfl ?_
            refine vi_iload C dX12_checkpoint_309 rfl rfl ?_
            refine r_iastore C dX12_checkpoint_311 rfl rfl hR hF h (fun S M49 h hR hF => ?_)
            refine vi_aload_n C dX12_checkpoint_312 rfl rfl ?_
            refine r_geta C dX12_checkpoint_313 rfl fX12_107 rfl hR rfl ?_
            refine vi_iload_n C dX12_checkpoint_316 rfl rfl ?_
            refine vi_iconst (v := 0) C dX12_checkpoint_317 rfl (by decide) ?_
            refine r_iastore C dX12_checkpoint_318 rfl rfl hR hF h (fun S M50 h hR hF => ?_)
            refine vi_iconst (v := 0) C dX12_checkpoint_319 rfl (by decide) ?_
            refine vi_istore C dX12_checkpoint_320 rfl (by decide) ?_
            refine vi_cut [(0, .ref m), (1, .int (a1)), (5, .int ((0 : Int32)))] ⟨rfl, rfl, rfl, trivial⟩ (w_X12_checkpoint_322 C ?_ _ _ _ h _ hR hF)
            · intro M54 h S hR hF
              refine vi_aload_n C dX12_checkpoint_355 rfl rfl ?_
              refine vi_iload_n C dX12_checkpoint_356 rfl rfl ?_
              refine vi_iconst (v := 4) C dX12_checkpoint_357 rfl (by decide) ?_
              refine vi_iconst (v := 0) C dX12_checkpoint_358 rfl (by decide) ?_
              refine vi_iconst (v := 0) C dX12_checkpoint_359 rfl (by decide) ?_
              refine vi_iconst (v := 0) C dX12_checkpoint_360 rfl (by decide) ?_
              refine r_cv0 C [.int (a1), .int ((4 : Int32)), .int ((0 : Int32)), .int ((0 : Int32)), .int ((0 : Int32))] [] dX12_checkpoint_361 rfl ivX12_249 imX12_addNote rfl hR hF h (fun _ e => p_X12_addNote e hR) rfl (Nat.le_of_ble_eq_true rfl) ⟨by decide, by decide⟩ ⟨Nat.le_refl _, Nat.le_refl _⟩ (fun S M55 h hR hF => ?_)
              refine vi_aload_n C dX12_checkpoint_364 rfl rfl ?_
              refine r_geta C dX12_checkpoint_365 rfl fX12_37 rfl hR rfl ?_
              refine vi_iload_n C dX12_checkpoint_368 rfl rfl ?_
              refine r_iaload C dX12_checkpoint_369 rfl rfl hR h (fun v56 h => ?_)
              refine vi_iconst (v := 1) C dX12_checkpoint_370 rfl (by decide) ?_
              refine vi_isub C dX12_checkpoint_371 rfl ?_
              refine vi_istore C dX12_checkpoint_372 rfl (by decide) ?_
              refine vi_cut [(0, .ref m), (1, .int (a1)), (5, .int ((v56 - (1 : Int32))))] ⟨rfl, rfl, rfl, trivial⟩ (w_X12_checkpoint_374 C ?_ _ _ _ h _ hR hF)
              · intro M67 h S hR hF
                refine vi_aload_n C dX12_checkpoint_456 rfl rfl ?_
                refine r_geta C dX12_checkpoint_457 rfl fX12_52 rfl hR rfl ?_
                refine vi_iload_n C dX12_checkpoint_460 rfl rfl ?_
                refine r_iaload C dX12_checkpoint_461 rfl rfl hR h (fun v68 h => ?_)
                refine r_jn h (fun k => ∀ (M75 : vM), k M75 = some R → ∀ S, RM S sz m b M75 → rF S0 S m b → vi_W E X 7 (vi_Z E X (Q1 S0 sz m b R) 0 0) 491 [(0, .ref m), (1, .int (a1))] [] S sz 0 0) ?_ ?_
                · intro M75 h S hR hF
                  refine vi_aload_n C dX12_checkpoint_491 rfl rfl ?_
                  refine vi_iload_n C dX12_checkpoint_492 rfl rfl ?_
                  refine vi_iconst (v := 1) C dX12_checkpoint_493 rfl (by decide) ?_
                  refine vi_aload_n C dX12_checkpoint_494 rfl rfl ?_
                  refine r_geta C dX12_checkpoint_495 rfl fX12_46 rfl hR rfl ?_
                  refine vi_iload_n C dX12_checkpoint_498 rfl rfl ?_
                  refine r_iaload C dX12_checkpoint_499 rfl rfl hR h (fun v76 h => ?_)
                  refine vi_iconst (v := 0) C dX12_checkpoint_500 rfl (by decide) ?_
                  refine vi_iconst (v := 0) C dX12_checkpoint_501 rfl (by decide) ?_
                  refine r_cv0 C [.int (a1), .int ((1 : Int32)), .int (v76), .int ((0 : Int32)), .int ((0 : Int32))] [] dX12_checkpoint_502 rfl ivX12_249 imX12_addNote rfl hR hF h (fun _ e => p_X12_addNote e hR) rfl (Nat.le_of_ble_eq_true rfl) ⟨by decide, by decide⟩ ⟨Nat.le_refl _, Nat.le_refl _⟩ (fun S M77 h hR hF => ?_)
                  refine vi_iconst (v := 1) C dX12_checkpoint_505 rfl (by decide) ?_
                  exact r_retz C dX12_checkpoint_506 rfl hR hF h
                · intro k491_69 h491_69 h
                  refine vi_if_le (t' := 491) C dX12_checkpoint_462 rfl (by decide) (fun c74 => ?_) (fun c74 => ?_)
                  · replace h := iT c74 h
                    exact vi_cut [(0, .ref m), (1, .int (a1))] ⟨rfl, rfl, trivial⟩ (h491_69 _ h _ hR hF)
                  · replace h := iN c74 h
                    refine vi_aload_n C dX12_checkpoint_465 rfl rfl ?_
                    refine vi_iload_n C dX12_checkpoint_466 rfl rfl ?_
                    refine vi_iconst (v := 2) C dX12_checkpoint_467 rfl (by decide) ?_
                    refine vi_aload_n C dX12_checkpoint_468 rfl rfl ?_
                    refine r_geta C dX12_checkpoint_469 rfl fX12_49 rfl hR rfl ?_
                    refine vi_iload_n C dX12_checkpoint_472 rfl rfl ?_
                    refine r_iaload C dX12_checkpoint_473 rfl rfl hR h (fun v70 h => ?_)
                    refine vi_aload_n C dX12_checkpoint_474 rfl rfl ?_
                    refine r_geta C dX12_checkpoint_475 rfl fX12_37 rfl hR rfl ?_
                    refine vi_iload_n C dX12_checkpoint_478 rfl rfl ?_
                    refine r_iaload C dX12_checkpoint_479 rfl rfl hR h (fun v71 h => ?_)
                    refine vi_iconst (v := 1) C dX12_checkpoint_480 rfl (by decide) ?_
                    refine vi_iadd C dX12_checkpoint_481 rfl ?_
                    refine vi_aload_n C dX12_checkpoint_482 rfl rfl ?_
                    refine r_geta C dX12_checkpoint_483 rfl fX12_52 rfl hR rfl ?_
                    refine vi_iload_n C dX12_checkpoint_486 rfl rfl ?_
                    refine r_iaload C dX12_checkpoint_487 rfl rfl hR h (fun v72 h => ?_)
                    refine r_cv0 C [.int (a1), .int ((2 : Int32)), .int (v70), .int ((v71 + (1 : Int32))), .int (v72)] [] dX12_checkpoint_488 rfl ivX12_249 imX12_addNote rfl hR hF h (fun _ e => p_X12_addNote e hR) rfl (Nat.le_of_ble_eq_true rfl) ⟨by decide, by decide⟩ ⟨Nat.le_refl _, Nat.le_refl _⟩ (fun S M73 h hR hF => ?_)
                    exact vi_cut [(0, .ref m), (1, .int (a1))] ⟨rfl, rfl, trivial⟩ (h491_69 _ h _ hR hF)
          · replace h := iT c78 h
            refine vi_iconst (v := 0) C dX12_checkpoint_285 rfl (by decide) ?_
            exact r_retz C dX12_checkpoint_286 rfl hR hF h
      · intro k177_21 h177_21 h
        refine vi_if_le (t' := 177) C dX12_checkpoint_145 rfl (by decide) (fun c27 => ?_) (fun c27 => ?_)
        · replace h := iT c27 h
          exact vi_cut [(0, .ref m), (1, .int (a1)), (2, .int (((1 : Int32) - v2)))] ⟨rfl, rfl, rfl, trivial⟩ (h177_21 _ h _ hR hF)
        · replace h := iN c27 h
          refine vi_aload_n C dX12_checkpoint_148 rfl rfl ?_
          refine vi_aload_n C dX12_checkpoint_149 rfl rfl ?_
          refine r_geta C dX12_checkpoint_150 rfl fX12_49 rfl hR rfl ?_
          refine vi_iload_n C dX12_checkpoint_153 rfl rfl ?_
          refine r_iaload C dX12_checkpoint_154 rfl rfl hR h (fun v22 h => ?_)
          refine vi_aload_n C dX12_checkpoint_155 rfl rfl ?_
          refine r_geta C dX12_checkpoint_156 rfl fX12_37 rfl hR rfl ?_
          refine vi_iload_n C dX12_checkpoint_159 rfl rfl ?_
          refine r_iaload C dX12_checkpoint_160 rfl rfl hR h (fun v23 h => ?_)
          refine vi_iconst (v := 1) C dX12_checkpoint_161 rfl (by decide) ?_
          refine vi_iadd C dX12_checkpoint_162 rfl ?_
          refine vi_aload_n C dX12_checkpoint_163 rfl rfl ?_
          refine r_geta C dX12_checkpoint_164 rfl fX12_52 rfl hR rfl ?_
          refine vi_iload_n C dX12_checkpoint_167 rfl rfl ?_
          refine r_iaload C dX12_checkpoint_168 rfl rfl hR h (fun v24 h => ?_)
          refine r_cv0 C [.int (v22), .int ((v23 + (1 : Int32))), .int (v24)] [] dX12_checkpoint_169 rfl ivX12_268 imX12_layAccepted rfl hR hF h (fun _ e => p_X12_layAccepted e hR) rfl (Nat.le_of_ble_eq_true rfl) ⟨by decide, by decide⟩ ⟨Nat.le_refl _, Nat.le_refl _⟩ (fun S M25 h hR hF => ?_)
          refine vi_aload_n C dX12_checkpoint_172 rfl rfl ?_
          refine vi_iload_n C dX12_checkpoint_173 rfl rfl ?_
          refine r_cv0 C [.int ((M19.1 45))] [] dX12_checkpoint_174 rfl ivX12_242 imX12_asRecord rfl hR hF h (fun _ e => p_X12_asRecord e hR) rfl (Nat.le_of_ble_eq_true rfl) ⟨by decide, by decide⟩ ⟨Nat.le_refl _, Nat.le_refl _⟩ (fun S M26 h hR hF => ?_)
          exact vi_cut [(0, .ref m), (1, .int (a1)), (2, .int (((1 : Int32) - v2)))] ⟨rfl, rfl, rfl, trivial⟩ (h177_21 _ h _ hR hF)
  · replace h := iN c79 h
    refine vi_iconst (v := 1) C dX12_checkpoint_11 rfl (by decide) ?_
    exact r_retz C dX12_checkpoint_12 rfl hR hF h

def F_X12_accept (M : vM) (a1 : Int32) (a2 : Int32) (a3 : Int32) : Option vM := (mS M 11 (a1) (a2)).bind fun M1 => (mS M1 12 (a1) (a3)).bind fun M2 => some M2

set_option maxRecDepth 100000 in
set_option maxHeartbeats 4000000 in
theorem p_X12_accept {M : vM} {R : vM} {a1 : Int32} {a2 : Int32} {a3 : Int32} (h : F_X12_accept M a1 a2 a3 = some R) {E : vE} {S0 : vS} {sz m b : Nat} (hR : RM S0 sz m b M) : vi_Met E yX12_accept cX12_accept 4 none 0 0 0 [.ref m, .int (a1), .int (a2), .int (a3)] S0 sz (Q0 S0 sz m b R) := by
  refine vi_met (by decide) (Nat.le_of_ble_eq_true rfl) ?_
  intro X C
  have hF := rF.refl S0 m b
  unfold F_X12_accept at h
  refine vi_aload_n C dX12_accept_0 rfl rfl ?_
  refine r_geta C dX12_accept_1 rfl fX12_49 rfl hR rfl ?_
  refine vi_iload_n C dX12_accept_4 rfl rfl ?_
  refine vi_iload_n C dX12_accept_5 rfl rfl ?_
  refine r_iastore C dX12_accept_6 rfl rfl hR hF h (fun S M1 h hR hF => ?_)
  refine vi_aload_n C dX12_accept_7 rfl rfl ?_
  refine r_geta C dX12_accept_8 rfl fX12_52 rfl hR rfl ?_
  refine vi_iload_n C dX12_accept_11 rfl rfl ?_
  refine vi_iload_n C dX12_accept_12 rfl rfl ?_
  refine r_iastore C dX12_accept_13 rfl rfl hR hF h (fun S M2 h hR hF => ?_)
  exact r_ret0 C dX12_accept_14 rfl hR hF h

def L_X12_restore_36 {ρ : Type}  (l1 : Int32) (l2 : Nat) (l3 : Int32) (kx120 : vM → Option ρ) : Nat → vM → Int32 → Option ρ
  | 0, _, _ => none
  | f + 1, M, l4 => if (16 : Int32) ≤ l4 then (kx120 M ) else ((mG M 7 (l1)).bind fun v8 => b2 (F_X12_at M (l1) (v8)) fun M9 v10 => gd (mKd l2 = 21) <| (mG M9 l2 (((l3 + (1 : Int32)) + l4))).bind fun v12 => (mS M9 14 ((((16 : Int32) * v10) + l4)) (v12)).bind fun M13 => gd (mKd l2 = 21) <| (mG M13 l2 (((l3 + (17 : Int32)) + l4))).bind fun v15 => (mS M13 17 ((((16 : Int32) * l1) + l4)) (v15)).bind fun M16 => gd (mKd l2 = 21) <| (mG M16 l2 (((l3 + (33 : Int32)) + l4))).bind fun v18 => (mS M16 18 ((((16 : Int32) * l1) + l4)) (v18)).bind fun M19 => L_X12_restore_36 l1 l2 l3 kx120 f M19 ((l4 + (1))))

def L_X12_restore_123 {ρ : Type}  (l1 : Int32) (l2 : Nat) (l3 : Int32) (kx177 : vM → Option ρ) : Nat → vM → Int32 → Option ρ
  | 0, _, _ => none
  | f + 1, M, l4 => if (M.1 2) ≤ l4 then (kx177 M ) else ((mG M 7 (l1)).bind fun v22 => if (v22 - l4) ≤ 0 then (L_X12_restore_123 l1 l2 l3 kx177 f M ((l4 + (1)))) else ((mG M 7 (l1)).bind fun v23 => b2 (F_X12_at M (l1) ((v23 - l4))) fun M24 v25 => gd (mKd l2 = 21) <| (mG M24 l2 (((l3 + (49 : Int32)) + l4))).bind fun v27 => (mS M24 15 (v25) (v27)).bind fun M28 => L_X12_restore_123 l1 l2 l3 kx177 f M28 ((l4 + (1)))))

def F_X12_restore (M : vM) (a1 : Int32) (a2 : Nat) (a3 : Int32) : Option vM := gd (mKd a2 = 21) <| (mG M a2 (a3)).bind fun v2 => (mS M 7 (a1) (v2)).bind fun M3 => (mG M3 7 (a1)).bind fun v4 => (mS M3 8 (a1) (v4)).bind fun M5 => (mG M5 7 (a1)).bind fun v6 => (mS M5 9 (a1) (v6)).bind fun M7 => L_X12_restore_36 (a1) (a2) (a3) (fun (M21 : vM)  => L_X12_restore_123 (a1) (a2) (a3) (fun (M31 : vM)  => some M31) fu M21 ((0 : Int32))) fu M7 ((0 : Int32))

set_option maxRecDepth 100000 in
set_option maxHeartbeats 4000000 in
theorem w_X12_restore_36 {E : vE} {X : vX} {S0 : vS} {sz m b : Nat} {ρ : Type} {R : ρ} {Z : State → Prop} {l1 : Int32} {l2 : Nat} {l3 : Int32} {kx120 : vM → Option ρ} (C : vi_C E X yX12_restore cX12_restore 5 none 1 0 0 (45 * 1)) (hx120 : ∀ (M : vM) , kx120 M  = some R → ∀ S, RM S sz m b M → rF S0 S m b → vi_W E X 5 Z 120 [(0, .ref m), (1, .int (l1)), (2, .ref (b + l2)), (3, .int (l3))] [] S sz 0 0) : ∀ (f : Nat) (M : vM) (l4 : Int32), L_X12_restore_36 l1 l2 l3 kx120 f M l4 = some R → ∀ S, RM S sz m b M → rF S0 S m b → vi_W E X 5 Z 36 [(0, .ref m), (1, .int (l1)), (2, .ref (b + l2)), (3, .int (l3)), (4, .int (l4))] [] S sz 0 0 := by
  intro f
  induction f with
  | zero => intro M l4 h; cases h
  | succ f ih =>
    intro M l4 h S hR hF
    rw [L_X12_restore_36] at h
    refine vi_iload C dX12_restore_36 rfl rfl ?_
    refine vi_bipush (v := 16) C dX12_restore_38 rfl (by decide) ?_
    refine vi_icmp_ge (t' := 120) C dX12_restore_40 rfl (by decide) (fun c20 => ?_) (fun c20 => ?_)
    · replace h := iT c20 h
      exact vi_cut [(0, .ref m), (1, .int (l1)), (2, .ref (b + l2)), (3, .int (l3))] ⟨rfl, rfl, rfl, rfl, trivial⟩ (hx120 _  h _ hR hF)
    · replace h := iN c20 h
      refine vi_aload_n C dX12_restore_43 rfl rfl ?_
      refine r_geta C dX12_restore_44 rfl fX12_58 rfl hR rfl ?_
      refine vi_bipush (v := 16) C dX12_restore_47 rfl (by decide) ?_
      refine vi_iload_n C dX12_restore_49 rfl rfl ?_
      refine vi_aload_n C dX12_restore_50 rfl rfl ?_
      refine r_geta C dX12_restore_51 rfl fX12_37 rfl hR rfl ?_
      refine vi_iload_n C dX12_restore_54 rfl rfl ?_
      refine r_iaload C dX12_restore_55 rfl rfl hR h (fun v8 h => ?_)
      refine r_cs1 C [.int (l1), .int (v8)] [.int ((16 : Int32)), .ref (b + 14)] dX12_restore_56 rfl ivX12_211 isX12_at hR hF h (fun _ e => p_X12_at e hR) rfl (Nat.le_of_ble_eq_true rfl) ⟨by decide, by decide⟩ ⟨Nat.le_refl _, Nat.le_refl _⟩ (fun S M9 v10 h hR hF => ?_)
      refine vi_imul C dX12_restore_59 rfl ?_
      refine vi_iload C dX12_restore_60 rfl rfl ?_
      refine vi_iadd C dX12_restore_62 rfl ?_
      refine vi_aload_n C dX12_restore_63 rfl rfl ?_
      refine vi_iload_n C dX12_restore_64 rfl rfl ?_
      refine vi_iconst (v := 1) C dX12_restore_65 rfl (by decide) ?_
      refine vi_iadd C dX12_restore_66 rfl ?_
      refine vi_iload C dX12_restore_67 rfl rfl ?_
      refine vi_iadd C dX12_restore_69 rfl ?_
      obtain ⟨c11, h⟩ := gdo h
      refine r_iaload C dX12_restore_70 rfl c11 hR h (fun v12 h => ?_)
      refine r_iastore C dX12_restore_71 rfl rfl hR hF h (fun S M13 h hR hF => ?_)
      refine vi_aload_n C dX12_restore_72 rfl rfl ?_
      refine r_geta C dX12_restore_73 rfl fX12_67 rfl hR rfl ?_
      refine vi_bipush (v := 16) C dX12_restore_76 rfl (by decide) ?_
      refine vi_iload_n C dX12_restore_78 rfl rfl ?_
      refine vi_imul C dX12_restore_79 rfl ?_
      refine vi_iload C dX12_restore_80 rfl rfl ?_
      refine vi_iadd C dX12_restore_82 rfl ?_
      refine vi_aload_n C dX12_restore_83 rfl rfl ?_
      refine vi_iload_n C dX12_restore_84 rfl rfl ?_
      refine vi_bipush (v := 17) C dX12_restore_85 rfl (by decide) ?_
      refine vi_iadd C dX12_restore_87 rfl ?_
      refine vi_iload C dX12_restore_88 rfl rfl ?_
      refine vi_iadd C dX12_restore_90 rfl ?_
      obtain ⟨c14, h⟩ := gdo h
      refine r_iaload C dX12_restore_91 rfl c14 hR h (fun v15 h => ?_)
      refine r_iastore C dX12_restore_92 rfl rfl hR hF h (fun S M16 h hR hF => ?_)
      refine vi_aload_n C dX12_restore_93 rfl rfl ?_
      refine r_geta C dX12_restore_94 rfl fX12_70 rfl hR rfl ?_
      refine vi_bipush (v := 16) C dX12_restore_97 rfl (by decide) ?_
      refine vi_iload_n C dX12_restore_99 rfl rfl ?_
      refine vi_imul C dX12_restore_100 rfl ?_
      refine vi_iload C dX12_restore_101 rfl rfl ?_
      refine vi_iadd C dX12_restore_103 rfl ?_
      refine vi_aload_n C dX12_restore_104 rfl rfl ?_
      refine vi_iload_n C dX12_restore_105 rfl rfl ?_
      refine vi_bipush (v := 33) C dX12_restore_106 rfl (by decide) ?_
      refine vi_iadd C dX12_restore_108 rfl ?_
      refine vi_iload C dX12_restore_109 rfl rfl ?_
      refine vi_iadd C dX12_restore_111 rfl ?_
      obtain ⟨c17, h⟩ := gdo h
      refine r_iaload C dX12_restore_112 rfl c17 hR h (fun v18 h => ?_)
      refine r_iastore C dX12_restore_113 rfl rfl hR hF h (fun S M19 h hR hF => ?_)
      refine vi_iincv (v := 1) C dX12_restore_114 rfl rfl (by decide) (by decide) ?_
      refine vi_goto (t' := 36) C dX12_restore_117 (by decide) ?_
      exact vi_cut [(0, .ref m), (1, .int (l1)), (2, .ref (b + l2)), (3, .int (l3)), (4, .int ((l4 + (1))))] ⟨rfl, rfl, rfl, rfl, rfl, trivial⟩ (ih _ _ h _ hR hF)

set_option maxRecDepth 100000 in
set_option maxHeartbeats 4000000 in
theorem w_X12_restore_123 {E : vE} {X : vX} {S0 : vS} {sz m b : Nat} {ρ : Type} {R : ρ} {Z : State → Prop} {l1 : Int32} {l2 : Nat} {l3 : Int32} {kx177 : vM → Option ρ} (C : vi_C E X yX12_restore cX12_restore 5 none 1 0 0 (45 * 1)) (hx177 : ∀ (M : vM) , kx177 M  = some R → ∀ S, RM S sz m b M → rF S0 S m b → vi_W E X 5 Z 177 [] [] S sz 0 0) : ∀ (f : Nat) (M : vM) (l4 : Int32), L_X12_restore_123 l1 l2 l3 kx177 f M l4 = some R → ∀ S, RM S sz m b M → rF S0 S m b → vi_W E X 5 Z 123 [(0, .ref m), (1, .int (l1)), (2, .ref (b + l2)), (3, .int (l3)), (4, .int (l4))] [] S sz 0 0 := by
  intro f
  induction f with
  | zero => intro M l4 h; cases h
  | succ f ih =>
    intro M l4 h S hR hF
    rw [L_X12_restore_123] at h
    refine vi_iload C dX12_restore_123 rfl rfl ?_
    refine vi_aload_n C dX12_restore_125 rfl rfl ?_
    refine r_geti C dX12_restore_126 rfl fX12_190 rfl hR ?_
    refine vi_icmp_ge (t' := 177) C dX12_restore_129 rfl (by decide) (fun c30 => ?_) (fun c30 => ?_)
    · replace h := iT c30 h
      exact vi_cut [] trivial (hx177 _  h _ hR hF)
    · replace h := iN c30 h
      refine vi_aload_n C dX12_restore_132 rfl rfl ?_
      refine r_geta C dX12_restore_133 rfl fX12_37 rfl hR rfl ?_
      refine vi_iload_n C dX12_restore_136 rfl rfl ?_
      refine r_iaload C dX12_restore_137 rfl rfl hR h (fun v22 h => ?_)
      refine vi_iload C dX12_restore_138 rfl rfl ?_
      refine vi_isub C dX12_restore_140 rfl ?_
      refine vi_if_le (t' := 171) C dX12_restore_141 rfl (by decide) (fun c29 => ?_) (fun c29 => ?_)
      · replace h := iT c29 h
        refine vi_iincv (v := 1) C dX12_restore_171 rfl rfl (by decide) (by decide) ?_
        refine vi_goto (t' := 123) C dX12_restore_174 (by decide) ?_
        exact vi_cut [(0, .ref m), (1, .int (l1)), (2, .ref (b + l2)), (3, .int (l3)), (4, .int ((l4 + (1))))] ⟨rfl, rfl, rfl, rfl, rfl, trivial⟩ (ih _ _ h _ hR hF)
      · replace h := iN c29 h
        refine vi_aload_n C dX12_restore_144 rfl rfl ?_
        refine r_geta C dX12_restore_145 rfl fX12_61 rfl hR rfl ?_
        refine vi_iload_n C dX12_restore_148 rfl rfl ?_
        refine vi_aload_n C dX12_restore_149 rfl rfl ?_
        refine r_geta C dX12_restore_150 rfl fX12_37 rfl hR rfl ?_
        refine vi_iload_n C dX12_restore_153 rfl rfl ?_
        refine r_iaload C dX12_restore_154 rfl rfl hR h (fun v23 h => ?_)
        refine vi_iload C dX12_restore_155 rfl rfl ?_
        refine vi_isub C dX12_restore_157 rfl ?_
        refine r_cs1 C [.int (l1), .int ((v23 - l4))] [.ref (b + 15)] dX12_restore_158 rfl ivX12_211 isX12_at hR hF h (fun _ e => p_X12_at e hR) rfl (Nat.le_of_ble_eq_true rfl) ⟨by decide, by decide⟩ ⟨Nat.le_refl _, Nat.le_refl _⟩ (fun S M24 v25 h hR hF => ?_)
        refine vi_aload_n C dX12_restore_161 rfl rfl ?_
        refine vi_iload_n C dX12_restore_162 rfl rfl ?_
        refine vi_bipush (v := 49) C dX12_restore_163 rfl (by decide) ?_
        refine vi_iadd C dX12_restore_165 rfl ?_
        refine vi_iload C dX12_restore_166 rfl rfl ?_
        refine vi_iadd C dX12_restore_168 rfl ?_
        obtain ⟨c26, h⟩ := gdo h
        refine r_iaload C dX12_restore_169 rfl c26 hR h (fun v27 h => ?_)
        refine r_iastore C dX12_restore_170 rfl rfl hR hF h (fun S M28 h hR hF => ?_)
        refine vi_iincv (v := 1) C dX12_restore_171 rfl rfl (by decide) (by decide) ?_
        refine vi_goto (t' := 123) C dX12_restore_174 (by decide) ?_
        exact vi_cut [(0, .ref m), (1, .int (l1)), (2, .ref (b + l2)), (3, .int (l3)), (4, .int ((l4 + (1))))] ⟨rfl, rfl, rfl, rfl, rfl, trivial⟩ (ih _ _ h _ hR hF)

set_option maxRecDepth 100000 in
set_option maxHeartbeats 4000000 in
theorem p_X12_restore {M : vM} {R : vM} {a1 : Int32} {a2 : Nat} {a3 : Int32} (h : F_X12_restore M a1 a2 a3 = some R) {E : vE} {S0 : vS} {sz m b : Nat} (hR : RM S0 sz m b M) : vi_Met E yX12_restore cX12_restore 5 none 1 0 0 [.ref m, .int (a1), .ref (b + a2), .int (a3)] S0 sz (Q0 S0 sz m b R) := by
  refine vi_met (by decide) (Nat.le_of_ble_eq_true rfl) ?_
  intro X C
  have hF := rF.refl S0 m b
  unfold F_X12_restore at h
  refine vi_aload_n C dX12_restore_0 rfl rfl ?_
  refine r_geta C dX12_restore_1 rfl fX12_37 rfl hR rfl ?_
  refine vi_iload_n C dX12_restore_4 rfl rfl ?_
  refine vi_aload_n C dX12_restore_5 rfl rfl ?_
  refine vi_iload_n C dX12_restore_6 rfl rfl ?_
  obtain ⟨c1, h⟩ := gdo h
  refine r_iaload C dX12_restore_7 rfl c1 hR h (fun v2 h => ?_)
  refine r_iastore C dX12_restore_8 rfl rfl hR hF h (fun S M3 h hR hF => ?_)
  refine vi_aload_n C dX12_restore_9 rfl rfl ?_
  refine r_geta C dX12_restore_10 rfl fX12_40 rfl hR rfl ?_
  refine vi_iload_n C dX12_restore_13 rfl rfl ?_
  refine vi_aload_n C dX12_restore_14 rfl rfl ?_
  refine r_geta C dX12_restore_15 rfl fX12_37 rfl hR rfl ?_
  refine vi_iload_n C dX12_restore_18 rfl rfl ?_
  refine r_iaload C dX12_restore_19 rfl rfl hR h (fun v4 h => ?_)
  refine r_iastore C dX12_restore_20 rfl rfl hR hF h (fun S M5 h hR hF => ?_)
  refine vi_aload_n C dX12_restore_21 rfl rfl ?_
  refine r_geta C dX12_restore_22 rfl fX12_43 rfl hR rfl ?_
  refine vi_iload_n C dX12_restore_25 rfl rfl ?_
  refine vi_aload_n C dX12_restore_26 rfl rfl ?_
  refine r_geta C dX12_restore_27 rfl fX12_37 rfl hR rfl ?_
  refine vi_iload_n C dX12_restore_30 rfl rfl ?_
  refine r_iaload C dX12_restore_31 rfl rfl hR h (fun v6 h => ?_)
  refine r_iastore C dX12_restore_32 rfl rfl hR hF h (fun S M7 h hR hF => ?_)
  refine vi_iconst (v := 0) C dX12_restore_33 rfl (by decide) ?_
  refine vi_istore C dX12_restore_34 rfl (by decide) ?_
  refine vi_cut [(0, .ref m), (1, .int (a1)), (2, .ref (b + a2)), (3, .int (a3)), (4, .int ((0 : Int32)))] ⟨rfl, rfl, rfl, rfl, rfl, trivial⟩ (w_X12_restore_36 C ?_ _ _ _ h _ hR hF)
  · intro M21 h S hR hF
    refine vi_iconst (v := 0) C dX12_restore_120 rfl (by decide) ?_
    refine vi_istore C dX12_restore_121 rfl (by decide) ?_
    refine vi_cut [(0, .ref m), (1, .int (a1)), (2, .ref (b + a2)), (3, .int (a3)), (4, .int ((0 : Int32)))] ⟨rfl, rfl, rfl, rfl, rfl, trivial⟩ (w_X12_restore_123 C ?_ _ _ _ h _ hR hF)
    · intro M31 h S hR hF
      exact r_ret0 C dX12_restore_177 rfl hR hF h

def L_X12_comeUp_58 {ρ : Type}  (l1 : Int32) (kx110 : vM → Option ρ) : Nat → vM → Int32 → Option ρ
  | 0, _, _ => none
  | f + 1, M, l2 => if (16 : Int32) ≤ l2 then (kx110 M ) else (b2 (F_X12_at M (l1) ((0 : Int32))) fun M9 v10 => (mS M9 14 ((((16 : Int32) * v10) + l2)) ((0 : Int32))).bind fun M11 => (mS M11 17 ((((16 : Int32) * l1) + l2)) ((0 : Int32))).bind fun M12 => (mS M12 18 ((((16 : Int32) * l1) + l2)) ((0 : Int32))).bind fun M13 => L_X12_comeUp_58 l1 kx110 f M13 ((l2 + (1))))

def L_X12_comeUp_286 {ρ : Type}  (l1 : Int32) (l2 : Int32) (l3 : Int32) (kx332 : vM → Option ρ) : Nat → vM → Int32 → Option ρ
  | 0, _, _ => none
  | f + 1, M, l5 => if (16 : Int32) ≤ l5 then (kx332 M ) else ((mG M 8 (l1)).bind fun v45 => b2 (F_X12_at M (l1) (v45)) fun M46 v47 => (mG M46 29 ((((100 : Int32) * l3) + l5))).bind fun v48 => (mS M46 14 ((((16 : Int32) * v47) + l5)) (v48)).bind fun M49 => L_X12_comeUp_286 l1 l2 l3 kx332 f M49 ((l5 + (1))))

def L_X12_comeUp_112 {ρ : Type}  (l1 : Int32) (kx338 : vM → Option ρ) : Nat → vM → Int32 → Option ρ
  | 0, _, _ => none
  | f + 1, M, l2 => (mG M 30 (l1)).bind fun v16 => if v16 ≤ l2 then (kx338 M ) else ((mG M 28 (((4 : Int32) * (((64 : Int32) * l1) + l2)))).bind fun v17 => jn (fun (M22 : vM) => jn (fun (M31 : vM) => jn (fun (M37 : vM) => jn (fun (M42 : vM) => if v17 = (5 : Int32) then ((mG M42 8 (l1)).bind fun v43 => (mS M42 8 (l1) ((v43 - (1 : Int32)))).bind fun M44 => L_X12_comeUp_286 (l1) (l2) ((((64 : Int32) * l1) + l2)) (fun (M51 : vM)  => L_X12_comeUp_112 l1 kx338 f M51 ((l2 + (1)))) fu M44 ((0 : Int32))) else (L_X12_comeUp_112 l1 kx338 f M42 ((l2 + (1))))) (fun k267_38 => if v17 = (4 : Int32) then ((F_X12_restore M37 (l1) (29) (((100 : Int32) * (((64 : Int32) * l1) + l2)))).bind fun M39 => (F_X12_accept M39 (l1) ((0 : Int32)) ((0 : Int32))).bind fun M40 => (k267_38 (M40))) else ((k267_38 (M37))))) (fun k241_32 => if v17 = (3 : Int32) then ((mG M31 28 ((((4 : Int32) * (((64 : Int32) * l1) + l2)) + (3 : Int32)))).bind fun v33 => (F_X12_applyTo M31 (l1) (v33)).bind fun M34 => (F_X12_accept M34 (l1) ((0 : Int32)) ((0 : Int32))).bind fun M35 => (k241_32 (M35))) else ((k241_32 (M31))))) (fun k213_23 => if v17 = (2 : Int32) then ((mG M22 28 ((((4 : Int32) * (((64 : Int32) * l1) + l2)) + (2 : Int32)))).bind fun v24 => (mG M22 7 (l1)).bind fun v25 => if v24 = (v25 + (1 : Int32)) then ((mG M22 28 ((((4 : Int32) * (((64 : Int32) * l1) + l2)) + (1 : Int32)))).bind fun v26 => (mG M22 28 ((((4 : Int32) * (((64 : Int32) * l1) + l2)) + (3 : Int32)))).bind fun v27 => (F_X12_accept M22 (l1) (v26) (v27)).bind fun M28 => (k213_23 (M28))) else ((k213_23 (M22)))) else ((k213_23 (M22))))) (fun k161_18 => if (3 : Int32) ≤ v17 then ((k161_18 (M))) else ((mG M 28 ((((4 : Int32) * (((64 : Int32) * l1) + l2)) + (1 : Int32)))).bind fun v19 => (mS M 10 (l1) (v19)).bind fun M20 => (k161_18 (M20)))))

def F_X12_comeUp (M : vM) (a1 : Int32) : Option vM := (mS M 7 (a1) ((0 : Int32))).bind fun M1 => (mS M1 8 (a1) ((0 : Int32))).bind fun M2 => (mS M2 9 (a1) ((0 : Int32))).bind fun M3 => (mS M3 10 (a1) ((0 : Int32))).bind fun M4 => (mS M4 11 (a1) ((0 : Int32))).bind fun M5 => (mS M5 12 (a1) ((0 : Int32))).bind fun M6 => (mS M6 43 (a1) ((0 : Int32))).bind fun M7 => (mS M7 44 (a1) ((0 : Int32))).bind fun M8 => L_X12_comeUp_58 (a1) (fun (M15 : vM)  => L_X12_comeUp_112 (a1) (fun (M54 : vM)  => (mG M54 10 (a1)).bind fun v55 => (mS M54 25 (a1) (v55)).bind fun M56 => (mS M56 35 (a1) ((-1 : Int32))).bind fun M57 => (mS M57 13 (a1) ((0 : Int32))).bind fun M58 => b2 (F_X12_checkpoint M58 (a1)) fun M59 v60 => some M59) fu M15 ((0 : Int32))) fu M8 ((0 : Int32))

set_option maxRecDepth 100000 in
set_option maxHeartbeats 4000000 in
theorem w_X12_comeUp_58 {E : vE} {X : vX} {S0 : vS} {sz m b : Nat} {ρ : Type} {R : ρ} {Z : State → Prop} {l1 : Int32} {kx110 : vM → Option ρ} (C : vi_C E X yX12_comeUp cX12_comeUp 6 none 6 0 0 (45 * 6)) (hx110 : ∀ (M : vM) , kx110 M  = some R → ∀ S, RM S sz m b M → rF S0 S m b → vi_W E X 6 Z 110 [(0, .ref m), (1, .int (l1))] [] S sz 0 0) : ∀ (f : Nat) (M : vM) (l2 : Int32), L_X12_comeUp_58 l1 kx110 f M l2 = some R → ∀ S, RM S sz m b M → rF S0 S m b → vi_W E X 6 Z 58 [(0, .ref m), (1, .int (l1)), (2, .int (l2))] [] S sz 0 0 := by
  intro f
  induction f with
  | zero => intro M l2 h; cases h
  | succ f ih =>
    intro M l2 h S hR hF
    rw [L_X12_comeUp_58] at h
    refine vi_iload_n C dX12_comeUp_58 rfl rfl ?_
    refine vi_bipush (v := 16) C dX12_comeUp_59 rfl (by decide) ?_
    refine vi_icmp_ge (t' := 110) C dX12_comeUp_61 rfl (by decide) (fun c14 => ?_) (fun c14 => ?_)
    · replace h := iT c14 h
      exact vi_cut [(0, .ref m), (1, .int (l1))] ⟨rfl, rfl, trivial⟩ (hx110 _  h _ hR hF)
    · replace h := iN c14 h
      refine vi_aload_n C dX12_comeUp_64 rfl rfl ?_
      refine r_geta C dX12_comeUp_65 rfl fX12_58 rfl hR rfl ?_
      refine vi_bipush (v := 16) C dX12_comeUp_68 rfl (by decide) ?_
      refine vi_iload_n C dX12_comeUp_70 rfl rfl ?_
      refine vi_iconst (v := 0) C dX12_comeUp_71 rfl (by decide) ?_
      refine r_cs1 C [.int (l1), .int ((0 : Int32))] [.int ((16 : Int32)), .ref (b + 14)] dX12_comeUp_72 rfl ivX12_211 isX12_at hR hF h (fun _ e => p_X12_at e hR) rfl (Nat.le_of_ble_eq_true rfl) ⟨by decide, by decide⟩ ⟨Nat.le_refl _, Nat.le_refl _⟩ (fun S M9 v10 h hR hF => ?_)
      refine vi_imul C dX12_comeUp_75 rfl ?_
      refine vi_iload_n C dX12_comeUp_76 rfl rfl ?_
      refine vi_iadd C dX12_comeUp_77 rfl ?_
      refine vi_iconst (v := 0) C dX12_comeUp_78 rfl (by decide) ?_
      refine r_iastore C dX12_comeUp_79 rfl rfl hR hF h (fun S M11 h hR hF => ?_)
      refine vi_aload_n C dX12_comeUp_80 rfl rfl ?_
      refine r_geta C dX12_comeUp_81 rfl fX12_67 rfl hR rfl ?_
      refine vi_bipush (v := 16) C dX12_comeUp_84 rfl (by decide) ?_
      refine vi_iload_n C dX12_comeUp_86 rfl rfl ?_
      refine vi_imul C dX12_comeUp_87 rfl ?_
      refine vi_iload_n C dX12_comeUp_88 rfl rfl ?_
      refine vi_iadd C dX12_comeUp_89 rfl ?_
      refine vi_iconst (v := 0) C dX12_comeUp_90 rfl (by decide) ?_
      refine r_iastore C dX12_comeUp_91 rfl rfl hR hF h (fun S M12 h hR hF => ?_)
      refine vi_aload_n C dX12_comeUp_92 rfl rfl ?_
      refine r_geta C dX12_comeUp_93 rfl fX12_70 rfl hR rfl ?_
      refine vi_bipush (v := 16) C dX12_comeUp_96 rfl (by decide) ?_
      refine vi_iload_n C dX12_comeUp_98 rfl rfl ?_
      refine vi_imul C dX12_comeUp_99 rfl ?_
      refine vi_iload_n C dX12_comeUp_100 rfl rfl ?_
      refine vi_iadd C dX12_comeUp_101 rfl ?_
      refine vi_iconst (v := 0) C dX12_comeUp_102 rfl (by decide) ?_
      refine r_iastore C dX12_comeUp_103 rfl rfl hR hF h (fun S M13 h hR hF => ?_)
      refine vi_iincv (v := 1) C dX12_comeUp_104 rfl rfl (by decide) (by decide) ?_
      refine vi_goto (t' := 58) C dX12_comeUp_107 (by decide) ?_
      exact vi_cut [(0, .ref m), (1, .int (l1)), (2, .int ((l2 + (1))))] ⟨rfl, rfl, rfl, trivial⟩ (ih _ _ h _ hR hF)

set_option maxRecDepth 100000 in
set_option maxHeartbeats 4000000 in
theorem w_X12_comeUp_286 {E : vE} {X : vX} {S0 : vS} {sz m b : Nat} {ρ : Type} {R : ρ} {Z : State → Prop} {l1 : Int32} {l2 : Int32} {l3 : Int32} {kx332 : vM → Option ρ} (C : vi_C E X yX12_comeUp cX12_comeUp 6 none 6 0 0 (45 * 6)) (hx332 : ∀ (M : vM) , kx332 M  = some R → ∀ S, RM S sz m b M → rF S0 S m b → vi_W E X 6 Z 332 [(0, .ref m), (1, .int (l1)), (2, .int (l2))] [] S sz 0 0) : ∀ (f : Nat) (M : vM) (l5 : Int32), L_X12_comeUp_286 l1 l2 l3 kx332 f M l5 = some R → ∀ S, RM S sz m b M → rF S0 S m b → vi_W E X 6 Z 286 [(0, .ref m), (1, .int (l1)), (2, .int (l2)), (3, .int (l3)), (5, .int (l5))] [] S sz 0 0 := by
  intro f
  induction f with
  | zero => intro M l5 h; cases h
  | succ f ih =>
    intro M l5 h S hR hF
    rw [L_X12_comeUp_286] at h
    refine vi_iload C dX12_comeUp_286 rfl rfl ?_
    refine vi_bipush (v := 16) C dX12_comeUp_288 rfl (by decide) ?_
    refine vi_icmp_ge (t' := 332) C dX12_comeUp_290 rfl (by decide) (fun c50 => ?_) (fun c50 => ?_)
    · replace h := iT c50 h
      exact vi_cut [(0, .ref m), (1, .int (l1)), (2, .int (l2))] ⟨rfl, rfl, rfl, trivial⟩ (hx332 _  h _ hR hF)
    · replace h := iN c50 h
      refine vi_aload_n C dX12_comeUp_293 rfl rfl ?_
      refine r_geta C dX12_comeUp_294 rfl fX12_58 rfl hR rfl ?_
      refine vi_bipush (v := 16) C dX12_comeUp_297 rfl (by decide) ?_
      refine vi_iload_n C dX12_comeUp_299 rfl rfl ?_
      refine vi_aload_n C dX12_comeUp_300 rfl rfl ?_
      refine r_geta C dX12_comeUp_301 rfl fX12_40 rfl hR rfl ?_
      refine vi_iload_n C dX12_comeUp_304 rfl rfl ?_
      refine r_iaload C dX12_comeUp_305 rfl rfl hR h (fun v45 h => ?_)
      refine r_cs1 C [.int (l1), .int (v45)] [.int ((16 : Int32)), .ref (b + 14)] dX12_comeUp_306 rfl ivX12_211 isX12_at hR hF h (fun _ e => p_X12_at e hR) rfl (Nat.le_of_ble_eq_true rfl) ⟨by decide, by decide⟩ ⟨Nat.le_refl _, Nat.le_refl _⟩ (fun S M46 v47 h hR hF => ?_)
      refine vi_imul C dX12_comeUp_309 rfl ?_
      refine vi_iload C dX12_comeUp_310 rfl rfl ?_
      refine vi_iadd C dX12_comeUp_312 rfl ?_
      refine vi_aload_n C dX12_comeUp_313 rfl rfl ?_
      refine r_geta C dX12_comeUp_314 rfl fX12_104 rfl hR rfl ?_
      refine vi_bipush (v := 100) C dX12_comeUp_317 rfl (by decide) ?_
      refine vi_iload_n C dX12_comeUp_319 rfl rfl ?_
      refine vi_imul C dX12_comeUp_320 rfl ?_
      refine vi_iload C dX12_comeUp_321 rfl rfl ?_
      refine vi_iadd C dX12_comeUp_323 rfl ?_
      refine r_iaload C dX12_comeUp_324 rfl rfl hR h (fun v48 h => ?_)
      refine r_iastore C dX12_comeUp_325 rfl rfl hR hF h (fun S M49 h hR hF => ?_)
      refine vi_iincv (v := 1) C dX12_comeUp_326 rfl rfl (by decide) (by decide) ?_
      refine vi_goto (t' := 286) C dX12_comeUp_329 (by decide) ?_
      exact vi_cut [(0, .ref m), (1, .int (l1)), (2, .int (l2)), (3, .int (l3)), (5, .int ((l5 + (1))))] ⟨rfl, rfl, rfl, rfl, rfl, trivial⟩ (ih _ _ h _ hR hF)

set_option maxRecDepth 100000 in
set_option maxHeartbeats 4000000 in
theorem w_X12_comeUp_112 {E : vE} {X : vX} {S0 : vS} {sz m b : Nat} {ρ : Type} {R : ρ} {Z : State → Prop} {l1 : Int32} {kx338 : vM → Option ρ} (C : vi_C E X yX12_comeUp cX12_comeUp 6 none 6 0 0 (45 * 6)) (hx338 : ∀ (M : vM) , kx338 M  = some R → ∀ S, RM S sz m b M → rF S0 S m b → vi_W E X 6 Z 338 [(0, .ref m), (1, .int (l1))] [] S sz 0 0) : ∀ (f : Nat) (M : vM) (l2 : Int32), L_X12_comeUp_112 l1 kx338 f M l2 = some R → ∀ S, RM S sz m b M → rF S0 S m b → vi_W E X 6 Z 112 [(0, .ref m), (1, .int (l1)), (2, .int (l2))] [] S sz 0 0 := by
  intro f
  induction f with
  | zero => intro M l2 h; cases h
  | succ f ih =>
    intro M l2 h S hR hF
    rw [L_X12_comeUp_112] at h
    refine vi_iload_n C dX12_comeUp_112 rfl rfl ?_
    refine vi_aload_n C dX12_comeUp_113 rfl rfl ?_
    refine r_geta C dX12_comeUp_114 rfl fX12_107 rfl hR rfl ?_
    refine vi_iload_n C dX12_comeUp_117 rfl rfl ?_
    refine r_iaload C dX12_comeUp_118 rfl rfl hR h (fun v16 h => ?_)
    refine vi_icmp_ge (t' := 338) C dX12_comeUp_119 rfl (by decide) (fun c53 => ?_) (fun c53 => ?_)
    · replace h := iT c53 h
      exact vi_cut [(0, .ref m), (1, .int (l1))] ⟨rfl, rfl, trivial⟩ (hx338 _  h _ hR hF)
    · replace h := iN c53 h
      refine vi_bipush (v := 64) C dX12_comeUp_122 rfl (by decide) ?_
      refine vi_iload_n C dX12_comeUp_124 rfl rfl ?_
      refine vi_imul C dX12_comeUp_125 rfl ?_
      refine vi_iload_n C dX12_comeUp_126 rfl rfl ?_
      refine vi_iadd C dX12_comeUp_127 rfl ?_
      refine vi_istore_n C dX12_comeUp_128 rfl (by decide) ?_
      refine vi_aload_n C dX12_comeUp_129 rfl rfl ?_
      refine r_geta C dX12_comeUp_130 rfl fX12_100 rfl hR rfl ?_
      refine vi_iconst (v := 4) C dX12_comeUp_133 rfl (by decide) ?_
      refine vi_iload_n C dX12_comeUp_134 rfl rfl ?_
      refine vi_imul C dX12_comeUp_135 rfl ?_
      refine r_iaload C dX12_comeUp_136 rfl rfl hR h (fun v17 h => ?_)
      refine vi_istore C dX12_comeUp_137 rfl (by decide) ?_
      refine vi_iload C dX12_comeUp_139 rfl rfl ?_
      refine vi_iconst (v := 3) C dX12_comeUp_141 rfl (by decide) ?_
      refine r_jn h (fun k => ∀ (M22 : vM), k M22 = some R → ∀ S, RM S sz m b M22 → rF S0 S m b → vi_W E X 6 Z 161 [(0, .ref m), (1, .int (l1)), (2, .int (l2)), (3, .int ((((64 : Int32) * l1) + l2))), (4, .int (v17))] [] S sz 0 0) ?_ ?_
      · intro M22 h S hR hF
        refine vi_iload C dX12_comeUp_161 rfl rfl ?_
        refine vi_iconst (v := 2) C dX12_comeUp_163 rfl (by decide) ?_
        refine r_jn h (fun k => ∀ (M31 : vM), k M31 = some R → ∀ S, RM S sz m b M31 → rF S0 S m b → vi_W E X 6 Z 213 [(0, .ref m), (1, .int (l1)), (2, .int (l2)), (3, .int ((((64 : Int32) * l1) + l2))), (4, .int (v17))] [] S sz 0 0) ?_ ?_
        · intro M31 h S hR hF
          refine vi_iload C dX12_comeUp_213 rfl rfl ?_
          refine vi_iconst (v := 3) C dX12_comeUp_215 rfl (by decide) ?_
          refine r_jn h (fun k => ∀ (M37 : vM), k M37 = some R → ∀ S, RM S sz m b M37 → rF S0 S m b → vi_W E X 6 Z 241 [(0, .ref m), (1, .int (l1)), (2, .int (l2)), (3, .int ((((64 : Int32) * l1) + l2))), (4, .int (v17))] [] S sz 0 0) ?_ ?_
          · intro M37 h S hR hF
            refine vi_iload C dX12_comeUp_241 rfl rfl ?_
            refine vi_iconst (v := 4) C dX12_comeUp_243 rfl (by decide) ?_
            refine r_jn h (fun k => ∀ (M42 : vM), k M42 = some R → ∀ S, RM S sz m b M42 → rF S0 S m b → vi_W E X 6 Z 267 [(0, .ref m), (1, .int (l1)), (2, .int (l2)), (3, .int ((((64 : Int32) * l1) + l2))), (4, .int (v17))] [] S sz 0 0) ?_ ?_
            · intro M42 h S hR hF
              refine vi_iload C dX12_comeUp_267 rfl rfl ?_
              refine vi_iconst (v := 5) C dX12_comeUp_269 rfl (by decide) ?_
              refine vi_icmp_ne (t' := 332) C dX12_comeUp_270 rfl (by decide) (fun c52 => ?_) (fun c52 => ?_)
              · replace h := iN c52 h
                refine vi_iincv (v := 1) C dX12_comeUp_332 rfl rfl (by decide) (by decide) ?_
                refine vi_goto (t' := 112) C dX12_comeUp_335 (by decide) ?_
                exact vi_cut [(0, .ref m), (1, .int (l1)), (2, .int ((l2 + (1))))] ⟨rfl, rfl, rfl, trivial⟩ (ih _ _ h _ hR hF)
              · replace h := iT c52 h
                refine vi_aload_n C dX12_comeUp_273 rfl rfl ?_
                refine r_geta C dX12_comeUp_274 rfl fX12_40 rfl hR rfl ?_
                refine vi_iload_n C dX12_comeUp_277 rfl rfl ?_
                refine vi_dup2 C dX12_comeUp_278 rfl rfl rfl ?_
                refine r_iaload C dX12_comeUp_279 rfl rfl hR h (fun v43 h => ?_)
                refine vi_iconst (v := 1) C dX12_comeUp_280 rfl (by decide) ?_
                refine vi_isub C dX12_comeUp_281 rfl ?_
                refine r_iastore C dX12_comeUp_282 rfl rfl hR hF h (fun S M44 h hR hF => ?_)
                refine vi_iconst (v := 0) C dX12_comeUp_283 rfl (by decide) ?_
                refine vi_istore C dX12_comeUp_284 rfl (by decide) ?_
                refine vi_cut [(0, .ref m), (1, .int (l1)), (2, .int (l2)), (3, .int ((((64 : Int32) * l1) + l2))), (5, .int ((0 : Int32)))] ⟨rfl, rfl, rfl, rfl, rfl, trivial⟩ (w_X12_comeUp_286 C ?_ _ _ _ h _ hR hF)
                · intro M51 h S hR hF
                  refine vi_iincv (v := 1) C dX12_comeUp_332 rfl rfl (by decide) (by decide) ?_
                  refine vi_goto (t' := 112) C dX12_comeUp_335 (by decide) ?_
                  exact vi_cut [(0, .ref m), (1, .int (l1)), (2, .int ((l2 + (1))))] ⟨rfl, rfl, rfl, trivial⟩ (ih _ _ h _ hR hF)
            · intro k267_38 h267_38 h
              refine vi_icmp_ne (t' := 267) C dX12_comeUp_244 rfl (by decide) (fun c41 => ?_) (fun c41 => ?_)
              · replace h := iN c41 h
                exact vi_cut [(0, .ref m), (1, .int (l1)), (2, .int (l2)), (3, .int ((((64 : Int32) * l1) + l2))), (4, .int (v17))] ⟨rfl, rfl, rfl, rfl, rfl, trivial⟩ (h267_38 _ h _ hR hF)
              · replace h := iT c41 h
                refine vi_aload_n C dX12_comeUp_247 rfl rfl ?_
                refine vi_iload_n C dX12_comeUp_248 rfl rfl ?_
                refine vi_aload_n C dX12_comeUp_249 rfl rfl ?_
                refine r_geta C dX12_comeUp_250 rfl fX12_104 rfl hR rfl ?_
                refine vi_bipush (v := 100) C dX12_comeUp_253 rfl (by decide) ?_
                refine vi_iload_n C dX12_comeUp_255 rfl rfl ?_
                refine vi_imul C dX12_comeUp_256 rfl ?_
                refine r_cv0 C [.int (l1), .ref (b + 29), .int (((100 : Int32) * (((64 : Int32) * l1) + l2)))] [] dX12_comeUp_257 rfl ivX12_278 imX12_restore rfl hR hF h (fun _ e => p_X12_restore e hR) rfl (Nat.le_of_ble_eq_true rfl) ⟨by decide, by decide⟩ ⟨Nat.le_refl _, Nat.le_refl _⟩ (fun S M39 h hR hF => ?_)
                refine vi_aload_n C dX12_comeUp_260 rfl rfl ?_
                refine vi_iload_n C dX12_comeUp_261 rfl rfl ?_
                refine vi_iconst (v := 0) C dX12_comeUp_262 rfl (by decide) ?_
                refine vi_iconst (v := 0) C dX12_comeUp_263 rfl (by decide) ?_
                refine r_cv0 C [.int (l1), .int ((0 : Int32)), .int ((0 : Int32))] [] dX12_comeUp_264 rfl ivX12_272 imX12_accept rfl hR hF h (fun _ e => p_X12_accept e hR) rfl (Nat.le_of_ble_eq_true rfl) ⟨by decide, by decide⟩ ⟨Nat.le_refl _, Nat.le_refl _⟩ (fun S M40 h hR hF => ?_)
                exact vi_cut [(0, .ref m), (1, .int (l1)), (2, .int (l2)), (3, .int ((((64 : Int32) * l1) + l2))), (4, .int (v17))] ⟨rfl, rfl, rfl, rfl, rfl, trivial⟩ (h267_38 _ h _ hR hF)
          · intro k241_32 h241_32 h
            refine vi_icmp_ne (t' := 241) C dX12_comeUp_216 rfl (by decide) (fun c36 => ?_) (fun c36 => ?_)
            · replace h := iN c36 h
              exact vi_cut [(0, .ref m), (1, .int (l1)), (2, .int (l2)), (3, .int ((((64 : Int32) * l1) + l2))), (4, .int (v17))] ⟨rfl, rfl, rfl, rfl, rfl, trivial⟩ (h241_32 _ h _ hR hF)
            · replace h := iT c36 h
              refine vi_aload_n C dX12_comeUp_219 rfl rfl ?_
              refine vi_iload_n C dX12_comeUp_220 rfl rfl ?_
              refine vi_aload_n C dX12_comeUp_221 rfl rfl ?_
              refine r_geta C dX12_comeUp_222 rfl fX12_100 rfl hR rfl ?_
              refine vi_iconst (v := 4) C dX12_comeUp_225 rfl (by decide) ?_
              refine vi_iload_n C dX12_comeUp_226 rfl rfl ?_
              refine vi_imul C dX12_comeUp_227 rfl ?_
              refine vi_iconst (v := 3) C dX12_comeUp_228 rfl (by decide) ?_
              refine vi_iadd C dX12_comeUp_229 rfl ?_
              refine r_iaload C dX12_comeUp_230 rfl rfl hR h (fun v33 h => ?_)
              refine r_cv0 C [.int (l1), .int (v33)] [] dX12_comeUp_231 rfl ivX12_275 imX12_applyTo rfl hR hF h (fun _ e => p_X12_applyTo e hR) rfl (Nat.le_of_ble_eq_true rfl) ⟨by decide, by decide⟩ ⟨Nat.le_refl _, Nat.le_refl _⟩ (fun S M34 h hR hF => ?_)
              refine vi_aload_n C dX12_comeUp_234 rfl rfl ?_
              refine vi_iload_n C dX12_comeUp_235 rfl rfl ?_
              refine vi_iconst (v := 0) C dX12_comeUp_236 rfl (by decide) ?_
              refine vi_iconst (v := 0) C dX12_comeUp_237 rfl (by decide) ?_
              refine r_cv0 C [.int (l1), .int ((0 : Int32)), .int ((0 : Int32))] [] dX12_comeUp_238 rfl ivX12_272 imX12_accept rfl hR hF h (fun _ e => p_X12_accept e hR) rfl (Nat.le_of_ble_eq_true rfl) ⟨by decide, by decide⟩ ⟨Nat.le_refl _, Nat.le_refl _⟩ (fun S M35 h hR hF => ?_)
              exact vi_cut [(0, .ref m), (1, .int (l1)), (2, .int (l2)), (3, .int ((((64 : Int32) * l1) + l2))), (4, .int (v17))] ⟨rfl, rfl, rfl, rfl, rfl, trivial⟩ (h241_32 _ h _ hR hF)
        · intro k213_23 h213_23 h
          refine vi_icmp_ne (t' := 213) C dX12_comeUp_164 rfl (by decide) (fun c30 => ?_) (fun c30 => ?_)
          · replace h := iN c30 h
            exact vi_cut [(0, .ref m), (1, .int (l1)), (2, .int (l2)), (3, .int ((((64 : Int32) * l1) + l2))), (4, .int (v17))] ⟨rfl, rfl, rfl, rfl, rfl, trivial⟩ (h213_23 _ h _ hR hF)
          · replace h := iT c30 h
            refine vi_aload_n C dX12_comeUp_167 rfl rfl ?_
            refine r_geta C dX12_comeUp_168 rfl fX12_100 rfl hR rfl ?_
            refine vi_iconst (v := 4) C dX12_comeUp_171 rfl (by decide) ?_
            refine vi_iload_n C dX12_comeUp_172 rfl rfl ?_
            refine vi_imul C dX12_comeUp_173 rfl ?_
            refine vi_iconst (v := 2) C dX12_comeUp_174 rfl (by decide) ?_
            refine vi_iadd C dX12_comeUp_175 rfl ?_
            refine r_iaload C dX12_comeUp_176 rfl rfl hR h (fun v24 h => ?_)
            refine vi_aload_n C dX12_comeUp_177 rfl rfl ?_
            refine r_geta C dX12_comeUp_178 rfl fX12_37 rfl hR rfl ?_
            refine vi_iload_n C dX12_comeUp_181 rfl rfl ?_
            refine r_iaload C dX12_comeUp_182 rfl rfl hR h (fun v25 h => ?_)
            refine vi_iconst (v := 1) C dX12_comeUp_183 rfl (by decide) ?_
            refine vi_iadd C dX12_comeUp_184 rfl ?_
            refine vi_icmp_ne (t' := 213) C dX12_comeUp_185 rfl (by decide) (fun c29 => ?_) (fun c29 => ?_)
            · replace h := iN c29 h
              exact vi_cut [(0, .ref m), (1, .int (l1)), (2, .int (l2)), (3, .int ((((64 : Int32) * l1) + l2))), (4, .int (v17))] ⟨rfl, rfl, rfl, rfl, rfl, trivial⟩ (h213_23 _ h _ hR hF)
            · replace h := iT c29 h
              refine vi_aload_n C dX12_comeUp_188 rfl rfl ?_
              refine vi_iload_n C dX12_comeUp_189 rfl rfl ?_
              refine vi_aload_n C dX12_comeUp_190 rfl rfl ?_
              refine r_geta C dX12_comeUp_191 rfl fX12_100 rfl hR rfl ?_
              refine vi_iconst (v := 4) C dX12_comeUp_194 rfl (by decide) ?_
              refine vi_iload_n C dX12_comeUp_195 rfl rfl ?_
              refine vi_imul C dX12_comeUp_196 rfl ?_
              refine vi_iconst (v := 1) C dX12_comeUp_197 rfl (by decide) ?_
              refine vi_iadd C dX12_comeUp_198 rfl ?_
              refine r_iaload C dX12_comeUp_199 rfl rfl hR h (fun v26 h => ?_)
              refine vi_aload_n C dX12_comeUp_200 rfl rfl ?_
              refine r_geta C dX12_comeUp_201 rfl fX12_100 rfl hR rfl ?_
              refine vi_iconst (v := 4) C dX12_comeUp_204 rfl (by decide) ?_
              refine vi_iload_n C dX12_comeUp_205 rfl rfl ?_
              refine vi_imul C dX12_comeUp_206 rfl ?_
              refine vi_iconst (v := 3) C dX12_comeUp_207 rfl (by decide) ?_
              refine vi_iadd C dX12_comeUp_208 rfl ?_
              refine r_iaload C dX12_comeUp_209 rfl rfl hR h (fun v27 h => ?_)
              refine r_cv0 C [.int (l1), .int (v26), .int (v27)] [] dX12_comeUp_210 rfl ivX12_272 imX12_accept rfl hR hF h (fun _ e => p_X12_accept e hR) rfl (Nat.le_of_ble_eq_true rfl) ⟨by decide, by decide⟩ ⟨Nat.le_refl _, Nat.le_refl _⟩ (fun S M28 h hR hF => ?_)
              exact vi_cut [(0, .ref m), (1, .int (l1)), (2, .int (l2)), (3, .int ((((64 : Int32) * l1) + l2))), (4, .int (v17))] ⟨rfl, rfl, rfl, rfl, rfl, trivial⟩ (h213_23 _ h _ hR hF)
      · intro k161_18 h161_18 h
        refine vi_icmp_ge (t' := 161) C dX12_comeUp_142 rfl (by decide) (fun c21 => ?_) (fun c21 => ?_)
        · replace h := iT c21 h
          exact vi_cut [(0, .ref m), (1, .int (l1)), (2, .int (l2)), (3, .int ((((64 : Int32) * l1) + l2))), (4, .int (v17))] ⟨rfl, rfl, rfl, rfl, rfl, trivial⟩ (h161_18 _ h _ hR hF)
        · replace h := iN c21 h
          refine vi_aload_n C dX12_comeUp_145 rfl rfl ?_
          refine r_geta C dX12_comeUp_146 rfl fX12_46 rfl hR rfl ?_
          refine vi_iload_n C dX12_comeUp_149 rfl rfl ?_
          refine vi_aload_n C dX12_comeUp_150 rfl rfl ?_
          refine r_geta C dX12_comeUp_151 rfl fX12_100 rfl hR rfl ?_
          refine vi_iconst (v := 4) C dX12_comeUp_154 rfl (by decide) ?_
          refine vi_iload_n C dX12_comeUp_155 rfl rfl ?_
          refine vi_imul C dX12_comeUp_156 rfl ?_
          refine vi_iconst (v := 1) C dX12_comeUp_157 rfl (by decide) ?_
          refine vi_iadd C dX12_comeUp_158 rfl ?_
          refine r_iaload C dX12_comeUp_159 rfl rfl hR h (fun v19 h => ?_)
          refine r_iastore C dX12_comeUp_160 rfl rfl hR hF h (fun S M20 h hR hF => ?_)
          exact vi_cut [(0, .ref m), (1, .int (l1)), (2, .int (l2)), (3, .int ((((64 : Int32) * l1) + l2))), (4, .int (v17))] ⟨rfl, rfl, rfl, rfl, rfl, trivial⟩ (h161_18 _ h _ hR hF)

set_option maxRecDepth 100000 in
set_option maxHeartbeats 4000000 in
theorem p_X12_comeUp {M : vM} {R : vM} {a1 : Int32} (h : F_X12_comeUp M a1 = some R) {E : vE} {S0 : vS} {sz m b : Nat} (hR : RM S0 sz m b M) : vi_Met E yX12_comeUp cX12_comeUp 6 none 6 0 0 [.ref m, .int (a1)] S0 sz (Q0 S0 sz m b R) := by
  refine vi_met (by decide) (Nat.le_of_ble_eq_true rfl) ?_
  intro X C
  have hF := rF.refl S0 m b
  unfold F_X12_comeUp at h
  refine vi_aload_n C dX12_comeUp_0 rfl rfl ?_
  refine r_geta C dX12_comeUp_1 rfl fX12_37 rfl hR rfl ?_
  refine vi_iload_n C dX12_comeUp_4 rfl rfl ?_
  refine vi_iconst (v := 0) C dX12_comeUp_5 rfl (by decide) ?_
  refine r_iastore C dX12_comeUp_6 rfl rfl hR hF h (fun S M1 h hR hF => ?_)
  refine vi_aload_n C dX12_comeUp_7 rfl rfl ?_
  refine r_geta C dX12_comeUp_8 rfl fX12_40 rfl hR rfl ?_
  refine vi_iload_n C dX12_comeUp_11 rfl rfl ?_
  refine vi_iconst (v := 0) C dX12_comeUp_12 rfl (by decide) ?_
  refine r_iastore C dX12_comeUp_13 rfl rfl hR hF h (fun S M2 h hR hF => ?_)
  refine vi_aload_n C dX12_comeUp_14 rfl rfl ?_
  refine r_geta C dX12_comeUp_15 rfl fX12_43 rfl hR rfl ?_
  refine vi_iload_n C dX12_comeUp_18 rfl rfl ?_
  refine vi_iconst (v := 0) C dX12_comeUp_19 rfl (by decide) ?_
  refine r_iastore C dX12_comeUp_20 rfl rfl hR hF h (fun S M3 h hR hF => ?_)
  refine vi_aload_n C dX12_comeUp_21 rfl rfl ?_
  refine r_geta C dX12_comeUp_22 rfl fX12_46 rfl hR rfl ?_
  refine vi_iload_n C dX12_comeUp_25 rfl rfl ?_
  refine vi_iconst (v := 0) C dX12_comeUp_26 rfl (by decide) ?_
  refine r_iastore C dX12_comeUp_27 rfl rfl hR hF h (fun S M4 h hR hF => ?_)
  refine vi_aload_n C dX12_comeUp_28 rfl rfl ?_
  refine r_geta C dX12_comeUp_29 rfl fX12_49 rfl hR rfl ?_
  refine vi_iload_n C dX12_comeUp_32 rfl rfl ?_
  refine vi_iconst (v := 0) C dX12_comeUp_33 rfl (by decide) ?_
  refine r_iastore C dX12_comeUp_34 rfl rfl hR hF h (fun S M5 h hR hF => ?_)
  refine vi_aload_n C dX12_comeUp_35 rfl rfl ?_
  refine r_geta C dX12_comeUp_36 rfl fX12_52 rfl hR rfl ?_
  refine vi_iload_n C dX12_comeUp_39 rfl rfl ?_
  refine vi_iconst (v := 0) C dX12_comeUp_40 rfl (by decide) ?_
  refine r_iastore C dX12_comeUp_41 rfl rfl hR hF h (fun S M6 h hR hF => ?_)
  refine vi_aload_n C dX12_comeUp_42 rfl rfl ?_
  refine r_geta C dX12_comeUp_43 rfl fX12_148 rfl hR rfl ?_
  refine vi_iload_n C dX12_comeUp_46 rfl rfl ?_
  refine vi_iconst (v := 0) C dX12_comeUp_47 rfl (by decide) ?_
  refine r_iastore C dX12_comeUp_48 rfl rfl hR hF h (fun S M7 h hR hF => ?_)
  refine vi_aload_n C dX12_comeUp_49 rfl rfl ?_
  refine r_geta C dX12_comeUp_50 rfl fX12_151 rfl hR rfl ?_
  refine vi_iload_n C dX12_comeUp_53 rfl rfl ?_
  refine vi_iconst (v := 0) C dX12_comeUp_54 rfl (by decide) ?_
  refine r_iastore C dX12_comeUp_55 rfl rfl hR hF h (fun S M8 h hR hF => ?_)
  refine vi_iconst (v := 0) C dX12_comeUp_56 rfl (by decide) ?_
  refine vi_istore_n C dX12_comeUp_57 rfl (by decide) ?_
  refine vi_cut [(0, .ref m), (1, .int (a1)), (2, .int ((0 : Int32)))] ⟨rfl, rfl, rfl, trivial⟩ (w_X12_comeUp_58 C ?_ _ _ _ h _ hR hF)
  · intro M15 h S hR hF
    refine vi_iconst (v := 0) C dX12_comeUp_110 rfl (by decide) ?_
    refine vi_istore_n C dX12_comeUp_111 rfl (by decide) ?_
    refine vi_cut [(0, .ref m), (1, .int (a1)), (2, .int ((0 : Int32)))] ⟨rfl, rfl, rfl, trivial⟩ (w_X12_comeUp_112 C ?_ _ _ _ h _ hR hF)
    · intro M54 h S hR hF
      refine vi_aload_n C dX12_comeUp_338 rfl rfl ?_
      refine r_geta C dX12_comeUp_339 rfl fX12_91 rfl hR rfl ?_
      refine vi_iload_n C dX12_comeUp_342 rfl rfl ?_
      refine vi_aload_n C dX12_comeUp_343 rfl rfl ?_
      refine r_geta C dX12_comeUp_344 rfl fX12_46 rfl hR rfl ?_
      refine vi_iload_n C dX12_comeUp_347 rfl rfl ?_
      refine r_iaload C dX12_comeUp_348 rfl rfl hR h (fun v55 h => ?_)
      refine r_iastore C dX12_comeUp_349 rfl rfl hR hF h (fun S M56 h hR hF => ?_)
      refine vi_aload_n C dX12_comeUp_350 rfl rfl ?_
      refine r_geta C dX12_comeUp_351 rfl fX12_122 rfl hR rfl ?_
      refine vi_iload_n C dX12_comeUp_354 rfl rfl ?_
      refine vi_iconst (v := -1) C dX12_comeUp_355 rfl (by decide) ?_
      refine r_iastore C dX12_comeUp_356 rfl rfl hR hF h (fun S M57 h hR hF => ?_)
      refine vi_aload_n C dX12_comeUp_357 rfl rfl ?_
      refine r_geta C dX12_comeUp_358 rfl fX12_55 rfl hR rfl ?_
      refine vi_iload_n C dX12_comeUp_361 rfl rfl ?_
      refine vi_iconst (v := 0) C dX12_comeUp_362 rfl (by decide) ?_
      refine r_iastore C dX12_comeUp_363 rfl rfl hR hF h (fun S M58 h hR hF => ?_)
      refine vi_aload_n C dX12_comeUp_364 rfl rfl ?_
      refine vi_iload_n C dX12_comeUp_365 rfl rfl ?_
      refine r_cv1 C [.int (a1)] [] dX12_comeUp_366 rfl ivX12_281 imX12_checkpoint rfl hR hF h (fun _ e => p_X12_checkpoint e hR) rfl (Nat.le_of_ble_eq_true rfl) ⟨by decide, by decide⟩ ⟨Nat.le_refl _, Nat.le_refl _⟩ (fun S M59 v60 h hR hF => ?_)
      refine vi_istore_n C dX12_comeUp_369 rfl (by decide) ?_
      exact r_ret0 C dX12_comeUp_370 rfl hR hF h
