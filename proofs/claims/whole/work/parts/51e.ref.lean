def F_X12_beginAt (M : vM) (a1 : Int32) (a2 : Int32) (a3 : Int32) : Option (vM × Int32) := lt1 (mW M 0 ((0 : Int32))) fun M1 => b2 (F_X12_isSession M1 (a1)) fun M2 v3 => if v3 = 0 then (zb ((0 : Int32)) (some (M2, (0 : Int32)))) else (b2 (F_X12_isUp M2 (a2)) fun M4 v5 => if v5 = 0 then (zb ((0 : Int32)) (some (M4, (0 : Int32)))) else ((mG M4 46 (a1)).bind fun v6 => if v6 = (1 : Int32) then (zb ((0 : Int32)) (some (M4, (0 : Int32)))) else ((mG M4 46 (a1)).bind fun v7 => if v7 = (2 : Int32) then (zb ((0 : Int32)) (some (M4, (0 : Int32)))) else ((mS M4 46 (a1) ((1 : Int32))).bind fun M8 => (mS M8 48 (a1) (a2)).bind fun M9 => (mG M9 7 (a2)).bind fun v10 => (mS M9 49 (a1) (v10)).bind fun M11 => (mS M11 50 (a1) ((0 : Int32))).bind fun M12 => (mS M12 51 (a1) ((0 : Int32))).bind fun M13 => zb (a3) <| (mS M13 52 (a1) (a3)).bind fun M14 => zb ((1 : Int32)) (some (M14, (1 : Int32)))))))

set_option maxRecDepth 100000 in
set_option maxHeartbeats 4000000 in
theorem p_X12_beginAt {M : vM} {R : (vM × Int32)} {a1 : Int32} {a2 : Int32} {a3 : Int32} (h : F_X12_beginAt M a1 a2 a3 = some R) {E : vE} {S0 : vS} {sz m b : Nat} (hR : RM S0 sz m b M) : vi_Met E yX12_beginAt cX12_beginAt 4 (some .boolean) 2 0 0 [.ref m, .int (a1), .int (a2), .int (a3)] S0 sz (Q1 S0 sz m b R) := by
  refine vi_met (by decide) (Nat.le_of_ble_eq_true rfl) ?_
  intro X C
  have hF := rF.refl S0 m b
  unfold F_X12_beginAt at h
  refine vi_aload_n C dX12_beginAt_0 rfl rfl ?_
  refine vi_iconst (v := 0) C dX12_beginAt_1 rfl (by decide) ?_
  refine r_puti C dX12_beginAt_2 rfl (fpX12_204 _) rfl hR hF h (fun S M1 h hR hF => ?_)
  refine vi_iload_n C dX12_beginAt_5 rfl rfl ?_
  refine r_cs1 C [.int (a1)] [] dX12_beginAt_6 rfl ivX12_370 isX12_isSession hR hF h (fun _ e => p_X12_isSession e hR) rfl (Nat.le_of_ble_eq_true rfl) ⟨by decide, by decide⟩ ⟨Nat.le_refl _, Nat.le_refl _⟩ (fun S M2 v3 h hR hF => ?_)
  refine vi_if_eq (t' := 40) C dX12_beginAt_9 rfl (by decide) (fun c18 => ?_) (fun c18 => ?_)
  · replace h := iT c18 h
    refine vi_iconst (v := 0) C dX12_beginAt_40 rfl (by decide) ?_
    exact r_retz C dX12_beginAt_41 rfl hR hF h
  · replace h := iN c18 h
    refine vi_aload_n C dX12_beginAt_12 rfl rfl ?_
    refine vi_iload_n C dX12_beginAt_13 rfl rfl ?_
    refine r_cv1 C [.int (a2)] [] dX12_beginAt_14 rfl ivX12_373 imX12_isUp rfl hR hF h (fun _ e => p_X12_isUp e hR) rfl (Nat.le_of_ble_eq_true rfl) ⟨by decide, by decide⟩ ⟨Nat.le_refl _, Nat.le_refl _⟩ (fun S M4 v5 h hR hF => ?_)
    refine vi_if_eq (t' := 40) C dX12_beginAt_17 rfl (by decide) (fun c17 => ?_) (fun c17 => ?_)
    · replace h := iT c17 h
      refine vi_iconst (v := 0) C dX12_beginAt_40 rfl (by decide) ?_
      exact r_retz C dX12_beginAt_41 rfl hR hF h
    · replace h := iN c17 h
      refine vi_aload_n C dX12_beginAt_20 rfl rfl ?_
      refine r_geta C dX12_beginAt_21 rfl fX12_157 rfl hR rfl ?_
      refine vi_iload_n C dX12_beginAt_24 rfl rfl ?_
      refine r_iaload C dX12_beginAt_25 rfl rfl hR h (fun v6 h => ?_)
      refine vi_iconst (v := 1) C dX12_beginAt_26 rfl (by decide) ?_
      refine vi_icmp_eq (t' := 40) C dX12_beginAt_27 rfl (by decide) (fun c16 => ?_) (fun c16 => ?_)
      · replace h := iT c16 h
        refine vi_iconst (v := 0) C dX12_beginAt_40 rfl (by decide) ?_
        exact r_retz C dX12_beginAt_41 rfl hR hF h
      · replace h := iN c16 h
        refine vi_aload_n C dX12_beginAt_30 rfl rfl ?_
        refine r_geta C dX12_beginAt_31 rfl fX12_157 rfl hR rfl ?_
        refine vi_iload_n C dX12_beginAt_34 rfl rfl ?_
        refine r_iaload C dX12_beginAt_35 rfl rfl hR h (fun v7 h => ?_)
        refine vi_iconst (v := 2) C dX12_beginAt_36 rfl (by decide) ?_
        refine vi_icmp_ne (t' := 42) C dX12_beginAt_37 rfl (by decide) (fun c15 => ?_) (fun c15 => ?_)
        · replace h := iN c15 h
          refine vi_aload_n C dX12_beginAt_42 rfl rfl ?_
          refine r_geta C dX12_beginAt_43 rfl fX12_157 rfl hR rfl ?_
          refine vi_iload_n C dX12_beginAt_46 rfl rfl ?_
          refine vi_iconst (v := 1) C dX12_beginAt_47 rfl (by decide) ?_
          refine r_iastore C dX12_beginAt_48 rfl rfl hR hF h (fun S M8 h hR hF => ?_)
          refine vi_aload_n C dX12_beginAt_49 rfl rfl ?_
          refine r_geta C dX12_beginAt_50 rfl fX12_163 rfl hR rfl ?_
          refine vi_iload_n C dX12_beginAt_53 rfl rfl ?_
          refine vi_iload_n C dX12_beginAt_54 rfl rfl ?_
          refine r_iastore C dX12_beginAt_55 rfl rfl hR hF h (fun S M9 h hR hF => ?_)
          refine vi_aload_n C dX12_beginAt_56 rfl rfl ?_
          refine r_geta C dX12_beginAt_57 rfl fX12_166 rfl hR rfl ?_
          refine vi_iload_n C dX12_beginAt_60 rfl rfl ?_
          refine vi_aload_n C dX12_beginAt_61 rfl rfl ?_
          refine r_geta C dX12_beginAt_62 rfl fX12_37 rfl hR rfl ?_
          refine vi_iload_n C dX12_beginAt_65 rfl rfl ?_
          refine r_iaload C dX12_beginAt_66 rfl rfl hR h (fun v10 h => ?_)
          refine r_iastore C dX12_beginAt_67 rfl rfl hR hF h (fun S M11 h hR hF => ?_)
          refine vi_aload_n C dX12_beginAt_68 rfl rfl ?_
          refine r_geta C dX12_beginAt_69 rfl fX12_169 rfl hR rfl ?_
          refine vi_iload_n C dX12_beginAt_72 rfl rfl ?_
          refine vi_iconst (v := 0) C dX12_beginAt_73 rfl (by decide) ?_
          refine r_iastore C dX12_beginAt_74 rfl rfl hR hF h (fun S M12 h hR hF => ?_)
          refine vi_aload_n C dX12_beginAt_75 rfl rfl ?_
          refine r_geta C dX12_beginAt_76 rfl fX12_172 rfl hR rfl ?_
          refine vi_iload_n C dX12_beginAt_79 rfl rfl ?_
          refine vi_iconst (v := 0) C dX12_beginAt_80 rfl (by decide) ?_
          refine r_iastore C dX12_beginAt_81 rfl rfl hR hF h (fun S M13 h hR hF => ?_)
          refine vi_aload_n C dX12_beginAt_82 rfl rfl ?_
          refine r_geta C dX12_beginAt_83 rfl fX12_175 rfl hR rfl ?_
          refine vi_iload_n C dX12_beginAt_86 rfl rfl ?_
          refine vi_iload_n C dX12_beginAt_87 rfl rfl ?_
          refine r_zastore C dX12_beginAt_88 rfl rfl hR hF h (fun S M14 h hR hF => ?_)
          refine vi_iconst (v := 1) C dX12_beginAt_89 rfl (by decide) ?_
          exact r_retz C dX12_beginAt_90 rfl hR hF h
        · replace h := iT c15 h
          refine vi_iconst (v := 0) C dX12_beginAt_40 rfl (by decide) ?_
          exact r_retz C dX12_beginAt_41 rfl hR hF h

def F_X12_readKey (M : vM) (a1 : Int32) (a2 : Int32) : Option (vM × Int32) := b2 (F_X12_isSession M (a1)) fun M1 v2 => jn (fun (M8 : vM) (s1_20 : Int32) => lt1 (mW M8 0 (s1_20)) fun M9 => if (M9.1 0) ≤ 0 then ((mG M9 46 (a1)).bind fun v10 => jn (fun (s1_48 : Int32) => lt1 (mW M9 0 (s1_48)) fun M13 => if (M13.1 0) ≤ 0 then ((mG M13 48 (a1)).bind fun v14 => (mG M13 49 (a1)).bind fun v15 => (mG M13 8 (v14)).bind fun v16 => if v16 ≤ v15 then ((mG M13 51 (a1)).bind fun v17 => if ((v17 >>> (a2 &&& 31)) &&& (1 : Int32)) = (1 : Int32) then ((mG M13 54 ((((16 : Int32) * a1) + a2))).bind fun v24 => some (M13, v24)) else ((mG M13 50 (a1)).bind fun v18 => (mS M13 50 (a1) ((v18 ||| ((1 : Int32) <<< (a2 &&& 31))))).bind fun M19 => (mG M19 49 (a1)).bind fun v20 => b2 (F_X12_at M19 (v14) (v20)) fun M21 v22 => (mG M21 14 ((((16 : Int32) * v22) + a2))).bind fun v23 => some (M21, v23))) else ((mS M13 46 (a1) ((4 : Int32))).bind fun M26 => lt1 (mW M26 0 ((2 : Int32))) fun M27 => some (M27, (0 : Int32)))) else (some (M13, (0 : Int32)))) (fun k48_11 => if v10 = (1 : Int32) then ((k48_11 ((0 : Int32)))) else ((k48_11 ((2 : Int32)))))) else (some (M9, (0 : Int32)))) (fun k20_3 => if v2 = 0 then ((k20_3 (M1) ((1 : Int32)))) else (b2 (F_X12_isKey M1 (a2)) fun M4 v5 => if v5 = 0 then ((k20_3 (M4) ((1 : Int32)))) else ((k20_3 (M4) ((0 : Int32))))))

set_option maxRecDepth 100000 in
set_option maxHeartbeats 4000000 in
theorem p_X12_readKey {M : vM} {R : (vM × Int32)} {a1 : Int32} {a2 : Int32} (h : F_X12_readKey M a1 a2 = some R) {E : vE} {S0 : vS} {sz m b : Nat} (hR : RM S0 sz m b M) : vi_Met E yX12_readKey cX12_readKey 4 (some .int) 1 0 0 [.ref m, .int (a1), .int (a2)] S0 sz (Q1 S0 sz m b R) := by
  refine vi_met (by decide) (Nat.le_of_ble_eq_true rfl) ?_
  intro X C
  have hF := rF.refl S0 m b
  unfold F_X12_readKey at h
  refine vi_aload_n C dX12_readKey_0 rfl rfl ?_
  refine vi_iload_n C dX12_readKey_1 rfl rfl ?_
  refine r_cs1 C [.int (a1)] [.ref m] dX12_readKey_2 rfl ivX12_370 isX12_isSession hR hF h (fun _ e => p_X12_isSession e hR) rfl (Nat.le_of_ble_eq_true rfl) ⟨by decide, by decide⟩ ⟨Nat.le_refl _, Nat.le_refl _⟩ (fun S M1 v2 h hR hF => ?_)
  refine r_jn h (fun k => ∀ (M8 : vM) (s1_20 : Int32), k M8 s1_20 = some R → ∀ S, RM S sz m b M8 → rF S0 S m b → vi_W E X 4 (vi_Z E X (Q1 S0 sz m b R) 0 0) 20 [(0, .ref m), (1, .int (a1)), (2, .int (a2))] [.int (s1_20), .ref m] S sz 0 0) ?_ ?_
  · intro M8 s1_20 h S hR hF
    refine r_puti C dX12_readKey_20 rfl (fpX12_204 _) rfl hR hF h (fun S M9 h hR hF => ?_)
    refine vi_aload_n C dX12_readKey_23 rfl rfl ?_
    refine r_geti C dX12_readKey_24 rfl fX12_204 rfl hR ?_
    refine vi_if_le (t' := 32) C dX12_readKey_27 rfl (by decide) (fun c30 => ?_) (fun c30 => ?_)
    · replace h := iT c30 h
      refine vi_aload_n C dX12_readKey_32 rfl rfl ?_
      refine vi_aload_n C dX12_readKey_33 rfl rfl ?_
      refine r_geta C dX12_readKey_34 rfl fX12_157 rfl hR rfl ?_
      refine vi_iload_n C dX12_readKey_37 rfl rfl ?_
      refine r_iaload C dX12_readKey_38 rfl rfl hR h (fun v10 h => ?_)
      refine vi_iconst (v := 1) C dX12_readKey_39 rfl (by decide) ?_
      refine r_jn h (fun k => ∀ (s1_48 : Int32), k s1_48 = some R → ∀ S, RM S sz m b M9 → rF S0 S m b → vi_W E X 4 (vi_Z E X (Q1 S0 sz m b R) 0 0) 48 [(0, .ref m), (1, .int (a1)), (2, .int (a2))] [.int (s1_48), .ref m] S sz 0 0) ?_ ?_
      · intro s1_48 h S hR hF
        refine r_puti C dX12_readKey_48 rfl (fpX12_204 _) rfl hR hF h (fun S M13 h hR hF => ?_)
        refine vi_aload_n C dX12_readKey_51 rfl rfl ?_
        refine r_geti C dX12_readKey_52 rfl fX12_204 rfl hR ?_
        refine vi_if_le (t' := 60) C dX12_readKey_55 rfl (by decide) (fun c29 => ?_) (fun c29 => ?_)
        · replace h := iT c29 h
          refine vi_aload_n C dX12_readKey_60 rfl rfl ?_
          refine r_geta C dX12_readKey_61 rfl fX12_163 rfl hR rfl ?_
          refine vi_iload_n C dX12_readKey_64 rfl rfl ?_
          refine r_iaload C dX12_readKey_65 rfl rfl hR h (fun v14 h => ?_)
          refine vi_istore_n C dX12_readKey_66 rfl (by decide) ?_
          refine vi_aload_n C dX12_readKey_67 rfl rfl ?_
          refine r_geta C dX12_readKey_68 rfl fX12_166 rfl hR rfl ?_
          refine vi_iload_n C dX12_readKey_71 rfl rfl ?_
          refine r_iaload C dX12_readKey_72 rfl rfl hR h (fun v15 h => ?_)
          refine vi_aload_n C dX12_readKey_73 rfl rfl ?_
          refine r_geta C dX12_readKey_74 rfl fX12_40 rfl hR rfl ?_
          refine vi_iload_n C dX12_readKey_77 rfl rfl ?_
          refine r_iaload C dX12_readKey_78 rfl rfl hR h (fun v16 h => ?_)
          refine vi_icmp_ge (t' := 96) C dX12_readKey_79 rfl (by decide) (fun c28 => ?_) (fun c28 => ?_)
          · replace h := iT c28 h
            refine vi_aload_n C dX12_readKey_96 rfl rfl ?_
            refine r_geta C dX12_readKey_97 rfl fX12_172 rfl hR rfl ?_
            refine vi_iload_n C dX12_readKey_100 rfl rfl ?_
            refine r_iaload C dX12_readKey_101 rfl rfl hR h (fun v17 h => ?_)
            refine vi_iload_n C dX12_readKey_102 rfl rfl ?_
            refine vi_ishr C dX12_readKey_103 rfl ?_
            refine vi_iconst (v := 1) C dX12_readKey_104 rfl (by decide) ?_
            refine vi_iand C dX12_readKey_105 rfl ?_
            refine vi_iconst (v := 1) C dX12_readKey_106 rfl (by decide) ?_
            refine vi_icmp_ne (t' := 122) C dX12_readKey_107 rfl (by decide) (fun c25 => ?_) (fun c25 => ?_)
            · replace h := iN c25 h
              refine vi_aload_n C dX12_readKey_122 rfl rfl ?_
              refine r_geta C dX12_readKey_123 rfl fX12_169 rfl hR rfl ?_
              refine vi_iload_n C dX12_readKey_126 rfl rfl ?_
              refine vi_dup2 C dX12_readKey_127 rfl rfl rfl ?_
              refine r_iaload C dX12_readKey_128 rfl rfl hR h (fun v18 h => ?_)
              refine vi_iconst (v := 1) C dX12_readKey_129 rfl (by decide) ?_
              refine vi_iload_n C dX12_readKey_130 rfl rfl ?_
              refine vi_ishl C dX12_readKey_131 rfl ?_
              refine vi_ior C dX12_readKey_132 rfl ?_
              refine r_iastore C dX12_readKey_133 rfl rfl hR hF h (fun S M19 h hR hF => ?_)
              refine vi_aload_n C dX12_readKey_134 rfl rfl ?_
              refine r_geta C dX12_readKey_135 rfl fX12_58 rfl hR rfl ?_
              refine vi_bipush (v := 16) C dX12_readKey_138 rfl (by decide) ?_
              refine vi_iload_n C dX12_readKey_140 rfl rfl ?_
              refine vi_aload_n C dX12_readKey_141 rfl rfl ?_
              refine r_geta C dX12_readKey_142 rfl fX12_166 rfl hR rfl ?_
              refine vi_iload_n C dX12_readKey_145 rfl rfl ?_
              refine r_iaload C dX12_readKey_146 rfl rfl hR h (fun v20 h => ?_)
              refine r_cs1 C [.int (v14), .int (v20)] [.int ((16 : Int32)), .ref (b + 14)] dX12_readKey_147 rfl ivX12_211 isX12_at hR hF h (fun _ e => p_X12_at e hR) rfl (Nat.le_of_ble_eq_true rfl) ⟨by decide, by decide⟩ ⟨Nat.le_refl _, Nat.le_refl _⟩ (fun S M21 v22 h hR hF => ?_)
              refine vi_imul C dX12_readKey_150 rfl ?_
              refine vi_iload_n C dX12_readKey_151 rfl rfl ?_
              refine vi_iadd C dX12_readKey_152 rfl ?_
              refine r_iaload C dX12_readKey_153 rfl rfl hR h (fun v23 h => ?_)
              exact r_ret1 C dX12_readKey_154 rfl hR hF h
            · replace h := iT c25 h
              refine vi_aload_n C dX12_readKey_110 rfl rfl ?_
              refine r_geta C dX12_readKey_111 rfl fX12_181 rfl hR rfl ?_
              refine vi_bipush (v := 16) C dX12_readKey_114 rfl (by decide) ?_
              refine vi_iload_n C dX12_readKey_116 rfl rfl ?_
              refine vi_imul C dX12_readKey_117 rfl ?_
              refine vi_iload_n C dX12_readKey_118 rfl rfl ?_
              refine vi_iadd C dX12_readKey_119 rfl ?_
              refine r_iaload C dX12_readKey_120 rfl rfl hR h (fun v24 h => ?_)
              exact r_ret1 C dX12_readKey_121 rfl hR hF h
          · replace h := iN c28 h
            refine vi_aload_n C dX12_readKey_82 rfl rfl ?_
            refine r_geta C dX12_readKey_83 rfl fX12_157 rfl hR rfl ?_
            refine vi_iload_n C dX12_readKey_86 rfl rfl ?_
            refine vi_iconst (v := 4) C dX12_readKey_87 rfl (by decide) ?_
            refine r_iastore C dX12_readKey_88 rfl rfl hR hF h (fun S M26 h hR hF => ?_)
            refine vi_aload_n C dX12_readKey_89 rfl rfl ?_
            refine vi_iconst (v := 2) C dX12_readKey_90 rfl (by decide) ?_
            refine r_puti C dX12_readKey_91 rfl (fpX12_204 _) rfl hR hF h (fun S M27 h hR hF => ?_)
            refine vi_iconst (v := 0) C dX12_readKey_94 rfl (by decide) ?_
            exact r_ret1 C dX12_readKey_95 rfl hR hF h
        · replace h := iN c29 h
          refine vi_iconst (v := 0) C dX12_readKey_58 rfl (by decide) ?_
          exact r_ret1 C dX12_readKey_59 rfl hR hF h
      · intro k48_11 h48_11 h
        refine vi_icmp_eq (t' := 47) C dX12_readKey_40 rfl (by decide) (fun c12 => ?_) (fun c12 => ?_)
        · replace h := iT c12 h
          refine vi_iconst (v := 0) C dX12_readKey_47 rfl (by decide) ?_
          exact vi_cut [(0, .ref m), (1, .int (a1)), (2, .int (a2))] ⟨rfl, rfl, rfl, trivial⟩ (h48_11 _ h _ hR hF)
        · replace h := iN c12 h
          refine vi_iconst (v := 2) C dX12_readKey_43 rfl (by decide) ?_
          refine vi_goto (t' := 48) C dX12_readKey_44 (by decide) ?_
          exact vi_cut [(0, .ref m), (1, .int (a1)), (2, .int (a2))] ⟨rfl, rfl, rfl, trivial⟩ (h48_11 _ h _ hR hF)
    · replace h := iN c30 h
      refine vi_iconst (v := 0) C dX12_readKey_30 rfl (by decide) ?_
      exact r_ret1 C dX12_readKey_31 rfl hR hF h
  · intro k20_3 h20_3 h
    refine vi_if_eq (t' := 15) C dX12_readKey_5 rfl (by decide) (fun c7 => ?_) (fun c7 => ?_)
    · replace h := iT c7 h
      refine vi_iconst (v := 1) C dX12_readKey_15 rfl (by decide) ?_
      refine vi_goto (t' := 20) C dX12_readKey_16 (by decide) ?_
      exact vi_cut [(0, .ref m), (1, .int (a1)), (2, .int (a2))] ⟨rfl, rfl, rfl, trivial⟩ (h20_3 _ _ h _ hR hF)
    · replace h := iN c7 h
      refine vi_iload_n C dX12_readKey_8 rfl rfl ?_
      refine r_cs1 C [.int (a2)] [.ref m] dX12_readKey_9 rfl ivX12_376 isX12_isKey hR hF h (fun _ e => p_X12_isKey e hR) rfl (Nat.le_of_ble_eq_true rfl) ⟨by decide, by decide⟩ ⟨Nat.le_refl _, Nat.le_refl _⟩ (fun S M4 v5 h hR hF => ?_)
      refine vi_if_ne (t' := 19) C dX12_readKey_12 rfl (by decide) (fun c6 => ?_) (fun c6 => ?_)
      · replace h := iN c6 h
        refine vi_iconst (v := 0) C dX12_readKey_19 rfl (by decide) ?_
        exact vi_cut [(0, .ref m), (1, .int (a1)), (2, .int (a2))] ⟨rfl, rfl, rfl, trivial⟩ (h20_3 _ _ h _ hR hF)
      · replace h := iT c6 h
        refine vi_iconst (v := 1) C dX12_readKey_15 rfl (by decide) ?_
        refine vi_goto (t' := 20) C dX12_readKey_16 (by decide) ?_
        exact vi_cut [(0, .ref m), (1, .int (a1)), (2, .int (a2))] ⟨rfl, rfl, rfl, trivial⟩ (h20_3 _ _ h _ hR hF)

def F_X12_writeKey (M : vM) (a1 : Int32) (a2 : Int32) (a3 : Int32) : Option (vM × Int32) := lt1 (mW M 0 ((0 : Int32))) fun M1 => b2 (F_X12_isSession M1 (a1)) fun M2 v3 => if v3 = 0 then (zb ((0 : Int32)) (some (M2, (0 : Int32)))) else (b2 (F_X12_isKey M2 (a2)) fun M4 v5 => if v5 = 0 then (zb ((0 : Int32)) (some (M4, (0 : Int32)))) else ((mG M4 46 (a1)).bind fun v6 => if v6 = (1 : Int32) then ((mG M4 52 (a1)).bind fun v7 => if v7 = 0 then ((mG M4 51 (a1)).bind fun v8 => (mS M4 51 (a1) ((v8 ||| ((1 : Int32) <<< (a2 &&& 31))))).bind fun M9 => (mS M9 54 ((((16 : Int32) * a1) + a2)) (a3)).bind fun M10 => zb ((1 : Int32)) (some (M10, (1 : Int32)))) else (zb ((0 : Int32)) (some (M4, (0 : Int32))))) else (zb ((0 : Int32)) (some (M4, (0 : Int32))))))

set_option maxRecDepth 100000 in
set_option maxHeartbeats 4000000 in
theorem p_X12_writeKey {M : vM} {R : (vM × Int32)} {a1 : Int32} {a2 : Int32} {a3 : Int32} (h : F_X12_writeKey M a1 a2 a3 = some R) {E : vE} {S0 : vS} {sz m b : Nat} (hR : RM S0 sz m b M) : vi_Met E yX12_writeKey cX12_writeKey 4 (some .boolean) 1 0 0 [.ref m, .int (a1), .int (a2), .int (a3)] S0 sz (Q1 S0 sz m b R) := by
  refine vi_met (by decide) (Nat.le_of_ble_eq_true rfl) ?_
  intro X C
  have hF := rF.refl S0 m b
  unfold F_X12_writeKey at h
  refine vi_aload_n C dX12_writeKey_0 rfl rfl ?_
  refine vi_iconst (v := 0) C dX12_writeKey_1 rfl (by decide) ?_
  refine r_puti C dX12_writeKey_2 rfl (fpX12_204 _) rfl hR hF h (fun S M1 h hR hF => ?_)
  refine vi_iload_n C dX12_writeKey_5 rfl rfl ?_
  refine r_cs1 C [.int (a1)] [] dX12_writeKey_6 rfl ivX12_370 isX12_isSession hR hF h (fun _ e => p_X12_isSession e hR) rfl (Nat.le_of_ble_eq_true rfl) ⟨by decide, by decide⟩ ⟨Nat.le_refl _, Nat.le_refl _⟩ (fun S M2 v3 h hR hF => ?_)
  refine vi_if_eq (t' := 38) C dX12_writeKey_9 rfl (by decide) (fun c14 => ?_) (fun c14 => ?_)
  · replace h := iT c14 h
    refine vi_iconst (v := 0) C dX12_writeKey_38 rfl (by decide) ?_
    exact r_retz C dX12_writeKey_39 rfl hR hF h
  · replace h := iN c14 h
    refine vi_iload_n C dX12_writeKey_12 rfl rfl ?_
    refine r_cs1 C [.int (a2)] [] dX12_writeKey_13 rfl ivX12_376 isX12_isKey hR hF h (fun _ e => p_X12_isKey e hR) rfl (Nat.le_of_ble_eq_true rfl) ⟨by decide, by decide⟩ ⟨Nat.le_refl _, Nat.le_refl _⟩ (fun S M4 v5 h hR hF => ?_)
    refine vi_if_eq (t' := 38) C dX12_writeKey_16 rfl (by decide) (fun c13 => ?_) (fun c13 => ?_)
    · replace h := iT c13 h
      refine vi_iconst (v := 0) C dX12_writeKey_38 rfl (by decide) ?_
      exact r_retz C dX12_writeKey_39 rfl hR hF h
    · replace h := iN c13 h
      refine vi_aload_n C dX12_writeKey_19 rfl rfl ?_
      refine r_geta C dX12_writeKey_20 rfl fX12_157 rfl hR rfl ?_
      refine vi_iload_n C dX12_writeKey_23 rfl rfl ?_
      refine r_iaload C dX12_writeKey_24 rfl rfl hR h (fun v6 h => ?_)
      refine vi_iconst (v := 1) C dX12_writeKey_25 rfl (by decide) ?_
      refine vi_icmp_ne (t' := 38) C dX12_writeKey_26 rfl (by decide) (fun c12 => ?_) (fun c12 => ?_)
      · replace h := iN c12 h
        refine vi_iconst (v := 0) C dX12_writeKey_38 rfl (by decide) ?_
        exact r_retz C dX12_writeKey_39 rfl hR hF h
      · replace h := iT c12 h
        refine vi_aload_n C dX12_writeKey_29 rfl rfl ?_
        refine r_geta C dX12_writeKey_30 rfl fX12_175 rfl hR rfl ?_
        refine vi_iload_n C dX12_writeKey_33 rfl rfl ?_
        refine r_zaload C dX12_writeKey_34 rfl rfl hR h (fun v7 h => ?_)
        refine vi_if_eq (t' := 40) C dX12_writeKey_35 rfl (by decide) (fun c11 => ?_) (fun c11 => ?_)
        · replace h := iT c11 h
          refine vi_aload_n C dX12_writeKey_40 rfl rfl ?_
          refine r_geta C dX12_writeKey_41 rfl fX12_172 rfl hR rfl ?_
          refine vi_iload_n C dX12_writeKey_44 rfl rfl ?_
          refine vi_dup2 C dX12_writeKey_45 rfl rfl rfl ?_
          refine r_iaload C dX12_writeKey_46 rfl rfl hR h (fun v8 h => ?_)
          refine vi_iconst (v := 1) C dX12_writeKey_47 rfl (by decide) ?_
          refine vi_iload_n C dX12_writeKey_48 rfl rfl ?_
          refine vi_ishl C dX12_writeKey_49 rfl ?_
          refine vi_ior C dX12_writeKey_50 rfl ?_
          refine r_iastore C dX12_writeKey_51 rfl rfl hR hF h (fun S M9 h hR hF => ?_)
          refine vi_aload_n C dX12_writeKey_52 rfl rfl ?_
          refine r_geta C dX12_writeKey_53 rfl fX12_181 rfl hR rfl ?_
          refine vi_bipush (v := 16) C dX12_writeKey_56 rfl (by decide) ?_
          refine vi_iload_n C dX12_writeKey_58 rfl rfl ?_
          refine vi_imul C dX12_writeKey_59 rfl ?_
          refine vi_iload_n C dX12_writeKey_60 rfl rfl ?_
          refine vi_iadd C dX12_writeKey_61 rfl ?_
          refine vi_iload_n C dX12_writeKey_62 rfl rfl ?_
          refine r_iastore C dX12_writeKey_63 rfl rfl hR hF h (fun S M10 h hR hF => ?_)
          refine vi_iconst (v := 1) C dX12_writeKey_64 rfl (by decide) ?_
          exact r_retz C dX12_writeKey_65 rfl hR hF h
        · replace h := iN c11 h
          refine vi_iconst (v := 0) C dX12_writeKey_38 rfl (by decide) ?_
          exact r_retz C dX12_writeKey_39 rfl hR hF h

def L_X12_commitIt_124 {ρ : Type}  (l1 : Int32) (l2 : Int32) (kx158 : vM → Option ρ) : Nat → vM → Int32 → Option ρ
  | 0, _, _ => none
  | f + 1, M, l3 => if (16 : Int32) ≤ l3 then (kx158 M ) else ((mG M 54 ((((16 : Int32) * l1) + l3))).bind fun v18 => (mS M 5 ((((16 : Int32) * l2) + l3)) (v18)).bind fun M19 => L_X12_commitIt_124 l1 l2 kx158 f M19 ((l3 + (1))))

def F_X12_commitIt (M : vM) (a1 : Int32) : Option (vM × Int32) := lt1 (mW M 0 ((0 : Int32))) fun M1 => b2 (F_X12_isSession M1 (a1)) fun M2 v3 => if v3 = 0 then (some (M2, (-1 : Int32))) else ((mG M2 46 (a1)).bind fun v4 => if v4 = (1 : Int32) then ((mG M2 51 (a1)).bind fun v5 => if v5 = 0 then ((mS M2 46 (a1) ((3 : Int32))).bind fun M26 => some (M26, (3 : Int32))) else ((mG M2 47 (a1)).bind fun v6 => (mS M2 47 (a1) ((v6 + (1 : Int32)))).bind fun M7 => lt1 (mW M7 4 (((M7.1 4) + (1 : Int32)))) fun M8 => (mS M8 0 ((M7.1 4)) (a1)).bind fun M9 => (mG M9 47 (a1)).bind fun v10 => (mS M9 1 ((M7.1 4)) (v10)).bind fun M11 => (mG M11 49 (a1)).bind fun v12 => (mS M11 2 ((M7.1 4)) (v12)).bind fun M13 => (mG M13 50 (a1)).bind fun v14 => (mS M13 3 ((M7.1 4)) (v14)).bind fun M15 => (mG M15 51 (a1)).bind fun v16 => (mS M15 4 ((M7.1 4)) (v16)).bind fun M17 => L_X12_commitIt_124 (a1) ((M7.1 4)) (fun (M21 : vM)  => (mS M21 53 (a1) ((M7.1 4))).bind fun M22 => (mS M22 46 (a1) ((2 : Int32))).bind fun M23 => (mG M23 48 (a1)).bind fun v24 => (F_X12_waitAt M23 (v24) ((M7.1 4))).bind fun M25 => some (M25, (2 : Int32))) fu M17 ((0 : Int32)))) else (some (M2, (-1 : Int32))))

set_option maxRecDepth 100000 in
set_option maxHeartbeats 4000000 in
theorem w_X12_commitIt_124 {E : vE} {X : vX} {S0 : vS} {sz m b : Nat} {ρ : Type} {R : ρ} {Z : State → Prop} {l1 : Int32} {l2 : Int32} {kx158 : vM → Option ρ} (C : vi_C E X yX12_commitIt cX12_commitIt 4 (some .int) 1 0 0 (45 * 1)) (hx158 : ∀ (M : vM) , kx158 M  = some R → ∀ S, RM S sz m b M → rF S0 S m b → vi_W E X 4 Z 158 [(0, .ref m), (1, .int (l1)), (2, .int (l2))] [] S sz 0 0) : ∀ (f : Nat) (M : vM) (l3 : Int32), L_X12_commitIt_124 l1 l2 kx158 f M l3 = some R → ∀ S, RM S sz m b M → rF S0 S m b → vi_W E X 4 Z 124 [(0, .ref m), (1, .int (l1)), (2, .int (l2)), (3, .int (l3))] [] S sz 0 0 := by
  intro f
  induction f with
  | zero => intro M l3 h; cases h
  | succ f ih =>
    intro M l3 h S hR hF
    rw [L_X12_commitIt_124] at h
    refine vi_iload_n C dX12_commitIt_124 rfl rfl ?_
    refine vi_bipush (v := 16) C dX12_commitIt_125 rfl (by decide) ?_
    refine vi_icmp_ge (t' := 158) C dX12_commitIt_127 rfl (by decide) (fun c20 => ?_) (fun c20 => ?_)
    · replace h := iT c20 h
      exact vi_cut [(0, .ref m), (1, .int (l1)), (2, .int (l2))] ⟨rfl, rfl, rfl, trivial⟩ (hx158 _  h _ hR hF)
    · replace h := iN c20 h
      refine vi_aload_n C dX12_commitIt_130 rfl rfl ?_
      refine r_geta C dX12_commitIt_131 rfl fX12_30 rfl hR rfl ?_
      refine vi_bipush (v := 16) C dX12_commitIt_134 rfl (by decide) ?_
      refine vi_iload_n C dX12_commitIt_136 rfl rfl ?_
      refine vi_imul C dX12_commitIt_137 rfl ?_
      refine vi_iload_n C dX12_commitIt_138 rfl rfl ?_
      refine vi_iadd C dX12_commitIt_139 rfl ?_
      refine vi_aload_n C dX12_commitIt_140 rfl rfl ?_
      refine r_geta C dX12_commitIt_141 rfl fX12_181 rfl hR rfl ?_
      refine vi_bipush (v := 16) C dX12_commitIt_144 rfl (by decide) ?_
      refine vi_iload_n C dX12_commitIt_146 rfl rfl ?_
      refine vi_imul C dX12_commitIt_147 rfl ?_
      refine vi_iload_n C dX12_commitIt_148 rfl rfl ?_
      refine vi_iadd C dX12_commitIt_149 rfl ?_
      refine r_iaload C dX12_commitIt_150 rfl rfl hR h (fun v18 h => ?_)
      refine r_iastore C dX12_commitIt_151 rfl rfl hR hF h (fun S M19 h hR hF => ?_)
      refine vi_iincv (v := 1) C dX12_commitIt_152 rfl rfl (by decide) (by decide) ?_
      refine vi_goto (t' := 124) C dX12_commitIt_155 (by decide) ?_
      exact vi_cut [(0, .ref m), (1, .int (l1)), (2, .int (l2)), (3, .int ((l3 + (1))))] ⟨rfl, rfl, rfl, rfl, trivial⟩ (ih _ _ h _ hR hF)

set_option maxRecDepth 100000 in
set_option maxHeartbeats 4000000 in
theorem p_X12_commitIt {M : vM} {R : (vM × Int32)} {a1 : Int32} (h : F_X12_commitIt M a1 = some R) {E : vE} {S0 : vS} {sz m b : Nat} (hR : RM S0 sz m b M) : vi_Met E yX12_commitIt cX12_commitIt 4 (some .int) 1 0 0 [.ref m, .int (a1)] S0 sz (Q1 S0 sz m b R) := by
  refine vi_met (by decide) (Nat.le_of_ble_eq_true rfl) ?_
  intro X C
  have hF := rF.refl S0 m b
  unfold F_X12_commitIt at h
  refine vi_aload_n C dX12_commitIt_0 rfl rfl ?_
  refine vi_iconst (v := 0) C dX12_commitIt_1 rfl (by decide) ?_
  refine r_puti C dX12_commitIt_2 rfl (fpX12_204 _) rfl hR hF h (fun S M1 h hR hF => ?_)
  refine vi_iload_n C dX12_commitIt_5 rfl rfl ?_
  refine r_cs1 C [.int (a1)] [] dX12_commitIt_6 rfl ivX12_370 isX12_isSession hR hF h (fun _ e => p_X12_isSession e hR) rfl (Nat.le_of_ble_eq_true rfl) ⟨by decide, by decide⟩ ⟨Nat.le_refl _, Nat.le_refl _⟩ (fun S M2 v3 h hR hF => ?_)
  refine vi_if_eq (t' := 22) C dX12_commitIt_9 rfl (by decide) (fun c29 => ?_) (fun c29 => ?_)
  · replace h := iT c29 h
    refine vi_iconst (v := -1) C dX12_commitIt_22 rfl (by decide) ?_
    exact r_ret1 C dX12_commitIt_23 rfl hR hF h
  · replace h := iN c29 h
    refine vi_aload_n C dX12_commitIt_12 rfl rfl ?_
    refine r_geta C dX12_commitIt_13 rfl fX12_157 rfl hR rfl ?_
    refine vi_iload_n C dX12_commitIt_16 rfl rfl ?_
    refine r_iaload C dX12_commitIt_17 rfl rfl hR h (fun v4 h => ?_)
    refine vi_iconst (v := 1) C dX12_commitIt_18 rfl (by decide) ?_
    refine vi_icmp_eq (t' := 24) C dX12_commitIt_19 rfl (by decide) (fun c28 => ?_) (fun c28 => ?_)
    · replace h := iT c28 h
      refine vi_aload_n C dX12_commitIt_24 rfl rfl ?_
      refine r_geta C dX12_commitIt_25 rfl fX12_172 rfl hR rfl ?_
      refine vi_iload_n C dX12_commitIt_28 rfl rfl ?_
      refine r_iaload C dX12_commitIt_29 rfl rfl hR h (fun v5 h => ?_)
      refine vi_if_ne (t' := 42) C dX12_commitIt_30 rfl (by decide) (fun c27 => ?_) (fun c27 => ?_)
      · replace h := iN c27 h
        refine vi_aload_n C dX12_commitIt_42 rfl rfl ?_
        refine r_geta C dX12_commitIt_43 rfl fX12_160 rfl hR rfl ?_
        refine vi_iload_n C dX12_commitIt_46 rfl rfl ?_
        refine vi_dup2 C dX12_commitIt_47 rfl rfl rfl ?_
        refine r_iaload C dX12_commitIt_48 rfl rfl hR h (fun v6 h => ?_)
        refine vi_iconst (v := 1) C dX12_commitIt_49 rfl (by decide) ?_
        refine vi_iadd C dX12_commitIt_50 rfl ?_
        refine r_iastore C dX12_commitIt_51 rfl rfl hR hF h (fun S M7 h hR hF => ?_)
        refine vi_aload_n C dX12_commitIt_52 rfl rfl ?_
        refine r_geti C dX12_commitIt_53 rfl fX12_7 rfl hR ?_
        refine vi_istore_n C dX12_commitIt_56 rfl (by decide) ?_
        refine vi_aload_n C dX12_commitIt_57 rfl rfl ?_
        refine vi_dup C dX12_commitIt_58 rfl rfl ?_
        refine r_geti C dX12_commitIt_59 rfl fX12_7 rfl hR ?_
        refine vi_iconst (v := 1) C dX12_commitIt_62 rfl (by decide) ?_
        refine vi_iadd C dX12_commitIt_63 rfl ?_
        refine r_puti C dX12_commitIt_64 rfl (fpX12_7 _) rfl hR hF h (fun S M8 h hR hF => ?_)
        refine vi_aload_n C dX12_commitIt_67 rfl rfl ?_
        refine r_geta C dX12_commitIt_68 rfl fX12_13 rfl hR rfl ?_
        refine vi_iload_n C dX12_commitIt_71 rfl rfl ?_
        refine vi_iload_n C dX12_commitIt_72 rfl rfl ?_
        refine r_iastore C dX12_commitIt_73 rfl rfl hR hF h (fun S M9 h hR hF => ?_)
        refine vi_aload_n C dX12_commitIt_74 rfl rfl ?_
        refine r_geta C dX12_commitIt_75 rfl fX12_17 rfl hR rfl ?_
        refine vi_iload_n C dX12_commitIt_78 rfl rfl ?_
        refine vi_aload_n C dX12_commitIt_79 rfl rfl ?_
        refine r_geta C dX12_commitIt_80 rfl fX12_160 rfl hR rfl ?_
        refine vi_iload_n C dX12_commitIt_83 rfl rfl ?_
        refine r_iaload C dX12_commitIt_84 rfl rfl hR h (fun v10 h => ?_)
        refine r_iastore C dX12_commitIt_85 rfl rfl hR hF h (fun S M11 h hR hF => ?_)
        refine vi_aload_n C dX12_commitIt_86 rfl rfl ?_
        refine r_geta C dX12_commitIt_87 rfl fX12_20 rfl hR rfl ?_
        refine vi_iload_n C dX12_commitIt_90 rfl rfl ?_
        refine vi_aload_n C dX12_commitIt_91 rfl rfl ?_
        refine r_geta C dX12_commitIt_92 rfl fX12_166 rfl hR rfl ?_
        refine vi_iload_n C dX12_commitIt_95 rfl rfl ?_
        refine r_iaload C dX12_commitIt_96 rfl rfl hR h (fun v12 h => ?_)
        refine r_iastore C dX12_commitIt_97 rfl rfl hR hF h (fun S M13 h hR hF => ?_)
        refine vi_aload_n C dX12_commitIt_98 rfl rfl ?_
        refine r_geta C dX12_commitIt_99 rfl fX12_23 rfl hR rfl ?_
        refine vi_iload_n C dX12_commitIt_102 rfl rfl ?_
        refine vi_aload_n C dX12_commitIt_103 rfl rfl ?_
        refine r_geta C dX12_commitIt_104 rfl fX12_169 rfl hR rfl ?_
        refine vi_iload_n C dX12_commitIt_107 rfl rfl ?_
        refine r_iaload C dX12_commitIt_108 rfl rfl hR h (fun v14 h => ?_)
        refine r_iastore C dX12_commitIt_109 rfl rfl hR hF h (fun S M15 h hR hF => ?_)
        refine vi_aload_n C dX12_commitIt_110 rfl rfl ?_
        refine r_geta C dX12_commitIt_111 rfl fX12_26 rfl hR rfl ?_
        refine vi_iload_n C dX12_commitIt_114 rfl rfl ?_
        refine vi_aload_n C dX12_commitIt_115 rfl rfl ?_
        refine r_geta C dX12_commitIt_116 rfl fX12_172 rfl hR rfl ?_
        refine vi_iload_n C dX12_commitIt_119 rfl rfl ?_
        refine r_iaload C dX12_commitIt_120 rfl rfl hR h (fun v16 h => ?_)
        refine r_iastore C dX12_commitIt_121 rfl rfl hR hF h (fun S M17 h hR hF => ?_)
        refine vi_iconst (v := 0) C dX12_commitIt_122 rfl (by decide) ?_
        refine vi_istore_n C dX12_commitIt_123 rfl (by decide) ?_
        refine vi_cut [(0, .ref m), (1, .int (a1)), (2, .int ((M7.1 4))), (3, .int ((0 : Int32)))] ⟨rfl, rfl, rfl, rfl, trivial⟩ (w_X12_commitIt_124 C ?_ _ _ _ h _ hR hF)
        · intro M21 h S hR hF
          refine vi_aload_n C dX12_commitIt_158 rfl rfl ?_
          refine r_geta C dX12_commitIt_159 rfl fX12_178 rfl hR rfl ?_
          refine vi_iload_n C dX12_commitIt_162 rfl rfl ?_
          refine vi_iload_n C dX12_commitIt_163 rfl rfl ?_
          refine r_iastore C dX12_commitIt_164 rfl rfl hR hF h (fun S M22 h hR hF => ?_)
          refine vi_aload_n C dX12_commitIt_165 rfl rfl ?_
          refine r_geta C dX12_commitIt_166 rfl fX12_157 rfl hR rfl ?_
          refine vi_iload_n C dX12_commitIt_169 rfl rfl ?_
          refine vi_iconst (v := 2) C dX12_commitIt_170 rfl (by decide) ?_
          refine r_iastore C dX12_commitIt_171 rfl rfl hR hF h (fun S M23 h hR hF => ?_)
          refine vi_aload_n C dX12_commitIt_172 rfl rfl ?_
          refine vi_aload_n C dX12_commitIt_173 rfl rfl ?_
          refine r_geta C dX12_commitIt_174 rfl fX12_163 rfl hR rfl ?_
          refine vi_iload_n C dX12_commitIt_177 rfl rfl ?_
          refine r_iaload C dX12_commitIt_178 rfl rfl hR h (fun v24 h => ?_)
          refine vi_iload_n C dX12_commitIt_179 rfl rfl ?_
          refine r_cv0 C [.int (v24), .int ((M7.1 4))] [] dX12_commitIt_180 rfl ivX12_341 imX12_waitAt rfl hR hF h (fun _ e => p_X12_waitAt e hR) rfl (Nat.le_of_ble_eq_true rfl) ⟨by decide, by decide⟩ ⟨Nat.le_refl _, Nat.le_refl _⟩ (fun S M25 h hR hF => ?_)
          refine vi_iconst (v := 2) C dX12_commitIt_183 rfl (by decide) ?_
          exact r_ret1 C dX12_commitIt_184 rfl hR hF h
      · replace h := iT c27 h
        refine vi_aload_n C dX12_commitIt_33 rfl rfl ?_
        refine r_geta C dX12_commitIt_34 rfl fX12_157 rfl hR rfl ?_
        refine vi_iload_n C dX12_commitIt_37 rfl rfl ?_
        refine vi_iconst (v := 3) C dX12_commitIt_38 rfl (by decide) ?_
        refine r_iastore C dX12_commitIt_39 rfl rfl hR hF h (fun S M26 h hR hF => ?_)
        refine vi_iconst (v := 3) C dX12_commitIt_40 rfl (by decide) ?_
        exact r_ret1 C dX12_commitIt_41 rfl hR hF h
    · replace h := iN c28 h
      refine vi_iconst (v := -1) C dX12_commitIt_22 rfl (by decide) ?_
      exact r_ret1 C dX12_commitIt_23 rfl hR hF h

def F_X12_giveUp (M : vM) (a1 : Int32) : Option (vM × Int32) := lt1 (mW M 0 ((0 : Int32))) fun M1 => b2 (F_X12_isSession M1 (a1)) fun M2 v3 => if v3 = 0 then (zb ((0 : Int32)) (some (M2, (0 : Int32)))) else ((mG M2 46 (a1)).bind fun v4 => if v4 = (1 : Int32) then ((mS M2 46 (a1) ((4 : Int32))).bind fun M5 => zb ((1 : Int32)) (some (M5, (1 : Int32)))) else (zb ((0 : Int32)) (some (M2, (0 : Int32)))))

set_option maxRecDepth 100000 in
set_option maxHeartbeats 4000000 in
theorem p_X12_giveUp {M : vM} {R : (vM × Int32)} {a1 : Int32} (h : F_X12_giveUp M a1 = some R) {E : vE} {S0 : vS} {sz m b : Nat} (hR : RM S0 sz m b M) : vi_Met E yX12_giveUp cX12_giveUp 2 (some .boolean) 1 0 0 [.ref m, .int (a1)] S0 sz (Q1 S0 sz m b R) := by
  refine vi_met (by decide) (Nat.le_of_ble_eq_true rfl) ?_
  intro X C
  have hF := rF.refl S0 m b
  unfold F_X12_giveUp at h
  refine vi_aload_n C dX12_giveUp_0 rfl rfl ?_
  refine vi_iconst (v := 0) C dX12_giveUp_1 rfl (by decide) ?_
  refine r_puti C dX12_giveUp_2 rfl (fpX12_204 _) rfl hR hF h (fun S M1 h hR hF => ?_)
  refine vi_iload_n C dX12_giveUp_5 rfl rfl ?_
  refine r_cs1 C [.int (a1)] [] dX12_giveUp_6 rfl ivX12_370 isX12_isSession hR hF h (fun _ e => p_X12_isSession e hR) rfl (Nat.le_of_ble_eq_true rfl) ⟨by decide, by decide⟩ ⟨Nat.le_refl _, Nat.le_refl _⟩ (fun S M2 v3 h hR hF => ?_)
  refine vi_if_eq (t' := 22) C dX12_giveUp_9 rfl (by decide) (fun c7 => ?_) (fun c7 => ?_)
  · replace h := iT c7 h
    refine vi_iconst (v := 0) C dX12_giveUp_22 rfl (by decide) ?_
    exact r_retz C dX12_giveUp_23 rfl hR hF h
  · replace h := iN c7 h
    refine vi_aload_n C dX12_giveUp_12 rfl rfl ?_
    refine r_geta C dX12_giveUp_13 rfl fX12_157 rfl hR rfl ?_
    refine vi_iload_n C dX12_giveUp_16 rfl rfl ?_
    refine r_iaload C dX12_giveUp_17 rfl rfl hR h (fun v4 h => ?_)
    refine vi_iconst (v := 1) C dX12_giveUp_18 rfl (by decide) ?_
    refine vi_icmp_eq (t' := 24) C dX12_giveUp_19 rfl (by decide) (fun c6 => ?_) (fun c6 => ?_)
    · replace h := iT c6 h
      refine vi_aload_n C dX12_giveUp_24 rfl rfl ?_
      refine r_geta C dX12_giveUp_25 rfl fX12_157 rfl hR rfl ?_
      refine vi_iload_n C dX12_giveUp_28 rfl rfl ?_
      refine vi_iconst (v := 4) C dX12_giveUp_29 rfl (by decide) ?_
      refine r_iastore C dX12_giveUp_30 rfl rfl hR hF h (fun S M5 h hR hF => ?_)
      refine vi_iconst (v := 1) C dX12_giveUp_31 rfl (by decide) ?_
      exact r_retz C dX12_giveUp_32 rfl hR hF h
    · replace h := iN c6 h
      refine vi_iconst (v := 0) C dX12_giveUp_22 rfl (by decide) ?_
      exact r_retz C dX12_giveUp_23 rfl hR hF h

def F_X12_retryAt (M : vM) (a1 : Int32) (a2 : Int32) : Option (vM × Int32) := lt1 (mW M 0 ((0 : Int32))) fun M1 => b2 (F_X12_isSession M1 (a1)) fun M2 v3 => if v3 = 0 then (some (M2, (-1 : Int32))) else (b2 (F_X12_isUp M2 (a2)) fun M4 v5 => if v5 = 0 then (some (M4, (-1 : Int32))) else ((mG M4 46 (a1)).bind fun v6 => if v6 = (2 : Int32) then ((mS M4 48 (a1) (a2)).bind fun M7 => (mG M7 17 ((((16 : Int32) * a2) + a1))).bind fun v8 => (mG M7 47 (a1)).bind fun v9 => if v8 = v9 then ((mG M7 18 ((((16 : Int32) * a2) + a1))).bind fun v13 => (mS M7 46 (a1) (((2 : Int32) + v13))).bind fun M14 => (mG M14 46 (a1)).bind fun v15 => some (M14, v15)) else ((mG M7 53 (a1)).bind fun v10 => (F_X12_waitAt M7 (a2) (v10)).bind fun M11 => (mG M11 46 (a1)).bind fun v12 => some (M11, v12))) else (some (M4, (-1 : Int32)))))

set_option maxRecDepth 100000 in
set_option maxHeartbeats 4000000 in
theorem p_X12_retryAt {M : vM} {R : (vM × Int32)} {a1 : Int32} {a2 : Int32} (h : F_X12_retryAt M a1 a2 = some R) {E : vE} {S0 : vS} {sz m b : Nat} (hR : RM S0 sz m b M) : vi_Met E yX12_retryAt cX12_retryAt 3 (some .int) 2 0 0 [.ref m, .int (a1), .int (a2)] S0 sz (Q1 S0 sz m b R) := by
  refine vi_met (by decide) (Nat.le_of_ble_eq_true rfl) ?_
  intro X C
  have hF := rF.refl S0 m b
  unfold F_X12_retryAt at h
  refine vi_aload_n C dX12_retryAt_0 rfl rfl ?_
  refine vi_iconst (v := 0) C dX12_retryAt_1 rfl (by decide) ?_
  refine r_puti C dX12_retryAt_2 rfl (fpX12_204 _) rfl hR hF h (fun S M1 h hR hF => ?_)
  refine vi_iload_n C dX12_retryAt_5 rfl rfl ?_
  refine r_cs1 C [.int (a1)] [] dX12_retryAt_6 rfl ivX12_370 isX12_isSession hR hF h (fun _ e => p_X12_isSession e hR) rfl (Nat.le_of_ble_eq_true rfl) ⟨by decide, by decide⟩ ⟨Nat.le_refl _, Nat.le_refl _⟩ (fun S M2 v3 h hR hF => ?_)
  refine vi_if_eq (t' := 30) C dX12_retryAt_9 rfl (by decide) (fun c19 => ?_) (fun c19 => ?_)
  · replace h := iT c19 h
    refine vi_iconst (v := -1) C dX12_retryAt_30 rfl (by decide) ?_
    exact r_ret1 C dX12_retryAt_31 rfl hR hF h
  · replace h := iN c19 h
    refine vi_aload_n C dX12_retryAt_12 rfl rfl ?_
    refine vi_iload_n C dX12_retryAt_13 rfl rfl ?_
    refine r_cv1 C [.int (a2)] [] dX12_retryAt_14 rfl ivX12_373 imX12_isUp rfl hR hF h (fun _ e => p_X12_isUp e hR) rfl (Nat.le_of_ble_eq_true rfl) ⟨by decide, by decide⟩ ⟨Nat.le_refl _, Nat.le_refl _⟩ (fun S M4 v5 h hR hF => ?_)
    refine vi_if_eq (t' := 30) C dX12_retryAt_17 rfl (by decide) (fun c18 => ?_) (fun c18 => ?_)
    · replace h := iT c18 h
      refine vi_iconst (v := -1) C dX12_retryAt_30 rfl (by decide) ?_
      exact r_ret1 C dX12_retryAt_31 rfl hR hF h
    · replace h := iN c18 h
      refine vi_aload_n C dX12_retryAt_20 rfl rfl ?_
      refine r_geta C dX12_retryAt_21 rfl fX12_157 rfl hR rfl ?_
      refine vi_iload_n C dX12_retryAt_24 rfl rfl ?_
      refine r_iaload C dX12_retryAt_25 rfl rfl hR h (fun v6 h => ?_)
      refine vi_iconst (v := 2) C dX12_retryAt_26 rfl (by decide) ?_
      refine vi_icmp_eq (t' := 32) C dX12_retryAt_27 rfl (by decide) (fun c17 => ?_) (fun c17 => ?_)
      · replace h := iT c17 h
        refine vi_aload_n C dX12_retryAt_32 rfl rfl ?_
        refine r_geta C dX12_retryAt_33 rfl fX12_163 rfl hR rfl ?_
        refine vi_iload_n C dX12_retryAt_36 rfl rfl ?_
        refine vi_iload_n C dX12_retryAt_37 rfl rfl ?_
        refine r_iastore C dX12_retryAt_38 rfl rfl hR hF h (fun S M7 h hR hF => ?_)
        refine vi_aload_n C dX12_retryAt_39 rfl rfl ?_
        refine r_geta C dX12_retryAt_40 rfl fX12_67 rfl hR rfl ?_
        refine vi_bipush (v := 16) C dX12_retryAt_43 rfl (by decide) ?_
        refine vi_iload_n C dX12_retryAt_45 rfl rfl ?_
        refine vi_imul C dX12_retryAt_46 rfl ?_
        refine vi_iload_n C dX12_retryAt_47 rfl rfl ?_
        refine vi_iadd C dX12_retryAt_48 rfl ?_
        refine r_iaload C dX12_retryAt_49 rfl rfl hR h (fun v8 h => ?_)
        refine vi_aload_n C dX12_retryAt_50 rfl rfl ?_
        refine r_geta C dX12_retryAt_51 rfl fX12_160 rfl hR rfl ?_
        refine vi_iload_n C dX12_retryAt_54 rfl rfl ?_
        refine r_iaload C dX12_retryAt_55 rfl rfl hR h (fun v9 h => ?_)
        refine vi_icmp_ne (t' := 81) C dX12_retryAt_56 rfl (by decide) (fun c16 => ?_) (fun c16 => ?_)
        · replace h := iN c16 h
          refine vi_aload_n C dX12_retryAt_81 rfl rfl ?_
          refine vi_iload_n C dX12_retryAt_82 rfl rfl ?_
          refine vi_aload_n C dX12_retryAt_83 rfl rfl ?_
          refine r_geta C dX12_retryAt_84 rfl fX12_178 rfl hR rfl ?_
          refine vi_iload_n C dX12_retryAt_87 rfl rfl ?_
          refine r_iaload C dX12_retryAt_88 rfl rfl hR h (fun v10 h => ?_)
          refine r_cv0 C [.int (a2), .int (v10)] [] dX12_retryAt_89 rfl ivX12_341 imX12_waitAt rfl hR hF h (fun _ e => p_X12_waitAt e hR) rfl (Nat.le_of_ble_eq_true rfl) ⟨by decide, by decide⟩ ⟨Nat.le_refl _, Nat.le_refl _⟩ (fun S M11 h hR hF => ?_)
          refine vi_aload_n C dX12_retryAt_92 rfl rfl ?_
          refine r_geta C dX12_retryAt_93 rfl fX12_157 rfl hR rfl ?_
          refine vi_iload_n C dX12_retryAt_96 rfl rfl ?_
          refine r_iaload C dX12_retryAt_97 rfl rfl hR h (fun v12 h => ?_)
          exact r_ret1 C dX12_retryAt_98 rfl hR hF h
        · replace h := iT c16 h
          refine vi_aload_n C dX12_retryAt_59 rfl rfl ?_
          refine r_geta C dX12_retryAt_60 rfl fX12_157 rfl hR rfl ?_
          refine vi_iload_n C dX12_retryAt_63 rfl rfl ?_
          refine vi_iconst (v := 2) C dX12_retryAt_64 rfl (by decide) ?_
          refine vi_aload_n C dX12_retryAt_65 rfl rfl ?_
          refine r_geta C dX12_retryAt_66 rfl fX12_70 rfl hR rfl ?_
          refine vi_bipush (v := 16) C dX12_retryAt_69 rfl (by decide) ?_
          refine vi_iload_n C dX12_retryAt_71 rfl rfl ?_
          refine vi_imul C dX12_retryAt_72 rfl ?_
          refine vi_iload_n C dX12_retryAt_73 rfl rfl ?_
          refine vi_iadd C dX12_retryAt_74 rfl ?_
          refine r_iaload C dX12_retryAt_75 rfl rfl hR h (fun v13 h => ?_)
          refine vi_iadd C dX12_retryAt_76 rfl ?_
          refine r_iastore C dX12_retryAt_77 rfl rfl hR hF h (fun S M14 h hR hF => ?_)
          refine vi_goto (t' := 92) C dX12_retryAt_78 (by decide) ?_
          refine vi_aload_n C dX12_retryAt_92 rfl rfl ?_
          refine r_geta C dX12_retryAt_93 rfl fX12_157 rfl hR rfl ?_
          refine vi_iload_n C dX12_retryAt_96 rfl rfl ?_
          refine r_iaload C dX12_retryAt_97 rfl rfl hR h (fun v15 h => ?_)
          exact r_ret1 C dX12_retryAt_98 rfl hR hF h
      · replace h := iN c17 h
        refine vi_iconst (v := -1) C dX12_retryAt_30 rfl (by decide) ?_
        exact r_ret1 C dX12_retryAt_31 rfl hR hF h

def F_X12_tickOf (M : vM) (a1 : Int32) : Option (vM × Int32) := lt1 (mW M 0 ((0 : Int32))) fun M1 => b2 (F_X12_isUp M1 (a1)) fun M2 v3 => if v3 = 0 then (some (M2, (-1 : Int32))) else ((mG M2 13 (a1)).bind fun v4 => (mS M2 13 (a1) ((v4 + (1 : Int32)))).bind fun M5 => (mG M5 13 (a1)).bind fun v6 => jn (fun (s0_43 : Int32) => (mG M5 19 (a1)).bind fun v9 => jn (fun (u : Unit) => (mG M5 19 (a1)).bind fun v20 => if v20 = (2 : Int32) then (b2 (F_X12_propose M5 (a1)) fun M44 v45 => if v45 = 0 then (if s0_43 = 0 then (some (M44, (M44.1 53))) else ((mS M44 13 (a1) ((0 : Int32))).bind fun M46 => (mG M46 20 (a1)).bind fun v47 => (mG M46 7 (a1)).bind fun v48 => (F_X12_sendAll M46 ((10 : Int32)) (a1) (v47) (v48) ((0 : Int32))).bind fun M49 => some (M49, (M49.1 53)))) else (some (M44, (M44.1 53)))) else ((mG M5 19 (a1)).bind fun v21 => if v21 = (1 : Int32) then (if s0_43 = 0 then (some (M5, (M5.1 53))) else ((F_X12_campaign M5 (a1)).bind fun M41 => some (M41, (M41.1 53)))) else ((mG M5 27 (a1)).bind fun v22 => if v22 ≤ 0 then (if s0_43 = 0 then (some (M5, (M5.1 53))) else ((mS M5 13 (a1) ((0 : Int32))).bind fun M23 => gd (¬ (M23.1 1) = 0) <| (mG M23 7 (a1)).bind fun v25 => (F_X12_send M23 ((6 : Int32)) (a1) (((a1 + (1 : Int32)) - (a1 + (1 : Int32)) / (M23.1 1) * (M23.1 1))) ((0 : Int32)) ((v25 + (1 : Int32))) ((0 : Int32)) ((0 : Int32))).bind fun M26 => some (M26, (M26.1 53)))) else ((mG M5 13 (a1)).bind fun v28 => if v28 < ((M5.1 11) + a1) then ((mG M5 25 (a1)).bind fun v29 => if v29 ≤ 0 then (some (M5, (M5.1 53))) else ((mG M5 25 (a1)).bind fun v30 => gd (¬ (M5.1 1) = 0) <| if (v30 - v30 / (M5.1 1) * (M5.1 1)) = a1 then (some (M5, (M5.1 53))) else ((mG M5 25 (a1)).bind fun v32 => gd (¬ (M5.1 1) = 0) <| (mG M5 26 (((8 : Int32) * a1))).bind fun v34 => (F_X12_send M5 ((9 : Int32)) (a1) ((v32 - v32 / (M5.1 1) * (M5.1 1))) ((0 : Int32)) ((0 : Int32)) (v34) ((0 : Int32))).bind fun M35 => some (M35, (M35.1 53))))) else ((F_X12_campaign M5 (a1)).bind fun M38 => some (M38, (M38.1 53))))))) (fun k103_10 => if v9 = (2 : Int32) then ((mG M5 22 (a1)).bind fun v11 => if v11 ≤ 0 then ((k103_10 (()))) else (if s0_43 = 0 then (some (M5, (M5.1 53))) else ((mS M5 13 (a1) ((0 : Int32))).bind fun M12 => (mG M12 20 (a1)).bind fun v13 => (mG M12 7 (a1)).bind fun v14 => (mG M12 22 (a1)).bind fun v15 => (F_X12_sendAll M12 ((3 : Int32)) (a1) (v13) ((v14 + (1 : Int32))) (v15)).bind fun M16 => some (M16, (M16.1 53))))) else ((k103_10 (()))))) (fun k43_7 => if v6 < (M5.1 11) then ((k43_7 ((0 : Int32)))) else ((k43_7 ((1 : Int32))))))

set_option maxRecDepth 100000 in
set_option maxHeartbeats 4000000 in
theorem p_X12_tickOf {M : vM} {R : (vM × Int32)} {a1 : Int32} (h : F_X12_tickOf M a1 = some R) {E : vE} {S0 : vS} {sz m b : Nat} (hR : RM S0 sz m b M) : vi_Met E yX12_tickOf cX12_tickOf 3 (some .int) 9 0 0 [.ref m, .int (a1)] S0 sz (Q1 S0 sz m b R) := by
  refine vi_met (by decide) (Nat.le_of_ble_eq_true rfl) ?_
  intro X C
  have hF := rF.refl S0 m b
  unfold F_X12_tickOf at h
  refine vi_aload_n C dX12_tickOf_0 rfl rfl ?_
  refine vi_iconst (v := 0) C dX12_tickOf_1 rfl (by decide) ?_
  refine r_puti C dX12_tickOf_2 rfl (fpX12_204 _) rfl hR hF h (fun S M1 h hR hF => ?_)
  refine vi_aload_n C dX12_tickOf_5 rfl rfl ?_
  refine vi_iload_n C dX12_tickOf_6 rfl rfl ?_
  refine r_cv1 C [.int (a1)] [] dX12_tickOf_7 rfl ivX12_373 imX12_isUp rfl hR hF h (fun _ e => p_X12_isUp e hR) rfl (Nat.le_of_ble_eq_true rfl) ⟨by decide, by decide⟩ ⟨Nat.le_refl _, Nat.le_refl _⟩ (fun S M2 v3 h hR hF => ?_)
  refine vi_if_ne (t' := 15) C dX12_tickOf_10 rfl (by decide) (fun c53 => ?_) (fun c53 => ?_)
  · replace h := iN c53 h
    refine vi_aload_n C dX12_tickOf_15 rfl rfl ?_
    refine r_geta C dX12_tickOf_16 rfl fX12_55 rfl hR rfl ?_
    refine vi_iload_n C dX12_tickOf_19 rfl rfl ?_
    refine vi_dup2 C dX12_tickOf_20 rfl rfl rfl ?_
    refine r_iaload C dX12_tickOf_21 rfl rfl hR h (fun v4 h => ?_)
    refine vi_iconst (v := 1) C dX12_tickOf_22 rfl (by decide) ?_
    refine vi_iadd C dX12_tickOf_23 rfl ?_
    refine r_iastore C dX12_tickOf_24 rfl rfl hR hF h (fun S M5 h hR hF => ?_)
    refine vi_aload_n C dX12_tickOf_25 rfl rfl ?_
    refine r_geta C dX12_tickOf_26 rfl fX12_55 rfl hR rfl ?_
    refine vi_iload_n C dX12_tickOf_29 rfl rfl ?_
    refine r_iaload C dX12_tickOf_30 rfl rfl hR h (fun v6 h => ?_)
    refine vi_aload_n C dX12_tickOf_31 rfl rfl ?_
    refine r_geti C dX12_tickOf_32 rfl fX12_187 rfl hR ?_
    refine r_jn h (fun k => ∀ (s0_43 : Int32), k s0_43 = some R → ∀ S, RM S sz m b M5 → rF S0 S m b → vi_W E X 3 (vi_Z E X (Q1 S0 sz m b R) 0 0) 43 [(0, .ref m), (1, .int (a1))] [.int (s0_43)] S sz 0 0) ?_ ?_
    · intro s0_43 h S hR hF
      refine vi_istore_n C dX12_tickOf_43 rfl (by decide) ?_
      refine vi_aload_n C dX12_tickOf_44 rfl rfl ?_
      refine r_geta C dX12_tickOf_45 rfl fX12_73 rfl hR rfl ?_
      refine vi_iload_n C dX12_tickOf_48 rfl rfl ?_
      refine r_iaload C dX12_tickOf_49 rfl rfl hR h (fun v9 h => ?_)
      refine vi_iconst (v := 2) C dX12_tickOf_50 rfl (by decide) ?_
      refine r_jn h (fun k => ∀ (u : Unit), k u = some R → ∀ S, RM S sz m b M5 → rF S0 S m b → vi_W E X 3 (vi_Z E X (Q1 S0 sz m b R) 0 0) 103 [(0, .ref m), (1, .int (a1)), (2, .int (s0_43))] [] S sz 0 0) ?_ ?_
      · intro u h S hR hF
        refine vi_aload_n C dX12_tickOf_103 rfl rfl ?_
        refine r_geta C dX12_tickOf_104 rfl fX12_73 rfl hR rfl ?_
        refine vi_iload_n C dX12_tickOf_107 rfl rfl ?_
        refine r_iaload C dX12_tickOf_108 rfl rfl hR h (fun v20 h => ?_)
        refine vi_iconst (v := 2) C dX12_tickOf_109 rfl (by decide) ?_
        refine vi_icmp_ne (t' := 155) C dX12_tickOf_110 rfl (by decide) (fun c52 => ?_) (fun c52 => ?_)
        · replace h := iN c52 h
          refine vi_aload_n C dX12_tickOf_155 rfl rfl ?_
          refine r_geta C dX12_tickOf_156 rfl fX12_73 rfl hR rfl ?_
          refine vi_iload_n C dX12_tickOf_159 rfl rfl ?_
          refine r_iaload C dX12_tickOf_160 rfl rfl hR h (fun v21 h => ?_)
          refine vi_iconst (v := 1) C dX12_tickOf_161 rfl (by decide) ?_
          refine vi_icmp_ne (t' := 177) C dX12_tickOf_162 rfl (by decide) (fun c43 => ?_) (fun c43 => ?_)
          · replace h := iN c43 h
            refine vi_aload_n C dX12_tickOf_177 rfl rfl ?_
            refine r_geta C dX12_tickOf_178 rfl fX12_97 rfl hR rfl ?_
            refine vi_iload_n C dX12_tickOf_181 rfl rfl ?_
            refine r_iaload C dX12_tickOf_182 rfl rfl hR h (fun v22 h => ?_)
            refine vi_if_le (t' := 266) C dX12_tickOf_183 rfl (by decide) (fun c40 => ?_) (fun c40 => ?_)
            · replace h := iT c40 h
              refine vi_iload_n C dX12_tickOf_266 rfl rfl ?_
              refine vi_if_eq (t' := 303) C dX12_tickOf_267 rfl (by decide) (fun c27 => ?_) (fun c27 => ?_)
              · replace h := iT c27 h
                refine vi_aload_n C dX12_tickOf_303 rfl rfl ?_
                refine r_geti C dX12_tickOf_304 rfl fX12_290 rfl hR ?_
                exact r_ret1 C dX12_tickOf_307 rfl hR hF h
              · replace h := iN c27 h
                refine vi_aload_n C dX12_tickOf_270 rfl rfl ?_
                refine r_geta C dX12_tickOf_271 rfl fX12_55 rfl hR rfl ?_
                refine vi_iload_n C dX12_tickOf_274 rfl rfl ?_
                refine vi_iconst (v := 0) C dX12_tickOf_275 rfl (by decide) ?_
                refine r_iastore C dX12_tickOf_276 rfl rfl hR hF h (fun S M23 h hR hF => ?_)
                refine vi_aload_n C dX12_tickOf_277 rfl rfl ?_
                refine vi_bipush (v := 6) C dX12_tickOf_278 rfl (by decide) ?_
                refine vi_iload_n C dX12_tickOf_280 rfl rfl ?_
                refine vi_iload_n C dX12_tickOf_281 rfl rfl ?_
                refine vi_iconst (v := 1) C dX12_tickOf_282 rfl (by decide) ?_
                refine vi_iadd C dX12_tickOf_283 rfl ?_
                refine vi_aload_n C dX12_tickOf_284 rfl rfl ?_
                refine r_geti C dX12_tickOf_285 rfl fX12_184 rfl hR ?_
                obtain ⟨c24, h⟩ := gdo h
                refine vi_irem C dX12_tickOf_288 rfl c24 ?_
                refine vi_iconst (v := 0) C dX12_tickOf_289 rfl (by decide) ?_
                refine vi_aload_n C dX12_tickOf_290 rfl rfl ?_
                refine r_geta C dX12_tickOf_291 rfl fX12_37 rfl hR rfl ?_
                refine vi_iload_n C dX12_tickOf_294 rfl rfl ?_
                refine r_iaload C dX12_tickOf_295 rfl rfl hR h (fun v25 h => ?_)
                refine vi_iconst (v := 1) C dX12_tickOf_296 rfl (by decide) ?_
                refine vi_iadd C dX12_tickOf_297 rfl ?_
                refine vi_iconst (v := 0) C dX12_tickOf_298 rfl (by decide) ?_
                refine vi_iconst (v := 0) C dX12_tickOf_299 rfl (by decide) ?_
                refine r_cv0 C [.int ((6 : Int32)), .int (a1), .int (((a1 + (1 : Int32)) - (a1 + (1 : Int32)) / (M23.1 1) * (M23.1 1))), .int ((0 : Int32)), .int ((v25 + (1 : Int32))), .int ((0 : Int32)), .int ((0 : Int32))] [] dX12_tickOf_300 rfl ivX12_299 imX12_send rfl hR hF h (fun _ e => p_X12_send e hR) rfl (Nat.le_of_ble_eq_true rfl) ⟨by decide, by decide⟩ ⟨Nat.le_refl _, Nat.le_refl _⟩ (fun S M26 h hR hF => ?_)
                refine vi_aload_n C dX12_tickOf_303 rfl rfl ?_
                refine r_geti C dX12_tickOf_304 rfl fX12_290 rfl hR ?_
                exact r_ret1 C dX12_tickOf_307 rfl hR hF h
            · replace h := iN c40 h
              refine vi_aload_n C dX12_tickOf_186 rfl rfl ?_
              refine r_geta C dX12_tickOf_187 rfl fX12_55 rfl hR rfl ?_
              refine vi_iload_n C dX12_tickOf_190 rfl rfl ?_
              refine r_iaload C dX12_tickOf_191 rfl rfl hR h (fun v28 h => ?_)
              refine vi_aload_n C dX12_tickOf_192 rfl rfl ?_
              refine r_geti C dX12_tickOf_193 rfl fX12_187 rfl hR ?_
              refine vi_iload_n C dX12_tickOf_196 rfl rfl ?_
              refine vi_iadd C dX12_tickOf_197 rfl ?_
              refine vi_icmp_lt (t' := 209) C dX12_tickOf_198 rfl (by decide) (fun c39 => ?_) (fun c39 => ?_)
              · replace h := iT c39 h
                refine vi_aload_n C dX12_tickOf_209 rfl rfl ?_
                refine r_geta C dX12_tickOf_210 rfl fX12_91 rfl hR rfl ?_
                refine vi_iload_n C dX12_tickOf_213 rfl rfl ?_
                refine r_iaload C dX12_tickOf_214 rfl rfl hR h (fun v29 h => ?_)
                refine vi_if_le (t' := 303) C dX12_tickOf_215 rfl (by decide) (fun c37 => ?_) (fun c37 => ?_)
                · replace h := iT c37 h
                  refine vi_aload_n C dX12_tickOf_303 rfl rfl ?_
                  refine r_geti C dX12_tickOf_304 rfl fX12_290 rfl hR ?_
                  exact r_ret1 C dX12_tickOf_307 rfl hR hF h
                · replace h := iN c37 h
                  refine vi_aload_n C dX12_tickOf_218 rfl rfl ?_
                  refine r_geta C dX12_tickOf_219 rfl fX12_91 rfl hR rfl ?_
                  refine vi_iload_n C dX12_tickOf_222 rfl rfl ?_
                  refine r_iaload C dX12_tickOf_223 rfl rfl hR h (fun v30 h => ?_)
                  refine vi_aload_n C dX12_tickOf_224 rfl rfl ?_
                  refine r_geti C dX12_tickOf_225 rfl fX12_184 rfl hR ?_
                  obtain ⟨c31, h⟩ := gdo h
                  refine vi_irem C dX12_tickOf_228 rfl c31 ?_
                  refine vi_iload_n C dX12_tickOf_229 rfl rfl ?_
                  refine vi_icmp_eq (t' := 303) C dX12_tickOf_230 rfl (by decide) (fun c36 => ?_) (fun c36 => ?_)
                  · replace h := iT c36 h
                    refine vi_aload_n C dX12_tickOf_303 rfl rfl ?_
                    refine r_geti C dX12_tickOf_304 rfl fX12_290 rfl hR ?_
                    exact r_ret1 C dX12_tickOf_307 rfl hR hF h
                  · replace h := iN c36 h
                    refine vi_aload_n C dX12_tickOf_233 rfl rfl ?_
                    refine vi_bipush (v := 9) C dX12_tickOf_234 rfl (by decide) ?_
                    refine vi_iload_n C dX12_tickOf_236 rfl rfl ?_
                    refine vi_aload_n C dX12_tickOf_237 rfl rfl ?_
                    refine r_geta C dX12_tickOf_238 rfl fX12_91 rfl hR rfl ?_
                    refine vi_iload_n C dX12_tickOf_241 rfl rfl ?_
                    refine r_iaload C dX12_tickOf_242 rfl rfl hR h (fun v32 h => ?_)
                    refine vi_aload_n C dX12_tickOf_243 rfl rfl ?_
                    refine r_geti C dX12_tickOf_244 rfl fX12_184 rfl hR ?_
                    obtain ⟨c33, h⟩ := gdo h
                    refine vi_irem C dX12_tickOf_247 rfl c33 ?_
                    refine vi_iconst (v := 0) C dX12_tickOf_248 rfl (by decide) ?_
                    refine vi_iconst (v := 0) C dX12_tickOf_249 rfl (by decide) ?_
                    refine vi_aload_n C dX12_tickOf_250 rfl rfl ?_
                    refine r_geta C dX12_tickOf_251 rfl fX12_94 rfl hR rfl ?_
                    refine vi_bipush (v := 8) C dX12_tickOf_254 rfl (by decide) ?_
                    refine vi_iload_n C dX12_tickOf_256 rfl rfl ?_
                    refine vi_imul C dX12_tickOf_257 rfl ?_
                    refine r_iaload C dX12_tickOf_258 rfl rfl hR h (fun v34 h => ?_)
                    refine vi_iconst (v := 0) C dX12_tickOf_259 rfl (by decide) ?_
                    refine r_cv0 C [.int ((9 : Int32)), .int (a1), .int ((v32 - v32 / (M5.1 1) * (M5.1 1))), .int ((0 : Int32)), .int ((0 : Int32)), .int (v34), .int ((0 : Int32))] [] dX12_tickOf_260 rfl ivX12_299 imX12_send rfl hR hF h (fun _ e => p_X12_send e hR) rfl (Nat.le_of_ble_eq_true rfl) ⟨by decide, by decide⟩ ⟨Nat.le_refl _, Nat.le_refl _⟩ (fun S M35 h hR hF => ?_)
                    refine vi_goto (t' := 303) C dX12_tickOf_263 (by decide) ?_
                    refine vi_aload_n C dX12_tickOf_303 rfl rfl ?_
                    refine r_geti C dX12_tickOf_304 rfl fX12_290 rfl hR ?_
                    exact r_ret1 C dX12_tickOf_307 rfl hR hF h
              · replace h := iN c39 h
                refine vi_aload_n C dX12_tickOf_201 rfl rfl ?_
                refine vi_iload_n C dX12_tickOf_202 rfl rfl ?_
                refine r_cv0 C [.int (a1)] [] dX12_tickOf_203 rfl ivX12_379 imX12_campaign rfl hR hF h (fun _ e => p_X12_campaign e hR) rfl (Nat.le_of_ble_eq_true rfl) ⟨by decide, by decide⟩ ⟨Nat.le_refl _, Nat.le_refl _⟩ (fun S M38 h hR hF => ?_)
                refine vi_goto (t' := 303) C dX12_tickOf_206 (by decide) ?_
                refine vi_aload_n C dX12_tickOf_303 rfl rfl ?_
                refine r_geti C dX12_tickOf_304 rfl fX12_290 rfl hR ?_
                exact r_ret1 C dX12_tickOf_307 rfl hR hF h
          · replace h := iT c43 h
            refine vi_iload_n C dX12_tickOf_165 rfl rfl ?_
            refine vi_if_eq (t' := 303) C dX12_tickOf_166 rfl (by decide) (fun c42 => ?_) (fun c42 => ?_)
            · replace h := iT c42 h
              refine vi_aload_n C dX12_tickOf_303 rfl rfl ?_
              refine r_geti C dX12_tickOf_304 rfl fX12_290 rfl hR ?_
              exact r_ret1 C dX12_tickOf_307 rfl hR hF h
            · replace h := iN c42 h
              refine vi_aload_n C dX12_tickOf_169 rfl rfl ?_
              refine vi_iload_n C dX12_tickOf_170 rfl rfl ?_
              refine r_cv0 C [.int (a1)] [] dX12_tickOf_171 rfl ivX12_379 imX12_campaign rfl hR hF h (fun _ e => p_X12_campaign e hR) rfl (Nat.le_of_ble_eq_true rfl) ⟨by decide, by decide⟩ ⟨Nat.le_refl _, Nat.le_refl _⟩ (fun S M41 h hR hF => ?_)
              refine vi_goto (t' := 303) C dX12_tickOf_174 (by decide) ?_
              refine vi_aload_n C dX12_tickOf_303 rfl rfl ?_
              refine r_geti C dX12_tickOf_304 rfl fX12_290 rfl hR ?_
              exact r_ret1 C dX12_tickOf_307 rfl hR hF h
        · replace h := iT c52 h
          refine vi_aload_n C dX12_tickOf_113 rfl rfl ?_
          refine vi_iload_n C dX12_tickOf_114 rfl rfl ?_
          refine r_cv1 C [.int (a1)] [] dX12_tickOf_115 rfl ivX12_335 imX12_propose rfl hR hF h (fun _ e => p_X12_propose e hR) rfl (Nat.le_of_ble_eq_true rfl) ⟨by decide, by decide⟩ ⟨Nat.le_refl _, Nat.le_refl _⟩ (fun S M44 v45 h hR hF => ?_)
          refine vi_if_ne (t' := 303) C dX12_tickOf_118 rfl (by decide) (fun c51 => ?_) (fun c51 => ?_)
          · replace h := iN c51 h
            refine vi_aload_n C dX12_tickOf_303 rfl rfl ?_
            refine r_geti C dX12_tickOf_304 rfl fX12_290 rfl hR ?_
            exact r_ret1 C dX12_tickOf_307 rfl hR hF h
          · replace h := iT c51 h
            refine vi_iload_n C dX12_tickOf_121 rfl rfl ?_
            refine vi_if_eq (t' := 303) C dX12_tickOf_122 rfl (by decide) (fun c50 => ?_) (fun c50 => ?_)
            · replace h := iT c50 h
              refine vi_aload_n C dX12_tickOf_303 rfl rfl ?_
              refine r_geti C dX12_tickOf_304 rfl fX12_290 rfl hR ?_
              exact r_ret1 C dX12_tickOf_307 rfl hR hF h
            · replace h := iN c50 h
              refine vi_aload_n C dX12_tickOf_125 rfl rfl ?_
              refine r_geta C dX12_tickOf_126 rfl fX12_55 rfl hR rfl ?_
              refine vi_iload_n C dX12_tickOf_129 rfl rfl ?_
              refine vi_iconst (v := 0) C dX12_tickOf_130 rfl (by decide) ?_
              refine r_iastore C dX12_tickOf_131 rfl rfl hR hF h (fun S M46 h hR hF => ?_)
              refine vi_aload_n C dX12_tickOf_132 rfl rfl ?_
              refine vi_bipush (v := 10) C dX12_tickOf_133 rfl (by decide) ?_
              refine vi_iload_n C dX12_tickOf_135 rfl rfl ?_
              refine vi_aload_n C dX12_tickOf_136 rfl rfl ?_
              refine r_geta C dX12_tickOf_137 rfl fX12_76 rfl hR rfl ?_
              refine vi_iload_n C dX12_tickOf_140 rfl rfl ?_
              refine r_iaload C dX12_tickOf_141 rfl rfl hR h (fun v47 h => ?_)
              refine vi_aload_n C dX12_tickOf_142 rfl rfl ?_
              refine r_geta C dX12_tickOf_143 rfl fX12_37 rfl hR rfl ?_
              refine vi_iload_n C dX12_tickOf_146 rfl rfl ?_
              refine r_iaload C dX12_tickOf_147 rfl rfl hR h (fun v48 h => ?_)
              refine vi_iconst (v := 0) C dX12_tickOf_148 rfl (by decide) ?_
              refine r_cv0 C [.int ((10 : Int32)), .int (a1), .int (v47), .int (v48), .int ((0 : Int32))] [] dX12_tickOf_149 rfl ivX12_311 imX12_sendAll rfl hR hF h (fun _ e => p_X12_sendAll e hR) rfl (Nat.le_of_ble_eq_true rfl) ⟨by decide, by decide⟩ ⟨Nat.le_refl _, Nat.le_refl _⟩ (fun S M49 h hR hF => ?_)
              refine vi_goto (t' := 303) C dX12_tickOf_152 (by decide) ?_
              refine vi_aload_n C dX12_tickOf_303 rfl rfl ?_
              refine r_geti C dX12_tickOf_304 rfl fX12_290 rfl hR ?_
              exact r_ret1 C dX12_tickOf_307 rfl hR hF h
      · intro k103_10 h103_10 h
        refine vi_icmp_ne (t' := 103) C dX12_tickOf_51 rfl (by decide) (fun c19 => ?_) (fun c19 => ?_)
        · replace h := iN c19 h
          exact vi_cut [(0, .ref m), (1, .int (a1)), (2, .int (s0_43))] ⟨rfl, rfl, rfl, trivial⟩ (h103_10 _ h _ hR hF)
        · replace h := iT c19 h
          refine vi_aload_n C dX12_tickOf_54 rfl rfl ?_
          refine r_geta C dX12_tickOf_55 rfl fX12_82 rfl hR rfl ?_
          refine vi_iload_n C dX12_tickOf_58 rfl rfl ?_
          refine r_iaload C dX12_tickOf_59 rfl rfl hR h (fun v11 h => ?_)
          refine vi_if_le (t' := 103) C dX12_tickOf_60 rfl (by decide) (fun c18 => ?_) (fun c18 => ?_)
          · replace h := iT c18 h
            exact vi_cut [(0, .ref m), (1, .int (a1)), (2, .int (s0_43))] ⟨rfl, rfl, rfl, trivial⟩ (h103_10 _ h _ hR hF)
          · replace h := iN c18 h
            refine vi_iload_n C dX12_tickOf_63 rfl rfl ?_
            refine vi_if_eq (t' := 303) C dX12_tickOf_64 rfl (by decide) (fun c17 => ?_) (fun c17 => ?_)
            · replace h := iT c17 h
              refine vi_aload_n C dX12_tickOf_303 rfl rfl ?_
              refine r_geti C dX12_tickOf_304 rfl fX12_290 rfl hR ?_
              exact r_ret1 C dX12_tickOf_307 rfl hR hF h
            · replace h := iN c17 h
              refine vi_aload_n C dX12_tickOf_67 rfl rfl ?_
              refine r_geta C dX12_tickOf_68 rfl fX12_55 rfl hR rfl ?_
              refine vi_iload_n C dX12_tickOf_71 rfl rfl ?_
              refine vi_iconst (v := 0) C dX12_tickOf_72 rfl (by decide) ?_
              refine r_iastore C dX12_tickOf_73 rfl rfl hR hF h (fun S M12 h hR hF => ?_)
              refine vi_aload_n C dX12_tickOf_74 rfl rfl ?_
              refine vi_iconst (v := 3) C dX12_tickOf_75 rfl (by decide) ?_
              refine vi_iload_n C dX12_tickOf_76 rfl rfl ?_
              refine vi_aload_n C dX12_tickOf_77 rfl rfl ?_
              refine r_geta C dX12_tickOf_78 rfl fX12_76 rfl hR rfl ?_
              refine vi_iload_n C dX12_tickOf_81 rfl rfl ?_
              refine r_iaload C dX12_tickOf_82 rfl rfl hR h (fun v13 h => ?_)
              refine vi_aload_n C dX12_tickOf_83 rfl rfl ?_
              refine r_geta C dX12_tickOf_84 rfl fX12_37 rfl hR rfl ?_
              refine vi_iload_n C dX12_tickOf_87 rfl rfl ?_
              refine r_iaload C dX12_tickOf_88 rfl rfl hR h (fun v14 h => ?_)
              refine vi_iconst (v := 1) C dX12_tickOf_89 rfl (by decide) ?_
              refine vi_iadd C dX12_tickOf_90 rfl ?_
              refine vi_aload_n C dX12_tickOf_91 rfl rfl ?_
              refine r_geta C dX12_tickOf_92 rfl fX12_82 rfl hR rfl ?_
              refine vi_iload_n C dX12_tickOf_95 rfl rfl ?_
              refine r_iaload C dX12_tickOf_96 rfl rfl hR h (fun v15 h => ?_)
              refine r_cv0 C [.int ((3 : Int32)), .int (a1), .int (v13), .int ((v14 + (1 : Int32))), .int (v15)] [] dX12_tickOf_97 rfl ivX12_311 imX12_sendAll rfl hR hF h (fun _ e => p_X12_sendAll e hR) rfl (Nat.le_of_ble_eq_true rfl) ⟨by decide, by decide⟩ ⟨Nat.le_refl _, Nat.le_refl _⟩ (fun S M16 h hR hF => ?_)
              refine vi_goto (t' := 303) C dX12_tickOf_100 (by decide) ?_
              refine vi_aload_n C dX12_tickOf_303 rfl rfl ?_
              refine r_geti C dX12_tickOf_304 rfl fX12_290 rfl hR ?_
              exact r_ret1 C dX12_tickOf_307 rfl hR hF h
    · intro k43_7 h43_7 h
      refine vi_icmp_lt (t' := 42) C dX12_tickOf_35 rfl (by decide) (fun c8 => ?_) (fun c8 => ?_)
      · replace h := iT c8 h
        refine vi_iconst (v := 0) C dX12_tickOf_42 rfl (by decide) ?_
        exact vi_cut [(0, .ref m), (1, .int (a1))] ⟨rfl, rfl, trivial⟩ (h43_7 _ h _ hR hF)
      · replace h := iN c8 h
        refine vi_iconst (v := 1) C dX12_tickOf_38 rfl (by decide) ?_
        refine vi_goto (t' := 43) C dX12_tickOf_39 (by decide) ?_
        exact vi_cut [(0, .ref m), (1, .int (a1))] ⟨rfl, rfl, trivial⟩ (h43_7 _ h _ hR hF)
  · replace h := iT c53 h
    refine vi_iconst (v := -1) C dX12_tickOf_13 rfl (by decide) ?_
    exact r_ret1 C dX12_tickOf_14 rfl hR hF h

def L_X12_deliverAt_114 {ρ : Type}  (l1 : Int32) (l3 : Int32) (l4 : Int32) (l5 : Int32) (l6 : Int32) (l7 : Int32) (l8 : Int32) (l9 : Int32) (l10 : Int32) (kx146 : vM → Option ρ) : Nat → vM → Int32 → Option ρ
  | 0, _, _ => none
  | f + 1, M, l11 => if (100 : Int32) ≤ l11 then (kx146 M ) else ((mG M 40 ((((100 : Int32) * l1) + l11))).bind fun v12 => (mS M 45 (l11) (v12)).bind fun M13 => L_X12_deliverAt_114 l1 l3 l4 l5 l6 l7 l8 l9 l10 kx146 f M13 ((l11 + (1))))

def F_X12_deliverAt (M : vM) (a1 : Int32) : Option (vM × Int32) := lt1 (mW M 0 ((0 : Int32))) fun M1 => if a1 < 0 then (some (M1, (-1 : Int32))) else (if a1 < (M1.1 53) then ((mG M1 39 (((8 : Int32) * a1))).bind fun v2 => (mG M1 39 ((((8 : Int32) * a1) + (1 : Int32)))).bind fun v3 => (mG M1 39 ((((8 : Int32) * a1) + (2 : Int32)))).bind fun v4 => (mG M1 39 ((((8 : Int32) * a1) + (3 : Int32)))).bind fun v5 => (mG M1 39 ((((8 : Int32) * a1) + (4 : Int32)))).bind fun v6 => (mG M1 39 ((((8 : Int32) * a1) + (5 : Int32)))).bind fun v7 => (mG M1 39 ((((8 : Int32) * a1) + (6 : Int32)))).bind fun v8 => (mG M1 39 ((((8 : Int32) * a1) + (7 : Int32)))).bind fun v9 => jn (fun (s0_109 : Int32) => L_X12_deliverAt_114 (a1) (v2) (v3) (v4) (v5) (v6) (v7) (v8) (s0_109) (fun (M15 : vM)  => (mG M15 41 (a1)).bind fun v16 => lt1 (mW M15 58 (v16)) fun M17 => (F_X12_remove M17 (a1)).bind fun M18 => if s0_109 = 0 then ((mG M18 6 (v4)).bind fun v19 => if v19 = 0 then (some (M18, v2)) else ((F_X12_comes M18 (v2) (v3) (v4) (v5) (v6) (v7) (v8)).bind fun M20 => some (M20, v2))) else (lt1 (mW M18 56 (((M18.1 56) + (1 : Int32)))) fun M22 => some (M22, (0 : Int32)))) fu M1 ((0 : Int32))) (fun k109_10 => if v9 ≤ 0 then ((k109_10 ((0 : Int32)))) else ((k109_10 ((1 : Int32)))))) else (some (M1, (-1 : Int32))))

set_option maxRecDepth 100000 in
set_option maxHeartbeats 4000000 in
theorem w_X12_deliverAt_114 {E : vE} {X : vX} {S0 : vS} {sz m b : Nat} {ρ : Type} {R : ρ} {Z : State → Prop} {l1 : Int32} {l3 : Int32} {l4 : Int32} {l5 : Int32} {l6 : Int32} {l7 : Int32} {l8 : Int32} {l9 : Int32} {l10 : Int32} {kx146 : vM → Option ρ} (C : vi_C E X yX12_deliverAt cX12_deliverAt 12 (some .int) 11 0 0 (45 * 11)) (hx146 : ∀ (M : vM) , kx146 M  = some R → ∀ S, RM S sz m b M → rF S0 S m b → vi_W E X 12 Z 146 [(0, .ref m), (1, .int (l1)), (3, .int (l3)), (4, .int (l4)), (5, .int (l5)), (6, .int (l6)), (7, .int (l7)), (8, .int (l8)), (9, .int (l9)), (10, .int (l10))] [] S sz 0 0) : ∀ (f : Nat) (M : vM) (l11 : Int32), L_X12_deliverAt_114 l1 l3 l4 l5 l6 l7 l8 l9 l10 kx146 f M l11 = some R → ∀ S, RM S sz m b M → rF S0 S m b → vi_W E X 12 Z 114 [(0, .ref m), (1, .int (l1)), (3, .int (l3)), (4, .int (l4)), (5, .int (l5)), (6, .int (l6)), (7, .int (l7)), (8, .int (l8)), (9, .int (l9)), (10, .int (l10)), (11, .int (l11))] [] S sz 0 0 := by
  intro f
  induction f with
  | zero => intro M l11 h; cases h
  | succ f ih =>
    intro M l11 h S hR hF
    rw [L_X12_deliverAt_114] at h
    refine vi_iload C dX12_deliverAt_114 rfl rfl ?_
    refine vi_bipush (v := 100) C dX12_deliverAt_116 rfl (by decide) ?_
    refine vi_icmp_ge (t' := 146) C dX12_deliverAt_118 rfl (by decide) (fun c14 => ?_) (fun c14 => ?_)
    · replace h := iT c14 h
      exact vi_cut [(0, .ref m), (1, .int (l1)), (3, .int (l3)), (4, .int (l4)), (5, .int (l5)), (6, .int (l6)), (7, .int (l7)), (8, .int (l8)), (9, .int (l9)), (10, .int (l10))] ⟨rfl, rfl, rfl, rfl, rfl, rfl, rfl, rfl, rfl, rfl, trivial⟩ (hx146 _  h _ hR hF)
    · replace h := iN c14 h
      refine vi_aload_n C dX12_deliverAt_121 rfl rfl ?_
      refine r_geta C dX12_deliverAt_122 rfl fX12_154 rfl hR rfl ?_
      refine vi_iload C dX12_deliverAt_125 rfl rfl ?_
      refine vi_aload_n C dX12_deliverAt_127 rfl rfl ?_
      refine r_geta C dX12_deliverAt_128 rfl fX12_139 rfl hR rfl ?_
      refine vi_bipush (v := 100) C dX12_deliverAt_131 rfl (by decide) ?_
      refine vi_iload_n C dX12_deliverAt_133 rfl rfl ?_
      refine vi_imul C dX12_deliverAt_134 rfl ?_
      refine vi_iload C dX12_deliverAt_135 rfl rfl ?_
      refine vi_iadd C dX12_deliverAt_137 rfl ?_
      refine r_iaload C dX12_deliverAt_138 rfl rfl hR h (fun v12 h => ?_)
      refine r_iastore C dX12_deliverAt_139 rfl rfl hR hF h (fun S M13 h hR hF => ?_)
      refine vi_iincv (v := 1) C dX12_deliverAt_140 rfl rfl (by decide) (by decide) ?_
      refine vi_goto (t' := 114) C dX12_deliverAt_143 (by decide) ?_
      exact vi_cut [(0, .ref m), (1, .int (l1)), (3, .int (l3)), (4, .int (l4)), (5, .int (l5)), (6, .int (l6)), (7, .int (l7)), (8, .int (l8)), (9, .int (l9)), (10, .int (l10)), (11, .int ((l11 + (1))))] ⟨rfl, rfl, rfl, rfl, rfl, rfl, rfl, rfl, rfl, rfl, rfl, trivial⟩ (ih _ _ h _ hR hF)

set_option maxRecDepth 100000 in
set_option maxHeartbeats 4000000 in
theorem p_X12_deliverAt {M : vM} {R : (vM × Int32)} {a1 : Int32} (h : F_X12_deliverAt M a1 = some R) {E : vE} {S0 : vS} {sz m b : Nat} (hR : RM S0 sz m b M) : vi_Met E yX12_deliverAt cX12_deliverAt 12 (some .int) 11 0 0 [.ref m, .int (a1)] S0 sz (Q1 S0 sz m b R) := by
  refine vi_met (by decide) (Nat.le_of_ble_eq_true rfl) ?_
  intro X C
  have hF := rF.refl S0 m b
  unfold F_X12_deliverAt at h
  refine vi_aload_n C dX12_deliverAt_0 rfl rfl ?_
  refine vi_iconst (v := 0) C dX12_deliverAt_1 rfl (by decide) ?_
  refine r_puti C dX12_deliverAt_2 rfl (fpX12_204 _) rfl hR hF h (fun S M1 h hR hF => ?_)
  refine vi_iload_n C dX12_deliverAt_5 rfl rfl ?_
  refine vi_if_lt (t' := 17) C dX12_deliverAt_6 rfl (by decide) (fun c25 => ?_) (fun c25 => ?_)
  · replace h := iT c25 h
    refine vi_iconst (v := -1) C dX12_deliverAt_17 rfl (by decide) ?_
    exact r_ret1 C dX12_deliverAt_18 rfl hR hF h
  · replace h := iN c25 h
    refine vi_iload_n C dX12_deliverAt_9 rfl rfl ?_
    refine vi_aload_n C dX12_deliverAt_10 rfl rfl ?_
    refine r_geti C dX12_deliverAt_11 rfl fX12_290 rfl hR ?_
    refine vi_icmp_lt (t' := 19) C dX12_deliverAt_14 rfl (by decide) (fun c24 => ?_) (fun c24 => ?_)
    · replace h := iT c24 h
      refine vi_bipush (v := 8) C dX12_deliverAt_19 rfl (by decide) ?_
      refine vi_iload_n C dX12_deliverAt_21 rfl rfl ?_
      refine vi_imul C dX12_deliverAt_22 rfl ?_
      refine vi_istore_n C dX12_deliverAt_23 rfl (by decide) ?_
      refine vi_aload_n C dX12_deliverAt_24 rfl rfl ?_
      refine r_geta C dX12_deliverAt_25 rfl fX12_136 rfl hR rfl ?_
      refine vi_iload_n C dX12_deliverAt_28 rfl rfl ?_
      refine r_iaload C dX12_deliverAt_29 rfl rfl hR h (fun v2 h => ?_)
      refine vi_istore_n C dX12_deliverAt_30 rfl (by decide) ?_
      refine vi_aload_n C dX12_deliverAt_31 rfl rfl ?_
      refine r_geta C dX12_deliverAt_32 rfl fX12_136 rfl hR rfl ?_
      refine vi_iload_n C dX12_deliverAt_35 rfl rfl ?_
      refine vi_iconst (v := 1) C dX12_deliverAt_36 rfl (by decide) ?_
      refine vi_iadd C dX12_deliverAt_37 rfl ?_
      refine r_iaload C dX12_deliverAt_38 rfl rfl hR h (fun v3 h => ?_)
      refine vi_istore C dX12_deliverAt_39 rfl (by decide) ?_
      refine vi_aload_n C dX12_deliverAt_41 rfl rfl ?_
      refine r_geta C dX12_deliverAt_42 rfl fX12_136 rfl hR rfl ?_
      refine vi_iload_n C dX12_deliverAt_45 rfl rfl ?_
      refine vi_iconst (v := 2) C dX12_deliverAt_46 rfl (by decide) ?_
      refine vi_iadd C dX12_deliverAt_47 rfl ?_
      refine r_iaload C dX12_deliverAt_48 rfl rfl hR h (fun v4 h => ?_)
      refine vi_istore C dX12_deliverAt_49 rfl (by decide) ?_
      refine vi_aload_n C dX12_deliverAt_51 rfl rfl ?_
      refine r_geta C dX12_deliverAt_52 rfl fX12_136 rfl hR rfl ?_
      refine vi_iload_n C dX12_deliverAt_55 rfl rfl ?_
      refine vi_iconst (v := 3) C dX12_deliverAt_56 rfl (by decide) ?_
      refine vi_iadd C dX12_deliverAt_57 rfl ?_
      refine r_iaload C dX12_deliverAt_58 rfl rfl hR h (fun v5 h => ?_)
      refine vi_istore C dX12_deliverAt_59 rfl (by decide) ?_
      refine vi_aload_n C dX12_deliverAt_61 rfl rfl ?_
      refine r_geta C dX12_deliverAt_62 rfl fX12_136 rfl hR rfl ?_
      refine vi_iload_n C dX12_deliverAt_65 rfl rfl ?_
      refine vi_iconst (v := 4) C dX12_deliverAt_66 rfl (by decide) ?_
      refine vi_iadd C dX12_deliverAt_67 rfl ?_
      refine r_iaload C dX12_deliverAt_68 rfl rfl hR h (fun v6 h => ?_)
      refine vi_istore C dX12_deliverAt_69 rfl (by decide) ?_
      refine vi_aload_n C dX12_deliverAt_71 rfl rfl ?_
      refine r_geta C dX12_deliverAt_72 rfl fX12_136 rfl hR rfl ?_
      refine vi_iload_n C dX12_deliverAt_75 rfl rfl ?_
      refine vi_iconst (v := 5) C dX12_deliverAt_76 rfl (by decide) ?_
      refine vi_iadd C dX12_deliverAt_77 rfl ?_
      refine r_iaload C dX12_deliverAt_78 rfl rfl hR h (fun v7 h => ?_)
      refine vi_istore C dX12_deliverAt_79 rfl (by decide) ?_
      refine vi_aload_n C dX12_deliverAt_81 rfl rfl ?_
      refine r_geta C dX12_deliverAt_82 rfl fX12_136 rfl hR rfl ?_
      refine vi_iload_n C dX12_deliverAt_85 rfl rfl ?_
      refine vi_bipush (v := 6) C dX12_deliverAt_86 rfl (by decide) ?_
      refine vi_iadd C dX12_deliverAt_88 rfl ?_
      refine r_iaload C dX12_deliverAt_89 rfl rfl hR h (fun v8 h => ?_)
      refine vi_istore C dX12_deliverAt_90 rfl (by decide) ?_
      refine vi_aload_n C dX12_deliverAt_92 rfl rfl ?_
      refine r_geta C dX12_deliverAt_93 rfl fX12_136 rfl hR rfl ?_
      refine vi_iload_n C dX12_deliverAt_96 rfl rfl ?_
      refine vi_bipush (v := 7) C dX12_deliverAt_97 rfl (by decide) ?_
      refine vi_iadd C dX12_deliverAt_99 rfl ?_
      refine r_iaload C dX12_deliverAt_100 rfl rfl hR h (fun v9 h => ?_)
      refine r_jn h (fun k => ∀ (s0_109 : Int32), k s0_109 = some R → ∀ S, RM S sz m b M1 → rF S0 S m b → vi_W E X 12 (vi_Z E X (Q1 S0 sz m b R) 0 0) 109 [(0, .ref m), (1, .int (a1)), (3, .int (v2)), (4, .int (v3)), (5, .int (v4)), (6, .int (v5)), (7, .int (v6)), (8, .int (v7)), (9, .int (v8))] [.int (s0_109)] S sz 0 0) ?_ ?_
      · intro s0_109 h S hR hF
        refine vi_istore C dX12_deliverAt_109 rfl (by decide) ?_
        refine vi_iconst (v := 0) C dX12_deliverAt_111 rfl (by decide) ?_
        refine vi_istore C dX12_deliverAt_112 rfl (by decide) ?_
        refine vi_cut [(0, .ref m), (1, .int (a1)), (3, .int (v2)), (4, .int (v3)), (5, .int (v4)), (6, .int (v5)), (7, .int (v6)), (8, .int (v7)), (9, .int (v8)), (10, .int (s0_109)), (11, .int ((0 : Int32)))] ⟨rfl, rfl, rfl, rfl, rfl, rfl, rfl, rfl, rfl, rfl, rfl, trivial⟩ (w_X12_deliverAt_114 C ?_ _ _ _ h _ hR hF)
        · intro M15 h S hR hF
          refine vi_aload_n C dX12_deliverAt_146 rfl rfl ?_
          refine vi_aload_n C dX12_deliverAt_147 rfl rfl ?_
          refine r_geta C dX12_deliverAt_148 rfl fX12_142 rfl hR rfl ?_
          refine vi_iload_n C dX12_deliverAt_151 rfl rfl ?_
          refine r_iaload C dX12_deliverAt_152 rfl rfl hR h (fun v16 h => ?_)
          refine r_puti C dX12_deliverAt_153 rfl (fpX12_358 _) rfl hR hF h (fun S M17 h hR hF => ?_)
          refine vi_aload_n C dX12_deliverAt_156 rfl rfl ?_
          refine vi_iload_n C dX12_deliverAt_157 rfl rfl ?_
          refine r_cv0 C [.int (a1)] [] dX12_deliverAt_158 rfl ivX12_382 imX12_remove rfl hR hF h (fun _ e => p_X12_remove e hR) rfl (Nat.le_of_ble_eq_true rfl) ⟨by decide, by decide⟩ ⟨Nat.le_refl _, Nat.le_refl _⟩ (fun S M18 h hR hF => ?_)
          refine vi_iload C dX12_deliverAt_161 rfl rfl ?_
          refine vi_if_eq (t' := 178) C dX12_deliverAt_163 rfl (by decide) (fun c23 => ?_) (fun c23 => ?_)
          · replace h := iT c23 h
            refine vi_aload_n C dX12_deliverAt_178 rfl rfl ?_
            refine r_geta C dX12_deliverAt_179 rfl fX12_33 rfl hR rfl ?_
            refine vi_iload C dX12_deliverAt_182 rfl rfl ?_
            refine r_zaload C dX12_deliverAt_184 rfl rfl hR h (fun v19 h => ?_)
            refine vi_if_eq (t' := 205) C dX12_deliverAt_185 rfl (by decide) (fun c21 => ?_) (fun c21 => ?_)
            · replace h := iT c21 h
              refine vi_iload_n C dX12_deliverAt_205 rfl rfl ?_
              exact r_ret1 C dX12_deliverAt_206 rfl hR hF h
            · replace h := iN c21 h
              refine vi_aload_n C dX12_deliverAt_188 rfl rfl ?_
              refine vi_iload_n C dX12_deliverAt_189 rfl rfl ?_
              refine vi_iload C dX12_deliverAt_190 rfl rfl ?_
              refine vi_iload C dX12_deliverAt_192 rfl rfl ?_
              refine vi_iload C dX12_deliverAt_194 rfl rfl ?_
              refine vi_iload C dX12_deliverAt_196 rfl rfl ?_
              refine vi_iload C dX12_deliverAt_198 rfl rfl ?_
              refine vi_iload C dX12_deliverAt_200 rfl rfl ?_
              refine r_cv0 C [.int (v2), .int (v3), .int (v4), .int (v5), .int (v6), .int (v7), .int (v8)] [] dX12_deliverAt_202 rfl ivX12_388 imX12_comes rfl hR hF h (fun _ e => p_X12_comes e hR) rfl (Nat.le_of_ble_eq_true rfl) ⟨by decide, by decide⟩ ⟨Nat.le_refl _, Nat.le_refl _⟩ (fun S M20 h hR hF => ?_)
              refine vi_iload_n C dX12_deliverAt_205 rfl rfl ?_
              exact r_ret1 C dX12_deliverAt_206 rfl hR hF h
          · replace h := iN c23 h
            refine vi_aload_n C dX12_deliverAt_166 rfl rfl ?_
            refine vi_dup C dX12_deliverAt_167 rfl rfl ?_
            refine r_geti C dX12_deliverAt_168 rfl fX12_385 rfl hR ?_
            refine vi_iconst (v := 1) C dX12_deliverAt_171 rfl (by decide) ?_
            refine vi_iadd C dX12_deliverAt_172 rfl ?_
            refine r_puti C dX12_deliverAt_173 rfl (fpX12_385 _) rfl hR hF h (fun S M22 h hR hF => ?_)
            refine vi_iconst (v := 0) C dX12_deliverAt_176 rfl (by decide) ?_
            exact r_ret1 C dX12_deliverAt_177 rfl hR hF h
      · intro k109_10 h109_10 h
        refine vi_if_le (t' := 108) C dX12_deliverAt_101 rfl (by decide) (fun c11 => ?_) (fun c11 => ?_)
        · replace h := iT c11 h
          refine vi_iconst (v := 0) C dX12_deliverAt_108 rfl (by decide) ?_
          exact vi_cut [(0, .ref m), (1, .int (a1)), (3, .int (v2)), (4, .int (v3)), (5, .int (v4)), (6, .int (v5)), (7, .int (v6)), (8, .int (v7)), (9, .int (v8))] ⟨rfl, rfl, rfl, rfl, rfl, rfl, rfl, rfl, rfl, trivial⟩ (h109_10 _ h _ hR hF)
        · replace h := iN c11 h
          refine vi_iconst (v := 1) C dX12_deliverAt_104 rfl (by decide) ?_
          refine vi_goto (t' := 109) C dX12_deliverAt_105 (by decide) ?_
          exact vi_cut [(0, .ref m), (1, .int (a1)), (3, .int (v2)), (4, .int (v3)), (5, .int (v4)), (6, .int (v5)), (7, .int (v6)), (8, .int (v7)), (9, .int (v8))] ⟨rfl, rfl, rfl, rfl, rfl, rfl, rfl, rfl, rfl, trivial⟩ (h109_10 _ h _ hR hF)
    · replace h := iN c24 h
      refine vi_iconst (v := -1) C dX12_deliverAt_17 rfl (by decide) ?_
      exact r_ret1 C dX12_deliverAt_18 rfl hR hF h

def F_X12_loseAt (M : vM) (a1 : Int32) : Option (vM × Int32) := lt1 (mW M 0 ((0 : Int32))) fun M1 => if a1 < 0 then (zb ((0 : Int32)) (some (M1, (0 : Int32)))) else (if a1 < (M1.1 53) then ((F_X12_remove M1 (a1)).bind fun M2 => zb ((1 : Int32)) (some (M2, (1 : Int32)))) else (zb ((0 : Int32)) (some (M1, (0 : Int32)))))

set_option maxRecDepth 100000 in
set_option maxHeartbeats 4000000 in
theorem p_X12_loseAt {M : vM} {R : (vM × Int32)} {a1 : Int32} (h : F_X12_loseAt M a1 = some R) {E : vE} {S0 : vS} {sz m b : Nat} (hR : RM S0 sz m b M) : vi_Met E yX12_loseAt cX12_loseAt 2 (some .boolean) 1 0 0 [.ref m, .int (a1)] S0 sz (Q1 S0 sz m b R) := by
  refine vi_met (by decide) (Nat.le_of_ble_eq_true rfl) ?_
  intro X C
  have hF := rF.refl S0 m b
  unfold F_X12_loseAt at h
  refine vi_aload_n C dX12_loseAt_0 rfl rfl ?_
  refine vi_iconst (v := 0) C dX12_loseAt_1 rfl (by decide) ?_
  refine r_puti C dX12_loseAt_2 rfl (fpX12_204 _) rfl hR hF h (fun S M1 h hR hF => ?_)
  refine vi_iload_n C dX12_loseAt_5 rfl rfl ?_
  refine vi_if_lt (t' := 17) C dX12_loseAt_6 rfl (by decide) (fun c4 => ?_) (fun c4 => ?_)
  · replace h := iT c4 h
    refine vi_iconst (v := 0) C dX12_loseAt_17 rfl (by decide) ?_
    exact r_retz C dX12_loseAt_18 rfl hR hF h
  · replace h := iN c4 h
    refine vi_iload_n C dX12_loseAt_9 rfl rfl ?_
    refine vi_aload_n C dX12_loseAt_10 rfl rfl ?_
    refine r_geti C dX12_loseAt_11 rfl fX12_290 rfl hR ?_
    refine vi_icmp_lt (t' := 19) C dX12_loseAt_14 rfl (by decide) (fun c3 => ?_) (fun c3 => ?_)
    · replace h := iT c3 h
      refine vi_aload_n C dX12_loseAt_19 rfl rfl ?_
      refine vi_iload_n C dX12_loseAt_20 rfl rfl ?_
      refine r_cv0 C [.int (a1)] [] dX12_loseAt_21 rfl ivX12_382 imX12_remove rfl hR hF h (fun _ e => p_X12_remove e hR) rfl (Nat.le_of_ble_eq_true rfl) ⟨by decide, by decide⟩ ⟨Nat.le_refl _, Nat.le_refl _⟩ (fun S M2 h hR hF => ?_)
      refine vi_iconst (v := 1) C dX12_loseAt_24 rfl (by decide) ?_
      exact r_retz C dX12_loseAt_25 rfl hR hF h
    · replace h := iN c3 h
      refine vi_iconst (v := 0) C dX12_loseAt_17 rfl (by decide) ?_
      exact r_retz C dX12_loseAt_18 rfl hR hF h

def L_X12_doubleAt_31 {ρ : Type}  (l1 : Int32) (kx68 : vM → Option ρ) : Nat → vM → Int32 → Option ρ
  | 0, _, _ => none
  | f + 1, M, l2 => if (8 : Int32) ≤ l2 then (kx68 M ) else ((mG M 39 ((((8 : Int32) * l1) + l2))).bind fun v2 => (mS M 39 ((((8 : Int32) * (M.1 53)) + l2)) (v2)).bind fun M3 => L_X12_doubleAt_31 l1 kx68 f M3 ((l2 + (1))))

def L_X12_doubleAt_70 {ρ : Type}  (l1 : Int32) (kx107 : vM → Option ρ) : Nat → vM → Int32 → Option ρ
  | 0, _, _ => none
  | f + 1, M, l2 => if (100 : Int32) ≤ l2 then (kx107 M ) else ((mG M 40 ((((100 : Int32) * l1) + l2))).bind fun v6 => (mS M 40 ((((100 : Int32) * (M.1 53)) + l2)) (v6)).bind fun M7 => L_X12_doubleAt_70 l1 kx107 f M7 ((l2 + (1))))

def F_X12_doubleAt (M : vM) (a1 : Int32) : Option (vM × Int32) := lt1 (mW M 0 ((0 : Int32))) fun M1 => if a1 < 0 then (zb ((0 : Int32)) (some (M1, (0 : Int32)))) else (if (M1.1 53) ≤ a1 then (zb ((0 : Int32)) (some (M1, (0 : Int32)))) else (if (M1.1 53) = (200 : Int32) then (zb ((0 : Int32)) (some (M1, (0 : Int32)))) else (L_X12_doubleAt_31 (a1) (fun (M5 : vM)  => L_X12_doubleAt_70 (a1) (fun (M9 : vM)  => (mG M9 41 (a1)).bind fun v10 => (mS M9 41 ((M9.1 53)) (v10)).bind fun M11 => lt1 (mW M11 53 (((M11.1 53) + (1 : Int32)))) fun M12 => zb ((1 : Int32)) (some (M12, (1 : Int32)))) fu M5 ((0 : Int32))) fu M1 ((0 : Int32)))))

set_option maxRecDepth 100000 in
set_option maxHeartbeats 4000000 in
theorem w_X12_doubleAt_31 {E : vE} {X : vX} {S0 : vS} {sz m b : Nat} {ρ : Type} {R : ρ} {Z : State → Prop} {l1 : Int32} {kx68 : vM → Option ρ} (C : vi_C E X yX12_doubleAt cX12_doubleAt 3 (some .boolean) 0 0 0 (45 * 0)) (hx68 : ∀ (M : vM) , kx68 M  = some R → ∀ S, RM S sz m b M → rF S0 S m b → vi_W E X 3 Z 68 [(0, .ref m), (1, .int (l1))] [] S sz 0 0) : ∀ (f : Nat) (M : vM) (l2 : Int32), L_X12_doubleAt_31 l1 kx68 f M l2 = some R → ∀ S, RM S sz m b M → rF S0 S m b → vi_W E X 3 Z 31 [(0, .ref m), (1, .int (l1)), (2, .int (l2))] [] S sz 0 0 := by
  intro f
  induction f with
  | zero => intro M l2 h; cases h
  | succ f ih =>
    intro M l2 h S hR hF
    rw [L_X12_doubleAt_31] at h
    refine vi_iload_n C dX12_doubleAt_31 rfl rfl ?_
    refine vi_bipush (v := 8) C dX12_doubleAt_32 rfl (by decide) ?_
    refine vi_icmp_ge (t' := 68) C dX12_doubleAt_34 rfl (by decide) (fun c4 => ?_) (fun c4 => ?_)
    · replace h := iT c4 h
      exact vi_cut [(0, .ref m), (1, .int (l1))] ⟨rfl, rfl, trivial⟩ (hx68 _  h _ hR hF)
    · replace h := iN c4 h
      refine vi_aload_n C dX12_doubleAt_37 rfl rfl ?_
      refine r_geta C dX12_doubleAt_38 rfl fX12_136 rfl hR rfl ?_
      refine vi_bipush (v := 8) C dX12_doubleAt_41 rfl (by decide) ?_
      refine vi_aload_n C dX12_doubleAt_43 rfl rfl ?_
      refine r_geti C dX12_doubleAt_44 rfl fX12_290 rfl hR ?_
      refine vi_imul C dX12_doubleAt_47 rfl ?_
      refine vi_iload_n C dX12_doubleAt_48 rfl rfl ?_
      refine vi_iadd C dX12_doubleAt_49 rfl ?_
      refine vi_aload_n C dX12_doubleAt_50 rfl rfl ?_
      refine r_geta C dX12_doubleAt_51 rfl fX12_136 rfl hR rfl ?_
      refine vi_bipush (v := 8) C dX12_doubleAt_54 rfl (by decide) ?_
      refine vi_iload_n C dX12_doubleAt_56 rfl rfl ?_
      refine vi_imul C dX12_doubleAt_57 rfl ?_
      refine vi_iload_n C dX12_doubleAt_58 rfl rfl ?_
      refine vi_iadd C dX12_doubleAt_59 rfl ?_
      refine r_iaload C dX12_doubleAt_60 rfl rfl hR h (fun v2 h => ?_)
      refine r_iastore C dX12_doubleAt_61 rfl rfl hR hF h (fun S M3 h hR hF => ?_)
      refine vi_iincv (v := 1) C dX12_doubleAt_62 rfl rfl (by decide) (by decide) ?_
      refine vi_goto (t' := 31) C dX12_doubleAt_65 (by decide) ?_
      exact vi_cut [(0, .ref m), (1, .int (l1)), (2, .int ((l2 + (1))))] ⟨rfl, rfl, rfl, trivial⟩ (ih _ _ h _ hR hF)

set_option maxRecDepth 100000 in
set_option maxHeartbeats 4000000 in
theorem w_X12_doubleAt_70 {E : vE} {X : vX} {S0 : vS} {sz m b : Nat} {ρ : Type} {R : ρ} {Z : State → Prop} {l1 : Int32} {kx107 : vM → Option ρ} (C : vi_C E X yX12_doubleAt cX12_doubleAt 3 (some .boolean) 0 0 0 (45 * 0)) (hx107 : ∀ (M : vM) , kx107 M  = some R → ∀ S, RM S sz m b M → rF S0 S m b → vi_W E X 3 Z 107 [(0, .ref m), (1, .int (l1))] [] S sz 0 0) : ∀ (f : Nat) (M : vM) (l2 : Int32), L_X12_doubleAt_70 l1 kx107 f M l2 = some R → ∀ S, RM S sz m b M → rF S0 S m b → vi_W E X 3 Z 70 [(0, .ref m), (1, .int (l1)), (2, .int (l2))] [] S sz 0 0 := by
  intro f
  induction f with
  | zero => intro M l2 h; cases h
  | succ f ih =>
    intro M l2 h S hR hF
    rw [L_X12_doubleAt_70] at h
    refine vi_iload_n C dX12_doubleAt_70 rfl rfl ?_
    refine vi_bipush (v := 100) C dX12_doubleAt_71 rfl (by decide) ?_
    refine vi_icmp_ge (t' := 107) C dX12_doubleAt_73 rfl (by decide) (fun c8 => ?_) (fun c8 => ?_)
    · replace h := iT c8 h
      exact vi_cut [(0, .ref m), (1, .int (l1))] ⟨rfl, rfl, trivial⟩ (hx107 _  h _ hR hF)
    · replace h := iN c8 h
      refine vi_aload_n C dX12_doubleAt_76 rfl rfl ?_
      refine r_geta C dX12_doubleAt_77 rfl fX12_139 rfl hR rfl ?_
      refine vi_bipush (v := 100) C dX12_doubleAt_80 rfl (by decide) ?_
      refine vi_aload_n C dX12_doubleAt_82 rfl rfl ?_
      refine r_geti C dX12_doubleAt_83 rfl fX12_290 rfl hR ?_
      refine vi_imul C dX12_doubleAt_86 rfl ?_
      refine vi_iload_n C dX12_doubleAt_87 rfl rfl ?_
      refine vi_iadd C dX12_doubleAt_88 rfl ?_
      refine vi_aload_n C dX12_doubleAt_89 rfl rfl ?_
      refine r_geta C dX12_doubleAt_90 rfl fX12_139 rfl hR rfl ?_
      refine vi_bipush (v := 100) C dX12_doubleAt_93 rfl (by decide) ?_
      refine vi_iload_n C dX12_doubleAt_95 rfl rfl ?_
      refine vi_imul C dX12_doubleAt_96 rfl ?_
      refine vi_iload_n C dX12_doubleAt_97 rfl rfl ?_
      refine vi_iadd C dX12_doubleAt_98 rfl ?_
      refine r_iaload C dX12_doubleAt_99 rfl rfl hR h (fun v6 h => ?_)
      refine r_iastore C dX12_doubleAt_100 rfl rfl hR hF h (fun S M7 h hR hF => ?_)
      refine vi_iincv (v := 1) C dX12_doubleAt_101 rfl rfl (by decide) (by decide) ?_
      refine vi_goto (t' := 70) C dX12_doubleAt_104 (by decide) ?_
      exact vi_cut [(0, .ref m), (1, .int (l1)), (2, .int ((l2 + (1))))] ⟨rfl, rfl, rfl, trivial⟩ (ih _ _ h _ hR hF)

set_option maxRecDepth 100000 in
set_option maxHeartbeats 4000000 in
theorem p_X12_doubleAt {M : vM} {R : (vM × Int32)} {a1 : Int32} (h : F_X12_doubleAt M a1 = some R) {E : vE} {S0 : vS} {sz m b : Nat} (hR : RM S0 sz m b M) : vi_Met E yX12_doubleAt cX12_doubleAt 3 (some .boolean) 0 0 0 [.ref m, .int (a1)] S0 sz (Q1 S0 sz m b R) := by
  refine vi_met (by decide) (Nat.le_of_ble_eq_true rfl) ?_
  intro X C
  have hF := rF.refl S0 m b
  unfold F_X12_doubleAt at h
  refine vi_aload_n C dX12_doubleAt_0 rfl rfl ?_
  refine vi_iconst (v := 0) C dX12_doubleAt_1 rfl (by decide) ?_
  refine r_puti C dX12_doubleAt_2 rfl (fpX12_204 _) rfl hR hF h (fun S M1 h hR hF => ?_)
  refine vi_iload_n C dX12_doubleAt_5 rfl rfl ?_
  refine vi_if_lt (t' := 27) C dX12_doubleAt_6 rfl (by decide) (fun c15 => ?_) (fun c15 => ?_)
  · replace h := iT c15 h
    refine vi_iconst (v := 0) C dX12_doubleAt_27 rfl (by decide) ?_
    exact r_retz C dX12_doubleAt_28 rfl hR hF h
  · replace h := iN c15 h
    refine vi_iload_n C dX12_doubleAt_9 rfl rfl ?_
    refine vi_aload_n C dX12_doubleAt_10 rfl rfl ?_
    refine r_geti C dX12_doubleAt_11 rfl fX12_290 rfl hR ?_
    refine vi_icmp_ge (t' := 27) C dX12_doubleAt_14 rfl (by decide) (fun c14 => ?_) (fun c14 => ?_)
    · replace h := iT c14 h
      refine vi_iconst (v := 0) C dX12_doubleAt_27 rfl (by decide) ?_
      exact r_retz C dX12_doubleAt_28 rfl hR hF h
    · replace h := iN c14 h
      refine vi_aload_n C dX12_doubleAt_17 rfl rfl ?_
      refine r_geti C dX12_doubleAt_18 rfl fX12_290 rfl hR ?_
      refine vi_sipush (v := 200) C dX12_doubleAt_21 rfl (by decide) ?_
      refine vi_icmp_ne (t' := 29) C dX12_doubleAt_24 rfl (by decide) (fun c13 => ?_) (fun c13 => ?_)
      · replace h := iN c13 h
        refine vi_iconst (v := 0) C dX12_doubleAt_29 rfl (by decide) ?_
        refine vi_istore_n C dX12_doubleAt_30 rfl (by decide) ?_
        refine vi_cut [(0, .ref m), (1, .int (a1)), (2, .int ((0 : Int32)))] ⟨rfl, rfl, rfl, trivial⟩ (w_X12_doubleAt_31 C ?_ _ _ _ h _ hR hF)
        · intro M5 h S hR hF
          refine vi_iconst (v := 0) C dX12_doubleAt_68 rfl (by decide) ?_
          refine vi_istore_n C dX12_doubleAt_69 rfl (by decide) ?_
          refine vi_cut [(0, .ref m), (1, .int (a1)), (2, .int ((0 : Int32)))] ⟨rfl, rfl, rfl, trivial⟩ (w_X12_doubleAt_70 C ?_ _ _ _ h _ hR hF)
          · intro M9 h S hR hF
            refine vi_aload_n C dX12_doubleAt_107 rfl rfl ?_
            refine r_geta C dX12_doubleAt_108 rfl fX12_142 rfl hR rfl ?_
            refine vi_aload_n C dX12_doubleAt_111 rfl rfl ?_
            refine r_geti C dX12_doubleAt_112 rfl fX12_290 rfl hR ?_
            refine vi_aload_n C dX12_doubleAt_115 rfl rfl ?_
            refine r_geta C dX12_doubleAt_116 rfl fX12_142 rfl hR rfl ?_
            refine vi_iload_n C dX12_doubleAt_119 rfl rfl ?_
            refine r_iaload C dX12_doubleAt_120 rfl rfl hR h (fun v10 h => ?_)
            refine r_iastore C dX12_doubleAt_121 rfl rfl hR hF h (fun S M11 h hR hF => ?_)
            refine vi_aload_n C dX12_doubleAt_122 rfl rfl ?_
            refine vi_dup C dX12_doubleAt_123 rfl rfl ?_
            refine r_geti C dX12_doubleAt_124 rfl fX12_290 rfl hR ?_
            refine vi_iconst (v := 1) C dX12_doubleAt_127 rfl (by decide) ?_
            refine vi_iadd C dX12_doubleAt_128 rfl ?_
            refine r_puti C dX12_doubleAt_129 rfl (fpX12_290 _) rfl hR hF h (fun S M12 h hR hF => ?_)
            refine vi_iconst (v := 1) C dX12_doubleAt_132 rfl (by decide) ?_
            exact r_retz C dX12_doubleAt_133 rfl hR hF h
      · replace h := iT c13 h
        refine vi_iconst (v := 0) C dX12_doubleAt_27 rfl (by decide) ?_
        exact r_retz C dX12_doubleAt_28 rfl hR hF h

def F_X12_spoilAt (M : vM) (a1 : Int32) (a2 : Int32) (a3 : Int32) : Option (vM × Int32) := lt1 (mW M 0 ((0 : Int32))) fun M1 => if a1 < 0 then (zb ((0 : Int32)) (some (M1, (0 : Int32)))) else (if (M1.1 53) ≤ a1 then (zb ((0 : Int32)) (some (M1, (0 : Int32)))) else (if a2 < 0 then (zb ((0 : Int32)) (some (M1, (0 : Int32)))) else (if a3 < 0 then (zb ((0 : Int32)) (some (M1, (0 : Int32)))) else (if (7 : Int32) < a3 then (zb ((0 : Int32)) (some (M1, (0 : Int32)))) else ((mG M1 39 ((((8 : Int32) * a1) + (7 : Int32)))).bind fun v2 => if v2 ≤ 0 then ((F_X12_layFrame M1 (a1)).bind fun M3 => if a2 < (M3.1 45) then ((mS M3 39 ((((8 : Int32) * a1) + (7 : Int32))) ((((1 : Int32) + ((8 : Int32) * a2)) + a3))).bind fun M4 => zb ((1 : Int32)) (some (M4, (1 : Int32)))) else (zb ((0 : Int32)) (some (M3, (0 : Int32))))) else (zb ((0 : Int32)) (some (M1, (0 : Int32)))))))))

set_option maxRecDepth 100000 in
set_option maxHeartbeats 4000000 in
theorem p_X12_spoilAt {M : vM} {R : (vM × Int32)} {a1 : Int32} {a2 : Int32} {a3 : Int32} (h : F_X12_spoilAt M a1 a2 a3 = some R) {E : vE} {S0 : vS} {sz m b : Nat} (hR : RM S0 sz m b M) : vi_Met E yX12_spoilAt cX12_spoilAt 4 (some .boolean) 6 0 0 [.ref m, .int (a1), .int (a2), .int (a3)] S0 sz (Q1 S0 sz m b R) := by
  refine vi_met (by decide) (Nat.le_of_ble_eq_true rfl) ?_
  intro X C
  have hF := rF.refl S0 m b
  unfold F_X12_spoilAt at h
  refine vi_aload_n C dX12_spoilAt_0 rfl rfl ?_
  refine vi_iconst (v := 0) C dX12_spoilAt_1 rfl (by decide) ?_
  refine r_puti C dX12_spoilAt_2 rfl (fpX12_204 _) rfl hR hF h (fun S M1 h hR hF => ?_)
  refine vi_iload_n C dX12_spoilAt_5 rfl rfl ?_
  refine vi_if_lt (t' := 46) C dX12_spoilAt_6 rfl (by decide) (fun c11 => ?_) (fun c11 => ?_)
  · replace h := iT c11 h
    refine vi_iconst (v := 0) C dX12_spoilAt_46 rfl (by decide) ?_
    exact r_retz C dX12_spoilAt_47 rfl hR hF h
  · replace h := iN c11 h
    refine vi_iload_n C dX12_spoilAt_9 rfl rfl ?_
    refine vi_aload_n C dX12_spoilAt_10 rfl rfl ?_
    refine r_geti C dX12_spoilAt_11 rfl fX12_290 rfl hR ?_
    refine vi_icmp_ge (t' := 46) C dX12_spoilAt_14 rfl (by decide) (fun c10 => ?_) (fun c10 => ?_)
    · replace h := iT c10 h
      refine vi_iconst (v := 0) C dX12_spoilAt_46 rfl (by decide) ?_
      exact r_retz C dX12_spoilAt_47 rfl hR hF h
    · replace h := iN c10 h
      refine vi_iload_n C dX12_spoilAt_17 rfl rfl ?_
      refine vi_if_lt (t' := 46) C dX12_spoilAt_18 rfl (by decide) (fun c9 => ?_) (fun c9 => ?_)
      · replace h := iT c9 h
        refine vi_iconst (v := 0) C dX12_spoilAt_46 rfl (by decide) ?_
        exact r_retz C dX12_spoilAt_47 rfl hR hF h
      · replace h := iN c9 h
        refine vi_iload_n C dX12_spoilAt_21 rfl rfl ?_
        refine vi_if_lt (t' := 46) C dX12_spoilAt_22 rfl (by decide) (fun c8 => ?_) (fun c8 => ?_)
        · replace h := iT c8 h
          refine vi_iconst (v := 0) C dX12_spoilAt_46 rfl (by decide) ?_
          exact r_retz C dX12_spoilAt_47 rfl hR hF h
        · replace h := iN c8 h
          refine vi_iload_n C dX12_spoilAt_25 rfl rfl ?_
          refine vi_bipush (v := 7) C dX12_spoilAt_26 rfl (by decide) ?_
          refine vi_icmp_gt (t' := 46) C dX12_spoilAt_28 rfl (by decide) (fun c7 => ?_) (fun c7 => ?_)
          · replace h := iT c7 h
            refine vi_iconst (v := 0) C dX12_spoilAt_46 rfl (by decide) ?_
            exact r_retz C dX12_spoilAt_47 rfl hR hF h
          · replace h := iN c7 h
            refine vi_aload_n C dX12_spoilAt_31 rfl rfl ?_
            refine r_geta C dX12_spoilAt_32 rfl fX12_136 rfl hR rfl ?_
            refine vi_bipush (v := 8) C dX12_spoilAt_35 rfl (by decide) ?_
            refine vi_iload_n C dX12_spoilAt_37 rfl rfl ?_
            refine vi_imul C dX12_spoilAt_38 rfl ?_
            refine vi_bipush (v := 7) C dX12_spoilAt_39 rfl (by decide) ?_
            refine vi_iadd C dX12_spoilAt_41 rfl ?_
            refine r_iaload C dX12_spoilAt_42 rfl rfl hR h (fun v2 h => ?_)
            refine vi_if_le (t' := 48) C dX12_spoilAt_43 rfl (by decide) (fun c6 => ?_) (fun c6 => ?_)
            · replace h := iT c6 h
              refine vi_aload_n C dX12_spoilAt_48 rfl rfl ?_
              refine vi_iload_n C dX12_spoilAt_49 rfl rfl ?_
              refine r_cv0 C [.int (a1)] [] dX12_spoilAt_50 rfl ivX12_391 imX12_layFrame rfl hR hF h (fun _ e => p_X12_layFrame e hR) rfl (Nat.le_of_ble_eq_true rfl) ⟨by decide, by decide⟩ ⟨Nat.le_refl _, Nat.le_refl _⟩ (fun S M3 h hR hF => ?_)
              refine vi_iload_n C dX12_spoilAt_53 rfl rfl ?_
              refine vi_aload_n C dX12_spoilAt_54 rfl rfl ?_
              refine r_geti C dX12_spoilAt_55 rfl fX12_218 rfl hR ?_
              refine vi_icmp_lt (t' := 63) C dX12_spoilAt_58 rfl (by decide) (fun c5 => ?_) (fun c5 => ?_)
              · replace h := iT c5 h
                refine vi_aload_n C dX12_spoilAt_63 rfl rfl ?_
                refine r_geta C dX12_spoilAt_64 rfl fX12_136 rfl hR rfl ?_
                refine vi_bipush (v := 8) C dX12_spoilAt_67 rfl (by decide) ?_
                refine vi_iload_n C dX12_spoilAt_69 rfl rfl ?_
                refine vi_imul C dX12_spoilAt_70 rfl ?_
                refine vi_bipush (v := 7) C dX12_spoilAt_71 rfl (by decide) ?_
                refine vi_iadd C dX12_spoilAt_73 rfl ?_
                refine vi_iconst (v := 1) C dX12_spoilAt_74 rfl (by decide) ?_
                refine vi_bipush (v := 8) C dX12_spoilAt_75 rfl (by decide) ?_
                refine vi_iload_n C dX12_spoilAt_77 rfl rfl ?_
                refine vi_imul C dX12_spoilAt_78 rfl ?_
                refine vi_iadd C dX12_spoilAt_79 rfl ?_
                refine vi_iload_n C dX12_spoilAt_80 rfl rfl ?_
                refine vi_iadd C dX12_spoilAt_81 rfl ?_
                refine r_iastore C dX12_spoilAt_82 rfl rfl hR hF h (fun S M4 h hR hF => ?_)
                refine vi_iconst (v := 1) C dX12_spoilAt_83 rfl (by decide) ?_
                exact r_retz C dX12_spoilAt_84 rfl hR hF h
              · replace h := iN c5 h
                refine vi_iconst (v := 0) C dX12_spoilAt_61 rfl (by decide) ?_
                exact r_retz C dX12_spoilAt_62 rfl hR hF h
            · replace h := iN c6 h
              refine vi_iconst (v := 0) C dX12_spoilAt_46 rfl (by decide) ?_
              exact r_retz C dX12_spoilAt_47 rfl hR hF h
