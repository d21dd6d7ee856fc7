def F_X12_turnTo (M : vM) (a1 : Int32) (a2 : Int32) : Option (vM × Int32) := lt1 (mW M 0 ((0 : Int32))) fun M1 => b2 (F_X12_isReplica M1 (a1)) fun M2 v3 => if v3 = 0 then (zb ((0 : Int32)) (some (M2, (0 : Int32)))) else (b2 (F_X12_isReplica M2 (a1)) fun M4 v5 => jn (fun (s1_30 : Int32) => (mG M4 6 (s1_30)).bind fun v8 => if v8 = a2 then (zb ((0 : Int32)) (some (M4, (0 : Int32)))) else (if a2 = 0 then ((F_X12_goDown M4 (a1)).bind fun M9 => zb ((1 : Int32)) (some (M9, (1 : Int32)))) else (zb ((1 : Int32)) <| (mS M4 6 (a1) ((1 : Int32))).bind fun M10 => (F_X12_comeUp M10 (a1)).bind fun M11 => zb ((1 : Int32)) (some (M11, (1 : Int32)))))) (fun k30_6 => if v5 = 0 then ((k30_6 ((0 : Int32)))) else ((k30_6 (a1)))))

set_option maxRecDepth 100000 in
set_option maxHeartbeats 4000000 in
theorem p_X12_turnTo {M : vM} {R : (vM × Int32)} {a1 : Int32} {a2 : Int32} (h : F_X12_turnTo M a1 a2 = some R) {E : vE} {S0 : vS} {sz m b : Nat} (hR : RM S0 sz m b M) : vi_Met E yX12_turnTo cX12_turnTo 3 (some .boolean) 7 0 0 [.ref m, .int (a1), .int (a2)] S0 sz (Q1 S0 sz m b R) := by
  refine vi_met (by decide) (Nat.le_of_ble_eq_true rfl) ?_
  intro X C
  have hF := rF.refl S0 m b
  unfold F_X12_turnTo at h
  refine vi_aload_n C dX12_turnTo_0 rfl rfl ?_
  refine vi_iconst (v := 0) C dX12_turnTo_1 rfl (by decide) ?_
  refine r_puti C dX12_turnTo_2 rfl (fpX12_204 _) rfl hR hF h (fun S M1 h hR hF => ?_)
  refine vi_aload_n C dX12_turnTo_5 rfl rfl ?_
  refine vi_iload_n C dX12_turnTo_6 rfl rfl ?_
  refine r_cv1 C [.int (a1)] [] dX12_turnTo_7 rfl ivX12_207 imX12_isReplica rfl hR hF h (fun _ e => p_X12_isReplica e hR) rfl (Nat.le_of_ble_eq_true rfl) ⟨by decide, by decide⟩ ⟨Nat.le_refl _, Nat.le_refl _⟩ (fun S M2 v3 h hR hF => ?_)
  refine vi_if_eq (t' := 35) C dX12_turnTo_10 rfl (by decide) (fun c14 => ?_) (fun c14 => ?_)
  · replace h := iT c14 h
    refine vi_iconst (v := 0) C dX12_turnTo_35 rfl (by decide) ?_
    exact r_retz C dX12_turnTo_36 rfl hR hF h
  · replace h := iN c14 h
    refine vi_aload_n C dX12_turnTo_13 rfl rfl ?_
    refine r_geta C dX12_turnTo_14 rfl fX12_33 rfl hR rfl ?_
    refine vi_aload_n C dX12_turnTo_17 rfl rfl ?_
    refine vi_iload_n C dX12_turnTo_18 rfl rfl ?_
    refine r_cv1 C [.int (a1)] [.ref (b + 6)] dX12_turnTo_19 rfl ivX12_207 imX12_isReplica rfl hR hF h (fun _ e => p_X12_isReplica e hR) rfl (Nat.le_of_ble_eq_true rfl) ⟨by decide, by decide⟩ ⟨Nat.le_refl _, Nat.le_refl _⟩ (fun S M4 v5 h hR hF => ?_)
    refine r_jn h (fun k => ∀ (s1_30 : Int32), k s1_30 = some R → ∀ S, RM S sz m b M4 → rF S0 S m b → vi_W E X 3 (vi_Z E X (Q1 S0 sz m b R) 0 0) 30 [(0, .ref m), (1, .int (a1)), (2, .int (a2))] [.int (s1_30), .ref (b + 6)] S sz 0 0) ?_ ?_
    · intro s1_30 h S hR hF
      refine r_zaload C dX12_turnTo_30 rfl rfl hR h (fun v8 h => ?_)
      refine vi_iload_n C dX12_turnTo_31 rfl rfl ?_
      refine vi_icmp_ne (t' := 37) C dX12_turnTo_32 rfl (by decide) (fun c13 => ?_) (fun c13 => ?_)
      · replace h := iN c13 h
        refine vi_iload_n C dX12_turnTo_37 rfl rfl ?_
        refine vi_if_eq (t' := 56) C dX12_turnTo_38 rfl (by decide) (fun c12 => ?_) (fun c12 => ?_)
        · replace h := iT c12 h
          refine vi_aload_n C dX12_turnTo_56 rfl rfl ?_
          refine vi_iload_n C dX12_turnTo_57 rfl rfl ?_
          refine r_cv0 C [.int (a1)] [] dX12_turnTo_58 rfl ivX12_238 imX12_goDown rfl hR hF h (fun _ e => p_X12_goDown e hR) rfl (Nat.le_of_ble_eq_true rfl) ⟨by decide, by decide⟩ ⟨Nat.le_refl _, Nat.le_refl _⟩ (fun S M9 h hR hF => ?_)
          refine vi_iconst (v := 1) C dX12_turnTo_61 rfl (by decide) ?_
          exact r_retz C dX12_turnTo_62 rfl hR hF h
        · replace h := iN c12 h
          refine vi_aload_n C dX12_turnTo_41 rfl rfl ?_
          refine r_geta C dX12_turnTo_42 rfl fX12_33 rfl hR rfl ?_
          refine vi_iload_n C dX12_turnTo_45 rfl rfl ?_
          refine vi_iconst (v := 1) C dX12_turnTo_46 rfl (by decide) ?_
          refine r_zastore C dX12_turnTo_47 rfl rfl hR hF h (fun S M10 h hR hF => ?_)
          refine vi_aload_n C dX12_turnTo_48 rfl rfl ?_
          refine vi_iload_n C dX12_turnTo_49 rfl rfl ?_
          refine r_cv0 C [.int (a1)] [] dX12_turnTo_50 rfl ivX12_394 imX12_comeUp rfl hR hF h (fun _ e => p_X12_comeUp e hR) rfl (Nat.le_of_ble_eq_true rfl) ⟨by decide, by decide⟩ ⟨Nat.le_refl _, Nat.le_refl _⟩ (fun S M11 h hR hF => ?_)
          refine vi_goto (t' := 61) C dX12_turnTo_53 (by decide) ?_
          refine vi_iconst (v := 1) C dX12_turnTo_61 rfl (by decide) ?_
          exact r_retz C dX12_turnTo_62 rfl hR hF h
      · replace h := iT c13 h
        refine vi_iconst (v := 0) C dX12_turnTo_35 rfl (by decide) ?_
        exact r_retz C dX12_turnTo_36 rfl hR hF h
    · intro k30_6 h30_6 h
      refine vi_if_eq (t' := 29) C dX12_turnTo_22 rfl (by decide) (fun c7 => ?_) (fun c7 => ?_)
      · replace h := iT c7 h
        refine vi_iconst (v := 0) C dX12_turnTo_29 rfl (by decide) ?_
        exact vi_cut [(0, .ref m), (1, .int (a1)), (2, .int (a2))] ⟨rfl, rfl, rfl, trivial⟩ (h30_6 _ h _ hR hF)
      · replace h := iN c7 h
        refine vi_iload_n C dX12_turnTo_25 rfl rfl ?_
        refine vi_goto (t' := 30) C dX12_turnTo_26 (by decide) ?_
        exact vi_cut [(0, .ref m), (1, .int (a1)), (2, .int (a2))] ⟨rfl, rfl, rfl, trivial⟩ (h30_6 _ h _ hR hF)

def F_X12_crashAfter (M : vM) (a1 : Int32) (a2 : Int32) : Option (vM × Int32) := lt1 (mW M 0 ((0 : Int32))) fun M1 => b2 (F_X12_isUp M1 (a1)) fun M2 v3 => if v3 = 0 then (zb ((0 : Int32)) (some (M2, (0 : Int32)))) else (if a2 ≤ (1000 : Int32) then (if 0 ≤ a2 then ((mS M2 35 (a1) (a2)).bind fun M4 => zb ((1 : Int32)) (some (M4, (1 : Int32)))) else ((mS M2 35 (a1) ((-1 : Int32))).bind fun M5 => zb ((1 : Int32)) (some (M5, (1 : Int32))))) else (zb ((0 : Int32)) (some (M2, (0 : Int32)))))

set_option maxRecDepth 100000 in
set_option maxHeartbeats 4000000 in
theorem p_X12_crashAfter {M : vM} {R : (vM × Int32)} {a1 : Int32} {a2 : Int32} (h : F_X12_crashAfter M a1 a2 = some R) {E : vE} {S0 : vS} {sz m b : Nat} (hR : RM S0 sz m b M) : vi_Met E yX12_crashAfter cX12_crashAfter 3 (some .boolean) 2 0 0 [.ref m, .int (a1), .int (a2)] S0 sz (Q1 S0 sz m b R) := by
  refine vi_met (by decide) (Nat.le_of_ble_eq_true rfl) ?_
  intro X C
  have hF := rF.refl S0 m b
  unfold F_X12_crashAfter at h
  refine vi_aload_n C dX12_crashAfter_0 rfl rfl ?_
  refine vi_iconst (v := 0) C dX12_crashAfter_1 rfl (by decide) ?_
  refine r_puti C dX12_crashAfter_2 rfl (fpX12_204 _) rfl hR hF h (fun S M1 h hR hF => ?_)
  refine vi_aload_n C dX12_crashAfter_5 rfl rfl ?_
  refine vi_iload_n C dX12_crashAfter_6 rfl rfl ?_
  refine r_cv1 C [.int (a1)] [] dX12_crashAfter_7 rfl ivX12_373 imX12_isUp rfl hR hF h (fun _ e => p_X12_isUp e hR) rfl (Nat.le_of_ble_eq_true rfl) ⟨by decide, by decide⟩ ⟨Nat.le_refl _, Nat.le_refl _⟩ (fun S M2 v3 h hR hF => ?_)
  refine vi_if_eq (t' := 20) C dX12_crashAfter_10 rfl (by decide) (fun c8 => ?_) (fun c8 => ?_)
  · replace h := iT c8 h
    refine vi_iconst (v := 0) C dX12_crashAfter_20 rfl (by decide) ?_
    exact r_retz C dX12_crashAfter_21 rfl hR hF h
  · replace h := iN c8 h
    refine vi_iload_n C dX12_crashAfter_13 rfl rfl ?_
    refine vi_sipush (v := 1000) C dX12_crashAfter_14 rfl (by decide) ?_
    refine vi_icmp_le (t' := 22) C dX12_crashAfter_17 rfl (by decide) (fun c7 => ?_) (fun c7 => ?_)
    · replace h := iT c7 h
      refine vi_aload_n C dX12_crashAfter_22 rfl rfl ?_
      refine r_geta C dX12_crashAfter_23 rfl fX12_122 rfl hR rfl ?_
      refine vi_iload_n C dX12_crashAfter_26 rfl rfl ?_
      refine vi_iload_n C dX12_crashAfter_27 rfl rfl ?_
      refine vi_if_ge (t' := 35) C dX12_crashAfter_28 rfl (by decide) (fun c6 => ?_) (fun c6 => ?_)
      · replace h := iT c6 h
        refine vi_iload_n C dX12_crashAfter_35 rfl rfl ?_
        refine r_iastore C dX12_crashAfter_36 rfl rfl hR hF h (fun S M4 h hR hF => ?_)
        refine vi_iconst (v := 1) C dX12_crashAfter_37 rfl (by decide) ?_
        exact r_retz C dX12_crashAfter_38 rfl hR hF h
      · replace h := iN c6 h
        refine vi_iconst (v := -1) C dX12_crashAfter_31 rfl (by decide) ?_
        refine vi_goto (t' := 36) C dX12_crashAfter_32 (by decide) ?_
        refine r_iastore C dX12_crashAfter_36 rfl rfl hR hF h (fun S M5 h hR hF => ?_)
        refine vi_iconst (v := 1) C dX12_crashAfter_37 rfl (by decide) ?_
        exact r_retz C dX12_crashAfter_38 rfl hR hF h
    · replace h := iN c7 h
      refine vi_iconst (v := 0) C dX12_crashAfter_20 rfl (by decide) ?_
      exact r_retz C dX12_crashAfter_21 rfl hR hF h

def F_X12_replicaOf (M : vM) (a1 : Int32) (a2 : Int32) : Option (vM × Int32) := lt1 (mW M 0 ((0 : Int32))) fun M1 => b2 (F_X12_isReplica M1 (a1)) fun M2 v3 => if v3 = 0 then (some (M2, (-1 : Int32))) else (if a2 < 0 then (some (M2, (-1 : Int32))) else (if (14 : Int32) < a2 then (some (M2, (-1 : Int32))) else (jn (fun (M13 : vM) => if a2 = 0 then ((mG M13 6 (a1)).bind fun v15 => if v15 = 0 then (some (M13, (0 : Int32))) else (some (M13, (1 : Int32)))) else if a2 = 1 then ((mG M13 7 (a1)).bind fun v18 => some (M13, v18)) else if a2 = 2 then ((mG M13 8 (a1)).bind fun v20 => some (M13, v20)) else if a2 = 3 then ((mG M13 9 (a1)).bind fun v22 => some (M13, v22)) else if a2 = 4 then ((mG M13 10 (a1)).bind fun v24 => some (M13, v24)) else if a2 = 5 then ((mG M13 12 (a1)).bind fun v26 => if v26 ≤ 0 then (some (M13, (-1 : Int32))) else ((mG M13 11 (a1)).bind fun v27 => some (M13, v27))) else if a2 = 6 then ((mG M13 19 (a1)).bind fun v30 => some (M13, v30)) else if a2 = 7 then ((mG M13 20 (a1)).bind fun v32 => some (M13, v32)) else if a2 = 8 then ((mG M13 19 (a1)).bind fun v34 => if v34 = (2 : Int32) then ((mG M13 22 (a1)).bind fun v36 => if v36 = 0 then (some (M13, (0 : Int32))) else ((mG M13 21 (a1)).bind fun v37 => some (M13, v37))) else ((mG M13 21 (a1)).bind fun v35 => some (M13, v35))) else if a2 = 9 then ((mG M13 25 (a1)).bind fun v41 => some (M13, v41)) else if a2 = 10 then ((mG M13 27 (a1)).bind fun v43 => some (M13, v43)) else if a2 = 11 then ((mG M13 22 (a1)).bind fun v45 => if v45 ≤ 0 then (some (M13, (-1 : Int32))) else ((mG M13 22 (a1)).bind fun v46 => (mG M13 0 (v46)).bind fun v47 => some (M13, v47))) else if a2 = 12 then ((mG M13 13 (a1)).bind fun v50 => some (M13, v50)) else if a2 = 13 then ((mG M13 43 (a1)).bind fun v52 => if v52 ≤ 0 then (some (M13, (-1 : Int32))) else ((mG M13 43 (a1)).bind fun v53 => some (M13, v53))) else ((mG M13 44 (a1)).bind fun v56 => some (M13, v56))) (fun k50_4 => if a2 ≤ 0 then ((k50_4 (M2))) else (b2 (F_X12_isReplica M2 (a1)) fun M5 v6 => if v6 = 0 then ((mG M5 6 ((0 : Int32))).bind fun v7 => if v7 = 0 then (some (M5, (-1 : Int32))) else ((k50_4 (M5)))) else ((mG M5 6 (a1)).bind fun v9 => if v9 = 0 then (some (M5, (-1 : Int32))) else ((k50_4 (M5)))))))))

set_option maxRecDepth 100000 in
set_option maxHeartbeats 4000000 in
theorem p_X12_replicaOf {M : vM} {R : (vM × Int32)} {a1 : Int32} {a2 : Int32} (h : F_X12_replicaOf M a1 a2 = some R) {E : vE} {S0 : vS} {sz m b : Nat} (hR : RM S0 sz m b M) : vi_Met E yX12_replicaOf cX12_replicaOf 3 (some .int) 1 0 0 [.ref m, .int (a1), .int (a2)] S0 sz (Q1 S0 sz m b R) := by
  refine vi_met (by decide) (Nat.le_of_ble_eq_true rfl) ?_
  intro X C
  have hF := rF.refl S0 m b
  unfold F_X12_replicaOf at h
  refine vi_aload_n C dX12_replicaOf_0 rfl rfl ?_
  refine vi_iconst (v := 0) C dX12_replicaOf_1 rfl (by decide) ?_
  refine r_puti C dX12_replicaOf_2 rfl (fpX12_204 _) rfl hR hF h (fun S M1 h hR hF => ?_)
  refine vi_aload_n C dX12_replicaOf_5 rfl rfl ?_
  refine vi_iload_n C dX12_replicaOf_6 rfl rfl ?_
  refine r_cv1 C [.int (a1)] [] dX12_replicaOf_7 rfl ivX12_207 imX12_isReplica rfl hR hF h (fun _ e => p_X12_isReplica e hR) rfl (Nat.le_of_ble_eq_true rfl) ⟨by decide, by decide⟩ ⟨Nat.le_refl _, Nat.le_refl _⟩ (fun S M2 v3 h hR hF => ?_)
  refine vi_if_eq (t' := 48) C dX12_replicaOf_10 rfl (by decide) (fun c59 => ?_) (fun c59 => ?_)
  · replace h := iT c59 h
    refine vi_iconst (v := -1) C dX12_replicaOf_48 rfl (by decide) ?_
    exact r_ret1 C dX12_replicaOf_49 rfl hR hF h
  · replace h := iN c59 h
    refine vi_iload_n C dX12_replicaOf_13 rfl rfl ?_
    refine vi_if_lt (t' := 48) C dX12_replicaOf_14 rfl (by decide) (fun c58 => ?_) (fun c58 => ?_)
    · replace h := iT c58 h
      refine vi_iconst (v := -1) C dX12_replicaOf_48 rfl (by decide) ?_
      exact r_ret1 C dX12_replicaOf_49 rfl hR hF h
    · replace h := iN c58 h
      refine vi_iload_n C dX12_replicaOf_17 rfl rfl ?_
      refine vi_bipush (v := 14) C dX12_replicaOf_18 rfl (by decide) ?_
      refine vi_icmp_gt (t' := 48) C dX12_replicaOf_20 rfl (by decide) (fun c57 => ?_) (fun c57 => ?_)
      · replace h := iT c57 h
        refine vi_iconst (v := -1) C dX12_replicaOf_48 rfl (by decide) ?_
        exact r_ret1 C dX12_replicaOf_49 rfl hR hF h
      · replace h := iN c57 h
        refine vi_iload_n C dX12_replicaOf_23 rfl rfl ?_
        refine r_jn h (fun k => ∀ (M13 : vM), k M13 = some R → ∀ S, RM S sz m b M13 → rF S0 S m b → vi_W E X 3 (vi_Z E X (Q1 S0 sz m b R) 0 0) 50 [(0, .ref m), (1, .int (a1)), (2, .int (a2))] [] S sz 0 0) ?_ ?_
        · intro M13 h S hR hF
          refine vi_iload_n C dX12_replicaOf_50 rfl rfl ?_
          by_cases c17 : a2 = 0
          · replace h := iT c17 h
            refine vi_tswI (v := 0) (t' := 120) C c17 dX12_replicaOf_51 (by decide) (by decide) rfl (by decide) ?_
            refine vi_aload_n C dX12_replicaOf_120 rfl rfl ?_
            refine r_geta C dX12_replicaOf_121 rfl fX12_33 rfl hR rfl ?_
            refine vi_iload_n C dX12_replicaOf_124 rfl rfl ?_
            refine r_zaload C dX12_replicaOf_125 rfl rfl hR h (fun v15 h => ?_)
            refine vi_if_eq (t' := 133) C dX12_replicaOf_126 rfl (by decide) (fun c16 => ?_) (fun c16 => ?_)
            · replace h := iT c16 h
              refine vi_iconst (v := 0) C dX12_replicaOf_133 rfl (by decide) ?_
              exact r_ret1 C dX12_replicaOf_134 rfl hR hF h
            · replace h := iN c16 h
              refine vi_iconst (v := 1) C dX12_replicaOf_129 rfl (by decide) ?_
              refine vi_goto (t' := 134) C dX12_replicaOf_130 (by decide) ?_
              exact r_ret1 C dX12_replicaOf_134 rfl hR hF h
          replace h := iN c17 h
          by_cases c19 : a2 = 1
          · replace h := iT c19 h
            refine vi_tswI (v := 1) (t' := 135) C c19 dX12_replicaOf_51 (by decide) (by decide) rfl (by decide) ?_
            refine vi_aload_n C dX12_replicaOf_135 rfl rfl ?_
            refine r_geta C dX12_replicaOf_136 rfl fX12_37 rfl hR rfl ?_
            refine vi_iload_n C dX12_replicaOf_139 rfl rfl ?_
            refine r_iaload C dX12_replicaOf_140 rfl rfl hR h (fun v18 h => ?_)
            exact r_ret1 C dX12_replicaOf_141 rfl hR hF h
          replace h := iN c19 h
          by_cases c21 : a2 = 2
          · replace h := iT c21 h
            refine vi_tswI (v := 2) (t' := 142) C c21 dX12_replicaOf_51 (by decide) (by decide) rfl (by decide) ?_
            refine vi_aload_n C dX12_replicaOf_142 rfl rfl ?_
            refine r_geta C dX12_replicaOf_143 rfl fX12_40 rfl hR rfl ?_
            refine vi_iload_n C dX12_replicaOf_146 rfl rfl ?_
            refine r_iaload C dX12_replicaOf_147 rfl rfl hR h (fun v20 h => ?_)
            exact r_ret1 C dX12_replicaOf_148 rfl hR hF h
          replace h := iN c21 h
          by_cases c23 : a2 = 3
          · replace h := iT c23 h
            refine vi_tswI (v := 3) (t' := 149) C c23 dX12_replicaOf_51 (by decide) (by decide) rfl (by decide) ?_
            refine vi_aload_n C dX12_replicaOf_149 rfl rfl ?_
            refine r_geta C dX12_replicaOf_150 rfl fX12_43 rfl hR rfl ?_
            refine vi_iload_n C dX12_replicaOf_153 rfl rfl ?_
            refine r_iaload C dX12_replicaOf_154 rfl rfl hR h (fun v22 h => ?_)
            exact r_ret1 C dX12_replicaOf_155 rfl hR hF h
          replace h := iN c23 h
          by_cases c25 : a2 = 4
          · replace h := iT c25 h
            refine vi_tswI (v := 4) (t' := 156) C c25 dX12_replicaOf_51 (by decide) (by decide) rfl (by decide) ?_
            refine vi_aload_n C dX12_replicaOf_156 rfl rfl ?_
            refine r_geta C dX12_replicaOf_157 rfl fX12_46 rfl hR rfl ?_
            refine vi_iload_n C dX12_replicaOf_160 rfl rfl ?_
            refine r_iaload C dX12_replicaOf_161 rfl rfl hR h (fun v24 h => ?_)
            exact r_ret1 C dX12_replicaOf_162 rfl hR hF h
          replace h := iN c25 h
          by_cases c29 : a2 = 5
          · replace h := iT c29 h
            refine vi_tswI (v := 5) (t' := 163) C c29 dX12_replicaOf_51 (by decide) (by decide) rfl (by decide) ?_
            refine vi_aload_n C dX12_replicaOf_163 rfl rfl ?_
            refine r_geta C dX12_replicaOf_164 rfl fX12_52 rfl hR rfl ?_
            refine vi_iload_n C dX12_replicaOf_167 rfl rfl ?_
            refine r_iaload C dX12_replicaOf_168 rfl rfl hR h (fun v26 h => ?_)
            refine vi_if_le (t' := 181) C dX12_replicaOf_169 rfl (by decide) (fun c28 => ?_) (fun c28 => ?_)
            · replace h := iT c28 h
              refine vi_iconst (v := -1) C dX12_replicaOf_181 rfl (by decide) ?_
              exact r_ret1 C dX12_replicaOf_182 rfl hR hF h
            · replace h := iN c28 h
              refine vi_aload_n C dX12_replicaOf_172 rfl rfl ?_
              refine r_geta C dX12_replicaOf_173 rfl fX12_49 rfl hR rfl ?_
              refine vi_iload_n C dX12_replicaOf_176 rfl rfl ?_
              refine r_iaload C dX12_replicaOf_177 rfl rfl hR h (fun v27 h => ?_)
              refine vi_goto (t' := 182) C dX12_replicaOf_178 (by decide) ?_
              exact r_ret1 C dX12_replicaOf_182 rfl hR hF h
          replace h := iN c29 h
          by_cases c31 : a2 = 6
          · replace h := iT c31 h
            refine vi_tswI (v := 6) (t' := 183) C c31 dX12_replicaOf_51 (by decide) (by decide) rfl (by decide) ?_
            refine vi_aload_n C dX12_replicaOf_183 rfl rfl ?_
            refine r_geta C dX12_replicaOf_184 rfl fX12_73 rfl hR rfl ?_
            refine vi_iload_n C dX12_replicaOf_187 rfl rfl ?_
            refine r_iaload C dX12_replicaOf_188 rfl rfl hR h (fun v30 h => ?_)
            exact r_ret1 C dX12_replicaOf_189 rfl hR hF h
          replace h := iN c31 h
          by_cases c33 : a2 = 7
          · replace h := iT c33 h
            refine vi_tswI (v := 7) (t' := 190) C c33 dX12_replicaOf_51 (by decide) (by decide) rfl (by decide) ?_
            refine vi_aload_n C dX12_replicaOf_190 rfl rfl ?_
            refine r_geta C dX12_replicaOf_191 rfl fX12_76 rfl hR rfl ?_
            refine vi_iload_n C dX12_replicaOf_194 rfl rfl ?_
            refine r_iaload C dX12_replicaOf_195 rfl rfl hR h (fun v32 h => ?_)
            exact r_ret1 C dX12_replicaOf_196 rfl hR hF h
          replace h := iN c33 h
          by_cases c40 : a2 = 8
          · replace h := iT c40 h
            refine vi_tswI (v := 8) (t' := 197) C c40 dX12_replicaOf_51 (by decide) (by decide) rfl (by decide) ?_
            refine vi_aload_n C dX12_replicaOf_197 rfl rfl ?_
            refine r_geta C dX12_replicaOf_198 rfl fX12_73 rfl hR rfl ?_
            refine vi_iload_n C dX12_replicaOf_201 rfl rfl ?_
            refine r_iaload C dX12_replicaOf_202 rfl rfl hR h (fun v34 h => ?_)
            refine vi_iconst (v := 2) C dX12_replicaOf_203 rfl (by decide) ?_
            refine vi_icmp_ne (t' := 220) C dX12_replicaOf_204 rfl (by decide) (fun c39 => ?_) (fun c39 => ?_)
            · replace h := iN c39 h
              refine vi_aload_n C dX12_replicaOf_220 rfl rfl ?_
              refine r_geta C dX12_replicaOf_221 rfl fX12_79 rfl hR rfl ?_
              refine vi_iload_n C dX12_replicaOf_224 rfl rfl ?_
              refine r_iaload C dX12_replicaOf_225 rfl rfl hR h (fun v35 h => ?_)
              exact r_ret1 C dX12_replicaOf_226 rfl hR hF h
            · replace h := iT c39 h
              refine vi_aload_n C dX12_replicaOf_207 rfl rfl ?_
              refine r_geta C dX12_replicaOf_208 rfl fX12_82 rfl hR rfl ?_
              refine vi_iload_n C dX12_replicaOf_211 rfl rfl ?_
              refine r_iaload C dX12_replicaOf_212 rfl rfl hR h (fun v36 h => ?_)
              refine vi_if_ne (t' := 220) C dX12_replicaOf_213 rfl (by decide) (fun c38 => ?_) (fun c38 => ?_)
              · replace h := iN c38 h
                refine vi_aload_n C dX12_replicaOf_220 rfl rfl ?_
                refine r_geta C dX12_replicaOf_221 rfl fX12_79 rfl hR rfl ?_
                refine vi_iload_n C dX12_replicaOf_224 rfl rfl ?_
                refine r_iaload C dX12_replicaOf_225 rfl rfl hR h (fun v37 h => ?_)
                exact r_ret1 C dX12_replicaOf_226 rfl hR hF h
              · replace h := iT c38 h
                refine vi_iconst (v := 0) C dX12_replicaOf_216 rfl (by decide) ?_
                refine vi_goto (t' := 226) C dX12_replicaOf_217 (by decide) ?_
                exact r_ret1 C dX12_replicaOf_226 rfl hR hF h
          replace h := iN c40 h
          by_cases c42 : a2 = 9
          · replace h := iT c42 h
            refine vi_tswI (v := 9) (t' := 227) C c42 dX12_replicaOf_51 (by decide) (by decide) rfl (by decide) ?_
            refine vi_aload_n C dX12_replicaOf_227 rfl rfl ?_
            refine r_geta C dX12_replicaOf_228 rfl fX12_91 rfl hR rfl ?_
            refine vi_iload_n C dX12_replicaOf_231 rfl rfl ?_
            refine r_iaload C dX12_replicaOf_232 rfl rfl hR h (fun v41 h => ?_)
            exact r_ret1 C dX12_replicaOf_233 rfl hR hF h
          replace h := iN c42 h
          by_cases c44 : a2 = 10
          · replace h := iT c44 h
            refine vi_tswI (v := 10) (t' := 234) C c44 dX12_replicaOf_51 (by decide) (by decide) rfl (by decide) ?_
            refine vi_aload_n C dX12_replicaOf_234 rfl rfl ?_
            refine r_geta C dX12_replicaOf_235 rfl fX12_97 rfl hR rfl ?_
            refine vi_iload_n C dX12_replicaOf_238 rfl rfl ?_
            refine r_iaload C dX12_replicaOf_239 rfl rfl hR h (fun v43 h => ?_)
            exact r_ret1 C dX12_replicaOf_240 rfl hR hF h
          replace h := iN c44 h
          by_cases c49 : a2 = 11
          · replace h := iT c49 h
            refine vi_tswI (v := 11) (t' := 241) C c49 dX12_replicaOf_51 (by decide) (by decide) rfl (by decide) ?_
            refine vi_aload_n C dX12_replicaOf_241 rfl rfl ?_
            refine r_geta C dX12_replicaOf_242 rfl fX12_82 rfl hR rfl ?_
            refine vi_iload_n C dX12_replicaOf_245 rfl rfl ?_
            refine r_iaload C dX12_replicaOf_246 rfl rfl hR h (fun v45 h => ?_)
            refine vi_if_le (t' := 264) C dX12_replicaOf_247 rfl (by decide) (fun c48 => ?_) (fun c48 => ?_)
            · replace h := iT c48 h
              refine vi_iconst (v := -1) C dX12_replicaOf_264 rfl (by decide) ?_
              exact r_ret1 C dX12_replicaOf_265 rfl hR hF h
            · replace h := iN c48 h
              refine vi_aload_n C dX12_replicaOf_250 rfl rfl ?_
              refine r_geta C dX12_replicaOf_251 rfl fX12_13 rfl hR rfl ?_
              refine vi_aload_n C dX12_replicaOf_254 rfl rfl ?_
              refine r_geta C dX12_replicaOf_255 rfl fX12_82 rfl hR rfl ?_
              refine vi_iload_n C dX12_replicaOf_258 rfl rfl ?_
              refine r_iaload C dX12_replicaOf_259 rfl rfl hR h (fun v46 h => ?_)
              refine r_iaload C dX12_replicaOf_260 rfl rfl hR h (fun v47 h => ?_)
              refine vi_goto (t' := 265) C dX12_replicaOf_261 (by decide) ?_
              exact r_ret1 C dX12_replicaOf_265 rfl hR hF h
          replace h := iN c49 h
          by_cases c51 : a2 = 12
          · replace h := iT c51 h
            refine vi_tswI (v := 12) (t' := 266) C c51 dX12_replicaOf_51 (by decide) (by decide) rfl (by decide) ?_
            refine vi_aload_n C dX12_replicaOf_266 rfl rfl ?_
            refine r_geta C dX12_replicaOf_267 rfl fX12_55 rfl hR rfl ?_
            refine vi_iload_n C dX12_replicaOf_270 rfl rfl ?_
            refine r_iaload C dX12_replicaOf_271 rfl rfl hR h (fun v50 h => ?_)
            exact r_ret1 C dX12_replicaOf_272 rfl hR hF h
          replace h := iN c51 h
          by_cases c55 : a2 = 13
          · replace h := iT c55 h
            refine vi_tswI (v := 13) (t' := 273) C c55 dX12_replicaOf_51 (by decide) (by decide) rfl (by decide) ?_
            refine vi_aload_n C dX12_replicaOf_273 rfl rfl ?_
            refine r_geta C dX12_replicaOf_274 rfl fX12_148 rfl hR rfl ?_
            refine vi_iload_n C dX12_replicaOf_277 rfl rfl ?_
            refine r_iaload C dX12_replicaOf_278 rfl rfl hR h (fun v52 h => ?_)
            refine vi_if_le (t' := 291) C dX12_replicaOf_279 rfl (by decide) (fun c54 => ?_) (fun c54 => ?_)
            · replace h := iT c54 h
              refine vi_iconst (v := -1) C dX12_replicaOf_291 rfl (by decide) ?_
              exact r_ret1 C dX12_replicaOf_292 rfl hR hF h
            · replace h := iN c54 h
              refine vi_aload_n C dX12_replicaOf_282 rfl rfl ?_
              refine r_geta C dX12_replicaOf_283 rfl fX12_148 rfl hR rfl ?_
              refine vi_iload_n C dX12_replicaOf_286 rfl rfl ?_
              refine r_iaload C dX12_replicaOf_287 rfl rfl hR h (fun v53 h => ?_)
              refine vi_goto (t' := 292) C dX12_replicaOf_288 (by decide) ?_
              exact r_ret1 C dX12_replicaOf_292 rfl hR hF h
          replace h := iN c55 h
          have tc17 := tne (w := 0) c17 (by decide)
          have tc19 := tne (w := 1) c19 (by decide)
          have tc21 := tne (w := 2) c21 (by decide)
          have tc23 := tne (w := 3) c23 (by decide)
          have tc25 := tne (w := 4) c25 (by decide)
          have tc29 := tne (w := 5) c29 (by decide)
          have tc31 := tne (w := 6) c31 (by decide)
          have tc33 := tne (w := 7) c33 (by decide)
          have tc40 := tne (w := 8) c40 (by decide)
          have tc42 := tne (w := 9) c42 (by decide)
          have tc44 := tne (w := 10) c44 (by decide)
          have tc49 := tne (w := 11) c49 (by decide)
          have tc51 := tne (w := 12) c51 (by decide)
          have tc55 := tne (w := 13) c55 (by decide)
          refine vi_tswO (t' := 293) C dX12_replicaOf_51 (by omega) (by decide) ?_
          refine vi_aload_n C dX12_replicaOf_293 rfl rfl ?_
          refine r_geta C dX12_replicaOf_294 rfl fX12_151 rfl hR rfl ?_
          refine vi_iload_n C dX12_replicaOf_297 rfl rfl ?_
          refine r_iaload C dX12_replicaOf_298 rfl rfl hR h (fun v56 h => ?_)
          exact r_ret1 C dX12_replicaOf_299 rfl hR hF h
        · intro k50_4 h50_4 h
          refine vi_if_le (t' := 50) C dX12_replicaOf_24 rfl (by decide) (fun c12 => ?_) (fun c12 => ?_)
          · replace h := iT c12 h
            exact vi_cut [(0, .ref m), (1, .int (a1)), (2, .int (a2))] ⟨rfl, rfl, rfl, trivial⟩ (h50_4 _ h _ hR hF)
          · replace h := iN c12 h
            refine vi_aload_n C dX12_replicaOf_27 rfl rfl ?_
            refine r_geta C dX12_replicaOf_28 rfl fX12_33 rfl hR rfl ?_
            refine vi_aload_n C dX12_replicaOf_31 rfl rfl ?_
            refine vi_iload_n C dX12_replicaOf_32 rfl rfl ?_
            refine r_cv1 C [.int (a1)] [.ref (b + 6)] dX12_replicaOf_33 rfl ivX12_207 imX12_isReplica rfl hR hF h (fun _ e => p_X12_isReplica e hR) rfl (Nat.le_of_ble_eq_true rfl) ⟨by decide, by decide⟩ ⟨Nat.le_refl _, Nat.le_refl _⟩ (fun S M5 v6 h hR hF => ?_)
            refine vi_if_eq (t' := 43) C dX12_replicaOf_36 rfl (by decide) (fun c11 => ?_) (fun c11 => ?_)
            · replace h := iT c11 h
              refine vi_iconst (v := 0) C dX12_replicaOf_43 rfl (by decide) ?_
              refine r_zaload C dX12_replicaOf_44 rfl rfl hR h (fun v7 h => ?_)
              refine vi_if_ne (t' := 50) C dX12_replicaOf_45 rfl (by decide) (fun c8 => ?_) (fun c8 => ?_)
              · replace h := iN c8 h
                exact vi_cut [(0, .ref m), (1, .int (a1)), (2, .int (a2))] ⟨rfl, rfl, rfl, trivial⟩ (h50_4 _ h _ hR hF)
              · replace h := iT c8 h
                refine vi_iconst (v := -1) C dX12_replicaOf_48 rfl (by decide) ?_
                exact r_ret1 C dX12_replicaOf_49 rfl hR hF h
            · replace h := iN c11 h
              refine vi_iload_n C dX12_replicaOf_39 rfl rfl ?_
              refine vi_goto (t' := 44) C dX12_replicaOf_40 (by decide) ?_
              refine r_zaload C dX12_replicaOf_44 rfl rfl hR h (fun v9 h => ?_)
              refine vi_if_ne (t' := 50) C dX12_replicaOf_45 rfl (by decide) (fun c10 => ?_) (fun c10 => ?_)
              · replace h := iN c10 h
                exact vi_cut [(0, .ref m), (1, .int (a1)), (2, .int (a2))] ⟨rfl, rfl, rfl, trivial⟩ (h50_4 _ h _ hR hF)
              · replace h := iT c10 h
                refine vi_iconst (v := -1) C dX12_replicaOf_48 rfl (by decide) ?_
                exact r_ret1 C dX12_replicaOf_49 rfl hR hF h

def F_X12_journalOf (M : vM) (a1 : Int32) (a2 : Int32) : Option (vM × Int32) := lt1 (mW M 0 ((0 : Int32))) fun M1 => b2 (F_X12_isReplica M1 (a1)) fun M2 v3 => if v3 = 0 then (some (M2, (-1 : Int32))) else (jn (fun (M13 : vM) => if a2 = 0 then ((mG M13 30 (a1)).bind fun v15 => some (M13, v15)) else if a2 = 1 then ((mG M13 31 (a1)).bind fun v17 => some (M13, v17)) else if a2 = 2 then ((mG M13 32 (a1)).bind fun v19 => some (M13, v19)) else if a2 = 3 then ((mG M13 33 (a1)).bind fun v21 => some (M13, v21)) else if a2 = 4 then ((mG M13 34 (a1)).bind fun v23 => some (M13, v23)) else if a2 = 5 then ((mG M13 35 (a1)).bind fun v25 => some (M13, v25)) else (some (M13, (-1 : Int32)))) (fun k41_4 => if (4 : Int32) ≤ a2 then ((k41_4 (M2))) else (b2 (F_X12_isReplica M2 (a1)) fun M5 v6 => if v6 = 0 then ((mG M5 6 ((0 : Int32))).bind fun v7 => if v7 = 0 then (some (M5, (-1 : Int32))) else ((k41_4 (M5)))) else ((mG M5 6 (a1)).bind fun v9 => if v9 = 0 then (some (M5, (-1 : Int32))) else ((k41_4 (M5)))))))

set_option maxRecDepth 100000 in
set_option maxHeartbeats 4000000 in
theorem p_X12_journalOf {M : vM} {R : (vM × Int32)} {a1 : Int32} {a2 : Int32} (h : F_X12_journalOf M a1 a2 = some R) {E : vE} {S0 : vS} {sz m b : Nat} (hR : RM S0 sz m b M) : vi_Met E yX12_journalOf cX12_journalOf 3 (some .int) 1 0 0 [.ref m, .int (a1), .int (a2)] S0 sz (Q1 S0 sz m b R) := by
  refine vi_met (by decide) (Nat.le_of_ble_eq_true rfl) ?_
  intro X C
  have hF := rF.refl S0 m b
  unfold F_X12_journalOf at h
  refine vi_aload_n C dX12_journalOf_0 rfl rfl ?_
  refine vi_iconst (v := 0) C dX12_journalOf_1 rfl (by decide) ?_
  refine r_puti C dX12_journalOf_2 rfl (fpX12_204 _) rfl hR hF h (fun S M1 h hR hF => ?_)
  refine vi_aload_n C dX12_journalOf_5 rfl rfl ?_
  refine vi_iload_n C dX12_journalOf_6 rfl rfl ?_
  refine r_cv1 C [.int (a1)] [] dX12_journalOf_7 rfl ivX12_207 imX12_isReplica rfl hR hF h (fun _ e => p_X12_isReplica e hR) rfl (Nat.le_of_ble_eq_true rfl) ⟨by decide, by decide⟩ ⟨Nat.le_refl _, Nat.le_refl _⟩ (fun S M2 v3 h hR hF => ?_)
  refine vi_if_eq (t' := 39) C dX12_journalOf_10 rfl (by decide) (fun c27 => ?_) (fun c27 => ?_)
  · replace h := iT c27 h
    refine vi_iconst (v := -1) C dX12_journalOf_39 rfl (by decide) ?_
    exact r_ret1 C dX12_journalOf_40 rfl hR hF h
  · replace h := iN c27 h
    refine vi_iload_n C dX12_journalOf_13 rfl rfl ?_
    refine vi_iconst (v := 4) C dX12_journalOf_14 rfl (by decide) ?_
    refine r_jn h (fun k => ∀ (M13 : vM), k M13 = some R → ∀ S, RM S sz m b M13 → rF S0 S m b → vi_W E X 3 (vi_Z E X (Q1 S0 sz m b R) 0 0) 41 [(0, .ref m), (1, .int (a1)), (2, .int (a2))] [] S sz 0 0) ?_ ?_
    · intro M13 h S hR hF
      refine vi_iload_n C dX12_journalOf_41 rfl rfl ?_
      by_cases c16 : a2 = 0
      · replace h := iT c16 h
        refine vi_tswI (v := 0) (t' := 80) C c16 dX12_journalOf_42 (by decide) (by decide) rfl (by decide) ?_
        refine vi_aload_n C dX12_journalOf_80 rfl rfl ?_
        refine r_geta C dX12_journalOf_81 rfl fX12_107 rfl hR rfl ?_
        refine vi_iload_n C dX12_journalOf_84 rfl rfl ?_
        refine r_iaload C dX12_journalOf_85 rfl rfl hR h (fun v15 h => ?_)
        exact r_ret1 C dX12_journalOf_86 rfl hR hF h
      replace h := iN c16 h
      by_cases c18 : a2 = 1
      · replace h := iT c18 h
        refine vi_tswI (v := 1) (t' := 87) C c18 dX12_journalOf_42 (by decide) (by decide) rfl (by decide) ?_
        refine vi_aload_n C dX12_journalOf_87 rfl rfl ?_
        refine r_geta C dX12_journalOf_88 rfl fX12_110 rfl hR rfl ?_
        refine vi_iload_n C dX12_journalOf_91 rfl rfl ?_
        refine r_iaload C dX12_journalOf_92 rfl rfl hR h (fun v17 h => ?_)
        exact r_ret1 C dX12_journalOf_93 rfl hR hF h
      replace h := iN c18 h
      by_cases c20 : a2 = 2
      · replace h := iT c20 h
        refine vi_tswI (v := 2) (t' := 94) C c20 dX12_journalOf_42 (by decide) (by decide) rfl (by decide) ?_
        refine vi_aload_n C dX12_journalOf_94 rfl rfl ?_
        refine r_geta C dX12_journalOf_95 rfl fX12_113 rfl hR rfl ?_
        refine vi_iload_n C dX12_journalOf_98 rfl rfl ?_
        refine r_iaload C dX12_journalOf_99 rfl rfl hR h (fun v19 h => ?_)
        exact r_ret1 C dX12_journalOf_100 rfl hR hF h
      replace h := iN c20 h
      by_cases c22 : a2 = 3
      · replace h := iT c22 h
        refine vi_tswI (v := 3) (t' := 101) C c22 dX12_journalOf_42 (by decide) (by decide) rfl (by decide) ?_
        refine vi_aload_n C dX12_journalOf_101 rfl rfl ?_
        refine r_geta C dX12_journalOf_102 rfl fX12_116 rfl hR rfl ?_
        refine vi_iload_n C dX12_journalOf_105 rfl rfl ?_
        refine r_iaload C dX12_journalOf_106 rfl rfl hR h (fun v21 h => ?_)
        exact r_ret1 C dX12_journalOf_107 rfl hR hF h
      replace h := iN c22 h
      by_cases c24 : a2 = 4
      · replace h := iT c24 h
        refine vi_tswI (v := 4) (t' := 108) C c24 dX12_journalOf_42 (by decide) (by decide) rfl (by decide) ?_
        refine vi_aload_n C dX12_journalOf_108 rfl rfl ?_
        refine r_geta C dX12_journalOf_109 rfl fX12_119 rfl hR rfl ?_
        refine vi_iload_n C dX12_journalOf_112 rfl rfl ?_
        refine r_iaload C dX12_journalOf_113 rfl rfl hR h (fun v23 h => ?_)
        exact r_ret1 C dX12_journalOf_114 rfl hR hF h
      replace h := iN c24 h
      by_cases c26 : a2 = 5
      · replace h := iT c26 h
        refine vi_tswI (v := 5) (t' := 115) C c26 dX12_journalOf_42 (by decide) (by decide) rfl (by decide) ?_
        refine vi_aload_n C dX12_journalOf_115 rfl rfl ?_
        refine r_geta C dX12_journalOf_116 rfl fX12_122 rfl hR rfl ?_
        refine vi_iload_n C dX12_journalOf_119 rfl rfl ?_
        refine r_iaload C dX12_journalOf_120 rfl rfl hR h (fun v25 h => ?_)
        exact r_ret1 C dX12_journalOf_121 rfl hR hF h
      replace h := iN c26 h
      have tc16 := tne (w := 0) c16 (by decide)
      have tc18 := tne (w := 1) c18 (by decide)
      have tc20 := tne (w := 2) c20 (by decide)
      have tc22 := tne (w := 3) c22 (by decide)
      have tc24 := tne (w := 4) c24 (by decide)
      have tc26 := tne (w := 5) c26 (by decide)
      refine vi_tswO (t' := 122) C dX12_journalOf_42 (by omega) (by decide) ?_
      refine vi_iconst (v := -1) C dX12_journalOf_122 rfl (by decide) ?_
      exact r_ret1 C dX12_journalOf_123 rfl hR hF h
    · intro k41_4 h41_4 h
      refine vi_icmp_ge (t' := 41) C dX12_journalOf_15 rfl (by decide) (fun c12 => ?_) (fun c12 => ?_)
      · replace h := iT c12 h
        exact vi_cut [(0, .ref m), (1, .int (a1)), (2, .int (a2))] ⟨rfl, rfl, rfl, trivial⟩ (h41_4 _ h _ hR hF)
      · replace h := iN c12 h
        refine vi_aload_n C dX12_journalOf_18 rfl rfl ?_
        refine r_geta C dX12_journalOf_19 rfl fX12_33 rfl hR rfl ?_
        refine vi_aload_n C dX12_journalOf_22 rfl rfl ?_
        refine vi_iload_n C dX12_journalOf_23 rfl rfl ?_
        refine r_cv1 C [.int (a1)] [.ref (b + 6)] dX12_journalOf_24 rfl ivX12_207 imX12_isReplica rfl hR hF h (fun _ e => p_X12_isReplica e hR) rfl (Nat.le_of_ble_eq_true rfl) ⟨by decide, by decide⟩ ⟨Nat.le_refl _, Nat.le_refl _⟩ (fun S M5 v6 h hR hF => ?_)
        refine vi_if_eq (t' := 34) C dX12_journalOf_27 rfl (by decide) (fun c11 => ?_) (fun c11 => ?_)
        · replace h := iT c11 h
          refine vi_iconst (v := 0) C dX12_journalOf_34 rfl (by decide) ?_
          refine r_zaload C dX12_journalOf_35 rfl rfl hR h (fun v7 h => ?_)
          refine vi_if_ne (t' := 41) C dX12_journalOf_36 rfl (by decide) (fun c8 => ?_) (fun c8 => ?_)
          · replace h := iN c8 h
            exact vi_cut [(0, .ref m), (1, .int (a1)), (2, .int (a2))] ⟨rfl, rfl, rfl, trivial⟩ (h41_4 _ h _ hR hF)
          · replace h := iT c8 h
            refine vi_iconst (v := -1) C dX12_journalOf_39 rfl (by decide) ?_
            exact r_ret1 C dX12_journalOf_40 rfl hR hF h
        · replace h := iN c11 h
          refine vi_iload_n C dX12_journalOf_30 rfl rfl ?_
          refine vi_goto (t' := 35) C dX12_journalOf_31 (by decide) ?_
          refine r_zaload C dX12_journalOf_35 rfl rfl hR h (fun v9 h => ?_)
          refine vi_if_ne (t' := 41) C dX12_journalOf_36 rfl (by decide) (fun c10 => ?_) (fun c10 => ?_)
          · replace h := iN c10 h
            exact vi_cut [(0, .ref m), (1, .int (a1)), (2, .int (a2))] ⟨rfl, rfl, rfl, trivial⟩ (h41_4 _ h _ hR hF)
          · replace h := iT c10 h
            refine vi_iconst (v := -1) C dX12_journalOf_39 rfl (by decide) ?_
            exact r_ret1 C dX12_journalOf_40 rfl hR hF h

def L_X12_blockOf_41 {ρ : Type}  (l1 : Int32) (l2 : Int32) (l3 : Int32) (kx90 : vM → Int64 → Option ρ) : Nat → vM → Int64 → Int32 → Option ρ
  | 0, _, _, _ => none
  | f + 1, M, l4, l6 => if (8 : Int32) ≤ l6 then (kx90 M (l4)) else ((mG M 36 ((((((32768 : Int32) * l1) + ((512 : Int32) * l2)) + ((8 : Int32) * l3)) + l6))).bind fun v4 => L_X12_blockOf_41 l1 l2 l3 kx90 f M (((l4 <<< (((8 : Int32)).toInt64 &&& 63)) ||| ((v4).toInt64 &&& (255 : Int64)))) ((l6 + (1))))

def F_X12_blockOf (M : vM) (a1 : Int32) (a2 : Int32) (a3 : Int32) : Option (vM × Int64) := lt1 (mW M 0 ((0 : Int32))) fun M1 => b2 (F_X12_isReplica M1 (a1)) fun M2 v3 => if v3 = 0 then (some (M2, (0 : Int64))) else (if a2 < 0 then (some (M2, (0 : Int64))) else (if (63 : Int32) < a2 then (some (M2, (0 : Int64))) else (if a3 < 0 then (some (M2, (0 : Int64))) else (if a3 ≤ (63 : Int32) then (L_X12_blockOf_41 (a1) (a2) (a3) (fun (M6 : vM) (l7 : Int64) => some (M6, l7)) fu M2 ((0 : Int64)) ((0 : Int32))) else (some (M2, (0 : Int64)))))))

set_option maxRecDepth 100000 in
set_option maxHeartbeats 4000000 in
theorem w_X12_blockOf_41 {E : vE} {X : vX} {S0 : vS} {sz m b : Nat} {ρ : Type} {R : ρ} {Z : State → Prop} {l1 : Int32} {l2 : Int32} {l3 : Int32} {kx90 : vM → Int64 → Option ρ} (C : vi_C E X yX12_blockOf cX12_blockOf 7 (some .long) 1 0 0 (45 * 1)) (hx90 : ∀ (M : vM) (l4 : Int64), kx90 M l4 = some R → ∀ S, RM S sz m b M → rF S0 S m b → vi_W E X 7 Z 90 [(4, .long (l4))] [] S sz 0 0) : ∀ (f : Nat) (M : vM) (l4 : Int64) (l6 : Int32), L_X12_blockOf_41 l1 l2 l3 kx90 f M l4 l6 = some R → ∀ S, RM S sz m b M → rF S0 S m b → vi_W E X 7 Z 41 [(0, .ref m), (1, .int (l1)), (2, .int (l2)), (3, .int (l3)), (4, .long (l4)), (6, .int (l6))] [] S sz 0 0 := by
  intro f
  induction f with
  | zero => intro M l4 l6 h; cases h
  | succ f ih =>
    intro M l4 l6 h S hR hF
    rw [L_X12_blockOf_41] at h
    refine vi_iload C dX12_blockOf_41 rfl rfl ?_
    refine vi_bipush (v := 8) C dX12_blockOf_43 rfl (by decide) ?_
    refine vi_icmp_ge (t' := 90) C dX12_blockOf_45 rfl (by decide) (fun c5 => ?_) (fun c5 => ?_)
    · replace h := iT c5 h
      exact vi_cut [(4, .long (l4))] ⟨rfl, trivial⟩ (hx90 _ _ h _ hR hF)
    · replace h := iN c5 h
      refine vi_lload C dX12_blockOf_48 rfl rfl ?_
      refine vi_bipush (v := 8) C dX12_blockOf_50 rfl (by decide) ?_
      refine vi_lshl C dX12_blockOf_52 rfl ?_
      refine vi_aload_n C dX12_blockOf_53 rfl rfl ?_
      refine r_geta C dX12_blockOf_54 rfl fX12_126 rfl hR rfl ?_
      refine vi_ldc C dX12_blockOf_57 rfl kX12_241 ?_
      refine vi_iload_n C dX12_blockOf_59 rfl rfl ?_
      refine vi_imul C dX12_blockOf_60 rfl ?_
      refine vi_sipush (v := 512) C dX12_blockOf_61 rfl (by decide) ?_
      refine vi_iload_n C dX12_blockOf_64 rfl rfl ?_
      refine vi_imul C dX12_blockOf_65 rfl ?_
      refine vi_iadd C dX12_blockOf_66 rfl ?_
      refine vi_bipush (v := 8) C dX12_blockOf_67 rfl (by decide) ?_
      refine vi_iload_n C dX12_blockOf_69 rfl rfl ?_
      refine vi_imul C dX12_blockOf_70 rfl ?_
      refine vi_iadd C dX12_blockOf_71 rfl ?_
      refine vi_iload C dX12_blockOf_72 rfl rfl ?_
      refine vi_iadd C dX12_blockOf_74 rfl ?_
      refine r_baload C dX12_blockOf_75 rfl rfl hR h (fun v4 h => ?_)
      refine vi_i2l C dX12_blockOf_76 rfl ?_
      refine vi_ldc2 C dX12_blockOf_77 rfl kX12_397 ?_
      refine vi_land C dX12_blockOf_80 rfl ?_
      refine vi_lor C dX12_blockOf_81 rfl ?_
      refine vi_lstore C dX12_blockOf_82 rfl (by decide) ?_
      refine vi_iincv (v := 1) C dX12_blockOf_84 rfl rfl (by decide) (by decide) ?_
      refine vi_goto (t' := 41) C dX12_blockOf_87 (by decide) ?_
      exact vi_cut [(0, .ref m), (1, .int (l1)), (2, .int (l2)), (3, .int (l3)), (4, .long (((l4 <<< (((8 : Int32)).toInt64 &&& 63)) ||| ((v4).toInt64 &&& (255 : Int64))))), (6, .int ((l6 + (1))))] ⟨rfl, rfl, rfl, rfl, rfl, rfl, trivial⟩ (ih _ _ _ h _ hR hF)

set_option maxRecDepth 100000 in
set_option maxHeartbeats 4000000 in
theorem p_X12_blockOf {M : vM} {R : (vM × Int64)} {a1 : Int32} {a2 : Int32} {a3 : Int32} (h : F_X12_blockOf M a1 a2 a3 = some R) {E : vE} {S0 : vS} {sz m b : Nat} (hR : RM S0 sz m b M) : vi_Met E yX12_blockOf cX12_blockOf 7 (some .long) 1 0 0 [.ref m, .int (a1), .int (a2), .int (a3)] S0 sz (Q2 S0 sz m b R) := by
  refine vi_met (by decide) (Nat.le_of_ble_eq_true rfl) ?_
  intro X C
  have hF := rF.refl S0 m b
  unfold F_X12_blockOf at h
  refine vi_aload_n C dX12_blockOf_0 rfl rfl ?_
  refine vi_iconst (v := 0) C dX12_blockOf_1 rfl (by decide) ?_
  refine r_puti C dX12_blockOf_2 rfl (fpX12_204 _) rfl hR hF h (fun S M1 h hR hF => ?_)
  refine vi_aload_n C dX12_blockOf_5 rfl rfl ?_
  refine vi_iload_n C dX12_blockOf_6 rfl rfl ?_
  refine r_cv1 C [.int (a1)] [] dX12_blockOf_7 rfl ivX12_207 imX12_isReplica rfl hR hF h (fun _ e => p_X12_isReplica e hR) rfl (Nat.le_of_ble_eq_true rfl) ⟨by decide, by decide⟩ ⟨Nat.le_refl _, Nat.le_refl _⟩ (fun S M2 v3 h hR hF => ?_)
  refine vi_if_eq (t' := 33) C dX12_blockOf_10 rfl (by decide) (fun c12 => ?_) (fun c12 => ?_)
  · replace h := iT c12 h
    refine vi_lconst (v := 0) C dX12_blockOf_33 rfl (by decide) ?_
    exact r_ret2 C dX12_blockOf_34 rfl hR hF h
  · replace h := iN c12 h
    refine vi_iload_n C dX12_blockOf_13 rfl rfl ?_
    refine vi_if_lt (t' := 33) C dX12_blockOf_14 rfl (by decide) (fun c11 => ?_) (fun c11 => ?_)
    · replace h := iT c11 h
      refine vi_lconst (v := 0) C dX12_blockOf_33 rfl (by decide) ?_
      exact r_ret2 C dX12_blockOf_34 rfl hR hF h
    · replace h := iN c11 h
      refine vi_iload_n C dX12_blockOf_17 rfl rfl ?_
      refine vi_bipush (v := 63) C dX12_blockOf_18 rfl (by decide) ?_
      refine vi_icmp_gt (t' := 33) C dX12_blockOf_20 rfl (by decide) (fun c10 => ?_) (fun c10 => ?_)
      · replace h := iT c10 h
        refine vi_lconst (v := 0) C dX12_blockOf_33 rfl (by decide) ?_
        exact r_ret2 C dX12_blockOf_34 rfl hR hF h
      · replace h := iN c10 h
        refine vi_iload_n C dX12_blockOf_23 rfl rfl ?_
        refine vi_if_lt (t' := 33) C dX12_blockOf_24 rfl (by decide) (fun c9 => ?_) (fun c9 => ?_)
        · replace h := iT c9 h
          refine vi_lconst (v := 0) C dX12_blockOf_33 rfl (by decide) ?_
          exact r_ret2 C dX12_blockOf_34 rfl hR hF h
        · replace h := iN c9 h
          refine vi_iload_n C dX12_blockOf_27 rfl rfl ?_
          refine vi_bipush (v := 63) C dX12_blockOf_28 rfl (by decide) ?_
          refine vi_icmp_le (t' := 35) C dX12_blockOf_30 rfl (by decide) (fun c8 => ?_) (fun c8 => ?_)
          · replace h := iT c8 h
            refine vi_lconst (v := 0) C dX12_blockOf_35 rfl (by decide) ?_
            refine vi_lstore C dX12_blockOf_36 rfl (by decide) ?_
            refine vi_iconst (v := 0) C dX12_blockOf_38 rfl (by decide) ?_
            refine vi_istore C dX12_blockOf_39 rfl (by decide) ?_
            refine vi_cut [(0, .ref m), (1, .int (a1)), (2, .int (a2)), (3, .int (a3)), (4, .long ((0 : Int64))), (6, .int ((0 : Int32)))] ⟨rfl, rfl, rfl, rfl, rfl, rfl, trivial⟩ (w_X12_blockOf_41 C ?_ _ _ _ _ h _ hR hF)
            · intro M6 l7 h S hR hF
              refine vi_lload C dX12_blockOf_90 rfl rfl ?_
              exact r_ret2 C dX12_blockOf_92 rfl hR hF h
          · replace h := iN c8 h
            refine vi_lconst (v := 0) C dX12_blockOf_33 rfl (by decide) ?_
            exact r_ret2 C dX12_blockOf_34 rfl hR hF h

def L_X12_frameOf_43 {ρ : Type}  (l2 : Int32) (kx101 : vM → Int64 → Option ρ) : Nat → vM → Int64 → Int32 → Option ρ
  | 0, _, _, _ => none
  | f + 1, M, l3, l5 => if (((8 : Int32) * l2) + (8 : Int32)) ≤ l5 then (kx101 M (l3)) else (if (M.1 45) ≤ l5 then (L_X12_frameOf_43 l2 kx101 f M (((l3 <<< (((8 : Int32)).toInt64 &&& 63)) ||| ((0 : Int32)).toInt64)) ((l5 + (1)))) else (jn (fun (s2_87 : Int32) => (mG M 38 (s2_87)).bind fun v5 => L_X12_frameOf_43 l2 kx101 f M (((l3 <<< (((8 : Int32)).toInt64 &&& 63)) ||| (v5).toInt64)) ((l5 + (1)))) (fun k87_3 => if (M.1 45) ≤ l5 then ((k87_3 ((0 : Int32)))) else ((k87_3 (l5))))))

def F_X12_frameOf (M : vM) (a1 : Int32) (a2 : Int32) : Option (vM × Int64) := lt1 (mW M 0 ((0 : Int32))) fun M1 => if a1 < 0 then (some (M1, (0 : Int64))) else (if (M1.1 53) ≤ a1 then (some (M1, (0 : Int64))) else (if a2 < 0 then (some (M1, (0 : Int64))) else (if a2 ≤ (1000 : Int32) then ((F_X12_layFrame M1 (a1)).bind fun M2 => L_X12_frameOf_43 (a2) (fun (M8 : vM) (l9 : Int64) => some (M8, l9)) fu M2 ((0 : Int64)) (((8 : Int32) * a2))) else (some (M1, (0 : Int64))))))

set_option maxRecDepth 100000 in
set_option maxHeartbeats 4000000 in
theorem w_X12_frameOf_43 {E : vE} {X : vX} {S0 : vS} {sz m b : Nat} {ρ : Type} {R : ρ} {Z : State → Prop} {l2 : Int32} {kx101 : vM → Int64 → Option ρ} (C : vi_C E X yX12_frameOf cX12_frameOf 6 (some .long) 6 0 0 (45 * 6)) (hx101 : ∀ (M : vM) (l3 : Int64), kx101 M l3 = some R → ∀ S, RM S sz m b M → rF S0 S m b → vi_W E X 6 Z 101 [(3, .long (l3))] [] S sz 0 0) : ∀ (f : Nat) (M : vM) (l3 : Int64) (l5 : Int32), L_X12_frameOf_43 l2 kx101 f M l3 l5 = some R → ∀ S, RM S sz m b M → rF S0 S m b → vi_W E X 6 Z 43 [(0, .ref m), (2, .int (l2)), (3, .long (l3)), (5, .int (l5))] [] S sz 0 0 := by
  intro f
  induction f with
  | zero => intro M l3 l5 h; cases h
  | succ f ih =>
    intro M l3 l5 h S hR hF
    rw [L_X12_frameOf_43] at h
    refine vi_iload C dX12_frameOf_43 rfl rfl ?_
    refine vi_bipush (v := 8) C dX12_frameOf_45 rfl (by decide) ?_
    refine vi_iload_n C dX12_frameOf_47 rfl rfl ?_
    refine vi_imul C dX12_frameOf_48 rfl ?_
    refine vi_bipush (v := 8) C dX12_frameOf_49 rfl (by decide) ?_
    refine vi_iadd C dX12_frameOf_51 rfl ?_
    refine vi_icmp_ge (t' := 101) C dX12_frameOf_52 rfl (by decide) (fun c7 => ?_) (fun c7 => ?_)
    · replace h := iT c7 h
      exact vi_cut [(3, .long (l3))] ⟨rfl, trivial⟩ (hx101 _ _ h _ hR hF)
    · replace h := iN c7 h
      refine vi_lload_n C dX12_frameOf_55 rfl rfl ?_
      refine vi_bipush (v := 8) C dX12_frameOf_56 rfl (by decide) ?_
      refine vi_lshl C dX12_frameOf_58 rfl ?_
      refine vi_iload C dX12_frameOf_59 rfl rfl ?_
      refine vi_aload_n C dX12_frameOf_61 rfl rfl ?_
      refine r_geti C dX12_frameOf_62 rfl fX12_218 rfl hR ?_
      refine vi_icmp_ge (t' := 91) C dX12_frameOf_65 rfl (by decide) (fun c6 => ?_) (fun c6 => ?_)
      · replace h := iT c6 h
        refine vi_iconst (v := 0) C dX12_frameOf_91 rfl (by decide) ?_
        refine vi_i2l C dX12_frameOf_92 rfl ?_
        refine vi_lor C dX12_frameOf_93 rfl ?_
        refine vi_lstore_n C dX12_frameOf_94 rfl (by decide) ?_
        refine vi_iincv (v := 1) C dX12_frameOf_95 rfl rfl (by decide) (by decide) ?_
        refine vi_goto (t' := 43) C dX12_frameOf_98 (by decide) ?_
        exact vi_cut [(0, .ref m), (2, .int (l2)), (3, .long (((l3 <<< (((8 : Int32)).toInt64 &&& 63)) ||| ((0 : Int32)).toInt64))), (5, .int ((l5 + (1))))] ⟨rfl, rfl, rfl, rfl, trivial⟩ (ih _ _ _ h _ hR hF)
      · replace h := iN c6 h
        refine vi_aload_n C dX12_frameOf_68 rfl rfl ?_
        refine r_geta C dX12_frameOf_69 rfl fX12_133 rfl hR rfl ?_
        refine vi_iload C dX12_frameOf_72 rfl rfl ?_
        refine vi_aload_n C dX12_frameOf_74 rfl rfl ?_
        refine r_geti C dX12_frameOf_75 rfl fX12_218 rfl hR ?_
        refine r_jn h (fun k => ∀ (s2_87 : Int32), k s2_87 = some R → ∀ S, RM S sz m b M → rF S0 S m b → vi_W E X 6 Z 87 [(0, .ref m), (2, .int (l2)), (5, .int (l5))] [.int (s2_87), .ref (b + 38), .long ((l3 <<< (((8 : Int32)).toInt64 &&& 63)))] S sz 0 0) ?_ ?_
        · intro s2_87 h S hR hF
          refine r_iaload C dX12_frameOf_87 rfl rfl hR h (fun v5 h => ?_)
          refine vi_goto (t' := 92) C dX12_frameOf_88 (by decide) ?_
          refine vi_i2l C dX12_frameOf_92 rfl ?_
          refine vi_lor C dX12_frameOf_93 rfl ?_
          refine vi_lstore_n C dX12_frameOf_94 rfl (by decide) ?_
          refine vi_iincv (v := 1) C dX12_frameOf_95 rfl rfl (by decide) (by decide) ?_
          refine vi_goto (t' := 43) C dX12_frameOf_98 (by decide) ?_
          exact vi_cut [(0, .ref m), (2, .int (l2)), (3, .long (((l3 <<< (((8 : Int32)).toInt64 &&& 63)) ||| (v5).toInt64))), (5, .int ((l5 + (1))))] ⟨rfl, rfl, rfl, rfl, trivial⟩ (ih _ _ _ h _ hR hF)
        · intro k87_3 h87_3 h
          refine vi_icmp_ge (t' := 86) C dX12_frameOf_78 rfl (by decide) (fun c4 => ?_) (fun c4 => ?_)
          · replace h := iT c4 h
            refine vi_iconst (v := 0) C dX12_frameOf_86 rfl (by decide) ?_
            exact vi_cut [(0, .ref m), (2, .int (l2)), (5, .int (l5))] ⟨rfl, rfl, rfl, trivial⟩ (h87_3 _ h _ hR hF)
          · replace h := iN c4 h
            refine vi_iload C dX12_frameOf_81 rfl rfl ?_
            refine vi_goto (t' := 87) C dX12_frameOf_83 (by decide) ?_
            exact vi_cut [(0, .ref m), (2, .int (l2)), (5, .int (l5))] ⟨rfl, rfl, rfl, trivial⟩ (h87_3 _ h _ hR hF)

set_option maxRecDepth 100000 in
set_option maxHeartbeats 4000000 in
theorem p_X12_frameOf {M : vM} {R : (vM × Int64)} {a1 : Int32} {a2 : Int32} (h : F_X12_frameOf M a1 a2 = some R) {E : vE} {S0 : vS} {sz m b : Nat} (hR : RM S0 sz m b M) : vi_Met E yX12_frameOf cX12_frameOf 6 (some .long) 6 0 0 [.ref m, .int (a1), .int (a2)] S0 sz (Q2 S0 sz m b R) := by
  refine vi_met (by decide) (Nat.le_of_ble_eq_true rfl) ?_
  intro X C
  have hF := rF.refl S0 m b
  unfold F_X12_frameOf at h
  refine vi_aload_n C dX12_frameOf_0 rfl rfl ?_
  refine vi_iconst (v := 0) C dX12_frameOf_1 rfl (by decide) ?_
  refine r_puti C dX12_frameOf_2 rfl (fpX12_204 _) rfl hR hF h (fun S M1 h hR hF => ?_)
  refine vi_iload_n C dX12_frameOf_5 rfl rfl ?_
  refine vi_if_lt (t' := 28) C dX12_frameOf_6 rfl (by decide) (fun c13 => ?_) (fun c13 => ?_)
  · replace h := iT c13 h
    refine vi_lconst (v := 0) C dX12_frameOf_28 rfl (by decide) ?_
    exact r_ret2 C dX12_frameOf_29 rfl hR hF h
  · replace h := iN c13 h
    refine vi_iload_n C dX12_frameOf_9 rfl rfl ?_
    refine vi_aload_n C dX12_frameOf_10 rfl rfl ?_
    refine r_geti C dX12_frameOf_11 rfl fX12_290 rfl hR ?_
    refine vi_icmp_ge (t' := 28) C dX12_frameOf_14 rfl (by decide) (fun c12 => ?_) (fun c12 => ?_)
    · replace h := iT c12 h
      refine vi_lconst (v := 0) C dX12_frameOf_28 rfl (by decide) ?_
      exact r_ret2 C dX12_frameOf_29 rfl hR hF h
    · replace h := iN c12 h
      refine vi_iload_n C dX12_frameOf_17 rfl rfl ?_
      refine vi_if_lt (t' := 28) C dX12_frameOf_18 rfl (by decide) (fun c11 => ?_) (fun c11 => ?_)
      · replace h := iT c11 h
        refine vi_lconst (v := 0) C dX12_frameOf_28 rfl (by decide) ?_
        exact r_ret2 C dX12_frameOf_29 rfl hR hF h
      · replace h := iN c11 h
        refine vi_iload_n C dX12_frameOf_21 rfl rfl ?_
        refine vi_sipush (v := 1000) C dX12_frameOf_22 rfl (by decide) ?_
        refine vi_icmp_le (t' := 30) C dX12_frameOf_25 rfl (by decide) (fun c10 => ?_) (fun c10 => ?_)
        · replace h := iT c10 h
          refine vi_aload_n C dX12_frameOf_30 rfl rfl ?_
          refine vi_iload_n C dX12_frameOf_31 rfl rfl ?_
          refine r_cv0 C [.int (a1)] [] dX12_frameOf_32 rfl ivX12_391 imX12_layFrame rfl hR hF h (fun _ e => p_X12_layFrame e hR) rfl (Nat.le_of_ble_eq_true rfl) ⟨by decide, by decide⟩ ⟨Nat.le_refl _, Nat.le_refl _⟩ (fun S M2 h hR hF => ?_)
          refine vi_lconst (v := 0) C dX12_frameOf_35 rfl (by decide) ?_
          refine vi_lstore_n C dX12_frameOf_36 rfl (by decide) ?_
          refine vi_bipush (v := 8) C dX12_frameOf_37 rfl (by decide) ?_
          refine vi_iload_n C dX12_frameOf_39 rfl rfl ?_
          refine vi_imul C dX12_frameOf_40 rfl ?_
          refine vi_istore C dX12_frameOf_41 rfl (by decide) ?_
          refine vi_cut [(0, .ref m), (2, .int (a2)), (3, .long ((0 : Int64))), (5, .int (((8 : Int32) * a2)))] ⟨rfl, rfl, rfl, rfl, trivial⟩ (w_X12_frameOf_43 C ?_ _ _ _ _ h _ hR hF)
          · intro M8 l9 h S hR hF
            refine vi_lload_n C dX12_frameOf_101 rfl rfl ?_
            exact r_ret2 C dX12_frameOf_102 rfl hR hF h
        · replace h := iN c10 h
          refine vi_lconst (v := 0) C dX12_frameOf_28 rfl (by decide) ?_
          exact r_ret2 C dX12_frameOf_29 rfl hR hF h

def F_X12_valueAt (M : vM) (a1 : Int32) (a2 : Int32) (a3 : Int32) : Option (vM × Int32) := b2 (F_X12_isUp M (a1)) fun M1 v2 => jn (fun (M21 : vM) (s1_65 : Int32) => lt1 (mW M21 0 (s1_65)) fun M22 => if (M22.1 0) ≤ 0 then (b2 (F_X12_at M22 (a1) (a3)) fun M23 v24 => (mG M23 14 ((((16 : Int32) * v24) + a2))).bind fun v25 => some (M23, v25)) else (some (M22, (0 : Int32)))) (fun k65_3 => if v2 = 0 then ((k65_3 (M1) ((1 : Int32)))) else (b2 (F_X12_isKey M1 (a2)) fun M4 v5 => if v5 = 0 then ((k65_3 (M4) ((1 : Int32)))) else (b2 (F_X12_isUp M4 (a1)) fun M6 v7 => jn (fun (s3_34 : Int32) => (mG M6 8 (s3_34)).bind fun v10 => if a3 < v10 then ((k65_3 (M6) ((1 : Int32)))) else (b2 (F_X12_isUp M6 (a1)) fun M11 v12 => if v12 = 0 then ((mG M11 7 ((0 : Int32))).bind fun v13 => if a3 ≤ v13 then ((k65_3 (M11) ((0 : Int32)))) else ((k65_3 (M11) ((1 : Int32))))) else ((mG M11 7 (a1)).bind fun v15 => if a3 ≤ v15 then ((k65_3 (M11) ((0 : Int32)))) else ((k65_3 (M11) ((1 : Int32))))))) (fun k34_8 => if v7 = 0 then ((k34_8 ((0 : Int32)))) else ((k34_8 (a1)))))))

set_option maxRecDepth 100000 in
set_option maxHeartbeats 4000000 in
theorem p_X12_valueAt {M : vM} {R : (vM × Int32)} {a1 : Int32} {a2 : Int32} {a3 : Int32} (h : F_X12_valueAt M a1 a2 a3 = some R) {E : vE} {S0 : vS} {sz m b : Nat} (hR : RM S0 sz m b M) : vi_Met E yX12_valueAt cX12_valueAt 4 (some .int) 2 0 0 [.ref m, .int (a1), .int (a2), .int (a3)] S0 sz (Q1 S0 sz m b R) := by
  refine vi_met (by decide) (Nat.le_of_ble_eq_true rfl) ?_
  intro X C
  have hF := rF.refl S0 m b
  unfold F_X12_valueAt at h
  refine vi_aload_n C dX12_valueAt_0 rfl rfl ?_
  refine vi_aload_n C dX12_valueAt_1 rfl rfl ?_
  refine vi_iload_n C dX12_valueAt_2 rfl rfl ?_
  refine r_cv1 C [.int (a1)] [.ref m] dX12_valueAt_3 rfl ivX12_373 imX12_isUp rfl hR hF h (fun _ e => p_X12_isUp e hR) rfl (Nat.le_of_ble_eq_true rfl) ⟨by decide, by decide⟩ ⟨Nat.le_refl _, Nat.le_refl _⟩ (fun S M1 v2 h hR hF => ?_)
  refine r_jn h (fun k => ∀ (M21 : vM) (s1_65 : Int32), k M21 s1_65 = some R → ∀ S, RM S sz m b M21 → rF S0 S m b → vi_W E X 4 (vi_Z E X (Q1 S0 sz m b R) 0 0) 65 [(0, .ref m), (1, .int (a1)), (2, .int (a2)), (3, .int (a3))] [.int (s1_65), .ref m] S sz 0 0) ?_ ?_
  · intro M21 s1_65 h S hR hF
    refine r_puti C dX12_valueAt_65 rfl (fpX12_204 _) rfl hR hF h (fun S M22 h hR hF => ?_)
    refine vi_aload_n C dX12_valueAt_68 rfl rfl ?_
    refine r_geti C dX12_valueAt_69 rfl fX12_204 rfl hR ?_
    refine vi_if_le (t' := 79) C dX12_valueAt_72 rfl (by decide) (fun c26 => ?_) (fun c26 => ?_)
    · replace h := iT c26 h
      refine vi_aload_n C dX12_valueAt_79 rfl rfl ?_
      refine r_geta C dX12_valueAt_80 rfl fX12_58 rfl hR rfl ?_
      refine vi_bipush (v := 16) C dX12_valueAt_83 rfl (by decide) ?_
      refine vi_iload_n C dX12_valueAt_85 rfl rfl ?_
      refine vi_iload_n C dX12_valueAt_86 rfl rfl ?_
      refine r_cs1 C [.int (a1), .int (a3)] [.int ((16 : Int32)), .ref (b + 14)] dX12_valueAt_87 rfl ivX12_211 isX12_at hR hF h (fun _ e => p_X12_at e hR) rfl (Nat.le_of_ble_eq_true rfl) ⟨by decide, by decide⟩ ⟨Nat.le_refl _, Nat.le_refl _⟩ (fun S M23 v24 h hR hF => ?_)
      refine vi_imul C dX12_valueAt_90 rfl ?_
      refine vi_iload_n C dX12_valueAt_91 rfl rfl ?_
      refine vi_iadd C dX12_valueAt_92 rfl ?_
      refine r_iaload C dX12_valueAt_93 rfl rfl hR h (fun v25 h => ?_)
      exact r_ret1 C dX12_valueAt_94 rfl hR hF h
    · replace h := iN c26 h
      refine vi_iconst (v := 0) C dX12_valueAt_75 rfl (by decide) ?_
      refine vi_goto (t' := 94) C dX12_valueAt_76 (by decide) ?_
      exact r_ret1 C dX12_valueAt_94 rfl hR hF h
  · intro k65_3 h65_3 h
    refine vi_if_eq (t' := 60) C dX12_valueAt_6 rfl (by decide) (fun c20 => ?_) (fun c20 => ?_)
    · replace h := iT c20 h
      refine vi_iconst (v := 1) C dX12_valueAt_60 rfl (by decide) ?_
      refine vi_goto (t' := 65) C dX12_valueAt_61 (by decide) ?_
      exact vi_cut [(0, .ref m), (1, .int (a1)), (2, .int (a2)), (3, .int (a3))] ⟨rfl, rfl, rfl, rfl, trivial⟩ (h65_3 _ _ h _ hR hF)
    · replace h := iN c20 h
      refine vi_iload_n C dX12_valueAt_9 rfl rfl ?_
      refine r_cs1 C [.int (a2)] [.ref m] dX12_valueAt_10 rfl ivX12_376 isX12_isKey hR hF h (fun _ e => p_X12_isKey e hR) rfl (Nat.le_of_ble_eq_true rfl) ⟨by decide, by decide⟩ ⟨Nat.le_refl _, Nat.le_refl _⟩ (fun S M4 v5 h hR hF => ?_)
      refine vi_if_eq (t' := 60) C dX12_valueAt_13 rfl (by decide) (fun c19 => ?_) (fun c19 => ?_)
      · replace h := iT c19 h
        refine vi_iconst (v := 1) C dX12_valueAt_60 rfl (by decide) ?_
        refine vi_goto (t' := 65) C dX12_valueAt_61 (by decide) ?_
        exact vi_cut [(0, .ref m), (1, .int (a1)), (2, .int (a2)), (3, .int (a3))] ⟨rfl, rfl, rfl, rfl, trivial⟩ (h65_3 _ _ h _ hR hF)
      · replace h := iN c19 h
        refine vi_iload_n C dX12_valueAt_16 rfl rfl ?_
        refine vi_aload_n C dX12_valueAt_17 rfl rfl ?_
        refine r_geta C dX12_valueAt_18 rfl fX12_40 rfl hR rfl ?_
        refine vi_aload_n C dX12_valueAt_21 rfl rfl ?_
        refine vi_iload_n C dX12_valueAt_22 rfl rfl ?_
        refine r_cv1 C [.int (a1)] [.ref (b + 8), .int (a3), .ref m] dX12_valueAt_23 rfl ivX12_373 imX12_isUp rfl hR hF h (fun _ e => p_X12_isUp e hR) rfl (Nat.le_of_ble_eq_true rfl) ⟨by decide, by decide⟩ ⟨Nat.le_refl _, Nat.le_refl _⟩ (fun S M6 v7 h hR hF => ?_)
        refine r_jn h (fun k => ∀ (s3_34 : Int32), k s3_34 = some R → ∀ S, RM S sz m b M6 → rF S0 S m b → vi_W E X 4 (vi_Z E X (Q1 S0 sz m b R) 0 0) 34 [(0, .ref m), (1, .int (a1)), (2, .int (a2)), (3, .int (a3))] [.int (s3_34), .ref (b + 8), .int (a3), .ref m] S sz 0 0) ?_ ?_
        · intro s3_34 h S hR hF
          refine r_iaload C dX12_valueAt_34 rfl rfl hR h (fun v10 h => ?_)
          refine vi_icmp_lt (t' := 60) C dX12_valueAt_35 rfl (by decide) (fun c18 => ?_) (fun c18 => ?_)
          · replace h := iT c18 h
            refine vi_iconst (v := 1) C dX12_valueAt_60 rfl (by decide) ?_
            refine vi_goto (t' := 65) C dX12_valueAt_61 (by decide) ?_
            exact vi_cut [(0, .ref m), (1, .int (a1)), (2, .int (a2)), (3, .int (a3))] ⟨rfl, rfl, rfl, rfl, trivial⟩ (h65_3 _ _ h _ hR hF)
          · replace h := iN c18 h
            refine vi_iload_n C dX12_valueAt_38 rfl rfl ?_
            refine vi_aload_n C dX12_valueAt_39 rfl rfl ?_
            refine r_geta C dX12_valueAt_40 rfl fX12_37 rfl hR rfl ?_
            refine vi_aload_n C dX12_valueAt_43 rfl rfl ?_
            refine vi_iload_n C dX12_valueAt_44 rfl rfl ?_
            refine r_cv1 C [.int (a1)] [.ref (b + 7), .int (a3), .ref m] dX12_valueAt_45 rfl ivX12_373 imX12_isUp rfl hR hF h (fun _ e => p_X12_isUp e hR) rfl (Nat.le_of_ble_eq_true rfl) ⟨by decide, by decide⟩ ⟨Nat.le_refl _, Nat.le_refl _⟩ (fun S M11 v12 h hR hF => ?_)
            refine vi_if_eq (t' := 55) C dX12_valueAt_48 rfl (by decide) (fun c17 => ?_) (fun c17 => ?_)
            · replace h := iT c17 h
              refine vi_iconst (v := 0) C dX12_valueAt_55 rfl (by decide) ?_
              refine r_iaload C dX12_valueAt_56 rfl rfl hR h (fun v13 h => ?_)
              refine vi_icmp_le (t' := 64) C dX12_valueAt_57 rfl (by decide) (fun c14 => ?_) (fun c14 => ?_)
              · replace h := iT c14 h
                refine vi_iconst (v := 0) C dX12_valueAt_64 rfl (by decide) ?_
                exact vi_cut [(0, .ref m), (1, .int (a1)), (2, .int (a2)), (3, .int (a3))] ⟨rfl, rfl, rfl, rfl, trivial⟩ (h65_3 _ _ h _ hR hF)
              · replace h := iN c14 h
                refine vi_iconst (v := 1) C dX12_valueAt_60 rfl (by decide) ?_
                refine vi_goto (t' := 65) C dX12_valueAt_61 (by decide) ?_
                exact vi_cut [(0, .ref m), (1, .int (a1)), (2, .int (a2)), (3, .int (a3))] ⟨rfl, rfl, rfl, rfl, trivial⟩ (h65_3 _ _ h _ hR hF)
            · replace h := iN c17 h
              refine vi_iload_n C dX12_valueAt_51 rfl rfl ?_
              refine vi_goto (t' := 56) C dX12_valueAt_52 (by decide) ?_
              refine r_iaload C dX12_valueAt_56 rfl rfl hR h (fun v15 h => ?_)
              refine vi_icmp_le (t' := 64) C dX12_valueAt_57 rfl (by decide) (fun c16 => ?_) (fun c16 => ?_)
              · replace h := iT c16 h
                refine vi_iconst (v := 0) C dX12_valueAt_64 rfl (by decide) ?_
                exact vi_cut [(0, .ref m), (1, .int (a1)), (2, .int (a2)), (3, .int (a3))] ⟨rfl, rfl, rfl, rfl, trivial⟩ (h65_3 _ _ h _ hR hF)
              · replace h := iN c16 h
                refine vi_iconst (v := 1) C dX12_valueAt_60 rfl (by decide) ?_
                refine vi_goto (t' := 65) C dX12_valueAt_61 (by decide) ?_
                exact vi_cut [(0, .ref m), (1, .int (a1)), (2, .int (a2)), (3, .int (a3))] ⟨rfl, rfl, rfl, rfl, trivial⟩ (h65_3 _ _ h _ hR hF)
        · intro k34_8 h34_8 h
          refine vi_if_eq (t' := 33) C dX12_valueAt_26 rfl (by decide) (fun c9 => ?_) (fun c9 => ?_)
          · replace h := iT c9 h
            refine vi_iconst (v := 0) C dX12_valueAt_33 rfl (by decide) ?_
            exact vi_cut [(0, .ref m), (1, .int (a1)), (2, .int (a2)), (3, .int (a3))] ⟨rfl, rfl, rfl, rfl, trivial⟩ (h34_8 _ h _ hR hF)
          · replace h := iN c9 h
            refine vi_iload_n C dX12_valueAt_29 rfl rfl ?_
            refine vi_goto (t' := 34) C dX12_valueAt_30 (by decide) ?_
            exact vi_cut [(0, .ref m), (1, .int (a1)), (2, .int (a2)), (3, .int (a3))] ⟨rfl, rfl, rfl, rfl, trivial⟩ (h34_8 _ h _ hR hF)

def F_X12_slotOf (M : vM) (a1 : Int32) (a2 : Int32) (a3 : Int32) : Option (vM × Int32) := lt1 (mW M 0 ((0 : Int32))) fun M1 => b2 (F_X12_isUp M1 (a1)) fun M2 v3 => if v3 = 0 then (some (M2, (-1 : Int32))) else (b2 (F_X12_isUp M2 (a1)) fun M4 v5 => jn (fun (s2_31 : Int32) => (mG M4 9 (s2_31)).bind fun v8 => if a2 ≤ v8 then (some (M4, (-1 : Int32))) else (b2 (F_X12_isUp M4 (a1)) fun M9 v10 => jn (fun (s2_53 : Int32) => (mG M9 7 (s2_53)).bind fun v13 => if a2 ≤ v13 then (b2 (F_X12_at M9 (a1) (a2)) fun M14 v15 => (mG M14 16 (v15)).bind fun v16 => if a3 = 0 then ((mG M14 0 (v16)).bind fun v25 => some (M14, v25)) else (if a3 = (1 : Int32) then ((mG M14 1 (v16)).bind fun v23 => some (M14, v23)) else (if a3 = (2 : Int32) then ((mG M14 2 (v16)).bind fun v21 => some (M14, v21)) else (if a3 = (3 : Int32) then ((mG M14 3 (v16)).bind fun v19 => some (M14, v19)) else (if a3 = (4 : Int32) then ((mG M14 4 (v16)).bind fun v17 => some (M14, v17)) else (some (M14, (-1 : Int32)))))))) else (some (M9, (-1 : Int32)))) (fun k53_11 => if v10 = 0 then ((k53_11 ((0 : Int32)))) else ((k53_11 (a1)))))) (fun k31_6 => if v5 = 0 then ((k31_6 ((0 : Int32)))) else ((k31_6 (a1)))))

set_option maxRecDepth 100000 in
set_option maxHeartbeats 4000000 in
theorem p_X12_slotOf {M : vM} {R : (vM × Int32)} {a1 : Int32} {a2 : Int32} {a3 : Int32} (h : F_X12_slotOf M a1 a2 a3 = some R) {E : vE} {S0 : vS} {sz m b : Nat} (hR : RM S0 sz m b M) : vi_Met E yX12_slotOf cX12_slotOf 5 (some .int) 2 0 0 [.ref m, .int (a1), .int (a2), .int (a3)] S0 sz (Q1 S0 sz m b R) := by
  refine vi_met (by decide) (Nat.le_of_ble_eq_true rfl) ?_
  intro X C
  have hF := rF.refl S0 m b
  unfold F_X12_slotOf at h
  refine vi_aload_n C dX12_slotOf_0 rfl rfl ?_
  refine vi_iconst (v := 0) C dX12_slotOf_1 rfl (by decide) ?_
  refine r_puti C dX12_slotOf_2 rfl (fpX12_204 _) rfl hR hF h (fun S M1 h hR hF => ?_)
  refine vi_aload_n C dX12_slotOf_5 rfl rfl ?_
  refine vi_iload_n C dX12_slotOf_6 rfl rfl ?_
  refine r_cv1 C [.int (a1)] [] dX12_slotOf_7 rfl ivX12_373 imX12_isUp rfl hR hF h (fun _ e => p_X12_isUp e hR) rfl (Nat.le_of_ble_eq_true rfl) ⟨by decide, by decide⟩ ⟨Nat.le_refl _, Nat.le_refl _⟩ (fun S M2 v3 h hR hF => ?_)
  refine vi_if_eq (t' := 57) C dX12_slotOf_10 rfl (by decide) (fun c29 => ?_) (fun c29 => ?_)
  · replace h := iT c29 h
    refine vi_iconst (v := -1) C dX12_slotOf_57 rfl (by decide) ?_
    exact r_ret1 C dX12_slotOf_58 rfl hR hF h
  · replace h := iN c29 h
    refine vi_iload_n C dX12_slotOf_13 rfl rfl ?_
    refine vi_aload_n C dX12_slotOf_14 rfl rfl ?_
    refine r_geta C dX12_slotOf_15 rfl fX12_43 rfl hR rfl ?_
    refine vi_aload_n C dX12_slotOf_18 rfl rfl ?_
    refine vi_iload_n C dX12_slotOf_19 rfl rfl ?_
    refine r_cv1 C [.int (a1)] [.ref (b + 9), .int (a2)] dX12_slotOf_20 rfl ivX12_373 imX12_isUp rfl hR hF h (fun _ e => p_X12_isUp e hR) rfl (Nat.le_of_ble_eq_true rfl) ⟨by decide, by decide⟩ ⟨Nat.le_refl _, Nat.le_refl _⟩ (fun S M4 v5 h hR hF => ?_)
    refine r_jn h (fun k => ∀ (s2_31 : Int32), k s2_31 = some R → ∀ S, RM S sz m b M4 → rF S0 S m b → vi_W E X 5 (vi_Z E X (Q1 S0 sz m b R) 0 0) 31 [(0, .ref m), (1, .int (a1)), (2, .int (a2)), (3, .int (a3))] [.int (s2_31), .ref (b + 9), .int (a2)] S sz 0 0) ?_ ?_
    · intro s2_31 h S hR hF
      refine r_iaload C dX12_slotOf_31 rfl rfl hR h (fun v8 h => ?_)
      refine vi_icmp_le (t' := 57) C dX12_slotOf_32 rfl (by decide) (fun c28 => ?_) (fun c28 => ?_)
      · replace h := iT c28 h
        refine vi_iconst (v := -1) C dX12_slotOf_57 rfl (by decide) ?_
        exact r_ret1 C dX12_slotOf_58 rfl hR hF h
      · replace h := iN c28 h
        refine vi_iload_n C dX12_slotOf_35 rfl rfl ?_
        refine vi_aload_n C dX12_slotOf_36 rfl rfl ?_
        refine r_geta C dX12_slotOf_37 rfl fX12_37 rfl hR rfl ?_
        refine vi_aload_n C dX12_slotOf_40 rfl rfl ?_
        refine vi_iload_n C dX12_slotOf_41 rfl rfl ?_
        refine r_cv1 C [.int (a1)] [.ref (b + 7), .int (a2)] dX12_slotOf_42 rfl ivX12_373 imX12_isUp rfl hR hF h (fun _ e => p_X12_isUp e hR) rfl (Nat.le_of_ble_eq_true rfl) ⟨by decide, by decide⟩ ⟨Nat.le_refl _, Nat.le_refl _⟩ (fun S M9 v10 h hR hF => ?_)
        refine r_jn h (fun k => ∀ (s2_53 : Int32), k s2_53 = some R → ∀ S, RM S sz m b M9 → rF S0 S m b → vi_W E X 5 (vi_Z E X (Q1 S0 sz m b R) 0 0) 53 [(0, .ref m), (1, .int (a1)), (2, .int (a2)), (3, .int (a3))] [.int (s2_53), .ref (b + 7), .int (a2)] S sz 0 0) ?_ ?_
        · intro s2_53 h S hR hF
          refine r_iaload C dX12_slotOf_53 rfl rfl hR h (fun v13 h => ?_)
          refine vi_icmp_le (t' := 59) C dX12_slotOf_54 rfl (by decide) (fun c27 => ?_) (fun c27 => ?_)
          · replace h := iT c27 h
            refine vi_aload_n C dX12_slotOf_59 rfl rfl ?_
            refine r_geta C dX12_slotOf_60 rfl fX12_64 rfl hR rfl ?_
            refine vi_iload_n C dX12_slotOf_63 rfl rfl ?_
            refine vi_iload_n C dX12_slotOf_64 rfl rfl ?_
            refine r_cs1 C [.int (a1), .int (a2)] [.ref (b + 16)] dX12_slotOf_65 rfl ivX12_211 isX12_at hR hF h (fun _ e => p_X12_at e hR) rfl (Nat.le_of_ble_eq_true rfl) ⟨by decide, by decide⟩ ⟨Nat.le_refl _, Nat.le_refl _⟩ (fun S M14 v15 h hR hF => ?_)
            refine r_iaload C dX12_slotOf_68 rfl rfl hR h (fun v16 h => ?_)
            refine vi_istore C dX12_slotOf_69 rfl (by decide) ?_
            refine vi_iload_n C dX12_slotOf_71 rfl rfl ?_
            refine vi_if_ne (t' := 85) C dX12_slotOf_72 rfl (by decide) (fun c26 => ?_) (fun c26 => ?_)
            · replace h := iN c26 h
              refine vi_iload_n C dX12_slotOf_85 rfl rfl ?_
              refine vi_iconst (v := 1) C dX12_slotOf_86 rfl (by decide) ?_
              refine vi_icmp_ne (t' := 100) C dX12_slotOf_87 rfl (by decide) (fun c24 => ?_) (fun c24 => ?_)
              · replace h := iN c24 h
                refine vi_iload_n C dX12_slotOf_100 rfl rfl ?_
                refine vi_iconst (v := 2) C dX12_slotOf_101 rfl (by decide) ?_
                refine vi_icmp_ne (t' := 115) C dX12_slotOf_102 rfl (by decide) (fun c22 => ?_) (fun c22 => ?_)
                · replace h := iN c22 h
                  refine vi_iload_n C dX12_slotOf_115 rfl rfl ?_
                  refine vi_iconst (v := 3) C dX12_slotOf_116 rfl (by decide) ?_
                  refine vi_icmp_ne (t' := 130) C dX12_slotOf_117 rfl (by decide) (fun c20 => ?_) (fun c20 => ?_)
                  · replace h := iN c20 h
                    refine vi_iload_n C dX12_slotOf_130 rfl rfl ?_
                    refine vi_iconst (v := 4) C dX12_slotOf_131 rfl (by decide) ?_
                    refine vi_icmp_ne (t' := 145) C dX12_slotOf_132 rfl (by decide) (fun c18 => ?_) (fun c18 => ?_)
                    · replace h := iN c18 h
                      refine vi_iconst (v := -1) C dX12_slotOf_145 rfl (by decide) ?_
                      exact r_ret1 C dX12_slotOf_146 rfl hR hF h
                    · replace h := iT c18 h
                      refine vi_aload_n C dX12_slotOf_135 rfl rfl ?_
                      refine r_geta C dX12_slotOf_136 rfl fX12_26 rfl hR rfl ?_
                      refine vi_iload C dX12_slotOf_139 rfl rfl ?_
                      refine r_iaload C dX12_slotOf_141 rfl rfl hR h (fun v17 h => ?_)
                      refine vi_goto (t' := 146) C dX12_slotOf_142 (by decide) ?_
                      exact r_ret1 C dX12_slotOf_146 rfl hR hF h
                  · replace h := iT c20 h
                    refine vi_aload_n C dX12_slotOf_120 rfl rfl ?_
                    refine r_geta C dX12_slotOf_121 rfl fX12_23 rfl hR rfl ?_
                    refine vi_iload C dX12_slotOf_124 rfl rfl ?_
                    refine r_iaload C dX12_slotOf_126 rfl rfl hR h (fun v19 h => ?_)
                    refine vi_goto (t' := 146) C dX12_slotOf_127 (by decide) ?_
                    exact r_ret1 C dX12_slotOf_146 rfl hR hF h
                · replace h := iT c22 h
                  refine vi_aload_n C dX12_slotOf_105 rfl rfl ?_
                  refine r_geta C dX12_slotOf_106 rfl fX12_20 rfl hR rfl ?_
                  refine vi_iload C dX12_slotOf_109 rfl rfl ?_
                  refine r_iaload C dX12_slotOf_111 rfl rfl hR h (fun v21 h => ?_)
                  refine vi_goto (t' := 146) C dX12_slotOf_112 (by decide) ?_
                  exact r_ret1 C dX12_slotOf_146 rfl hR hF h
              · replace h := iT c24 h
                refine vi_aload_n C dX12_slotOf_90 rfl rfl ?_
                refine r_geta C dX12_slotOf_91 rfl fX12_17 rfl hR rfl ?_
                refine vi_iload C dX12_slotOf_94 rfl rfl ?_
                refine r_iaload C dX12_slotOf_96 rfl rfl hR h (fun v23 h => ?_)
                refine vi_goto (t' := 146) C dX12_slotOf_97 (by decide) ?_
                exact r_ret1 C dX12_slotOf_146 rfl hR hF h
            · replace h := iT c26 h
              refine vi_aload_n C dX12_slotOf_75 rfl rfl ?_
              refine r_geta C dX12_slotOf_76 rfl fX12_13 rfl hR rfl ?_
              refine vi_iload C dX12_slotOf_79 rfl rfl ?_
              refine r_iaload C dX12_slotOf_81 rfl rfl hR h (fun v25 h => ?_)
              refine vi_goto (t' := 146) C dX12_slotOf_82 (by decide) ?_
              exact r_ret1 C dX12_slotOf_146 rfl hR hF h
          · replace h := iN c27 h
            refine vi_iconst (v := -1) C dX12_slotOf_57 rfl (by decide) ?_
            exact r_ret1 C dX12_slotOf_58 rfl hR hF h
        · intro k53_11 h53_11 h
          refine vi_if_eq (t' := 52) C dX12_slotOf_45 rfl (by decide) (fun c12 => ?_) (fun c12 => ?_)
          · replace h := iT c12 h
            refine vi_iconst (v := 0) C dX12_slotOf_52 rfl (by decide) ?_
            exact vi_cut [(0, .ref m), (1, .int (a1)), (2, .int (a2)), (3, .int (a3))] ⟨rfl, rfl, rfl, rfl, trivial⟩ (h53_11 _ h _ hR hF)
          · replace h := iN c12 h
            refine vi_iload_n C dX12_slotOf_48 rfl rfl ?_
            refine vi_goto (t' := 53) C dX12_slotOf_49 (by decide) ?_
            exact vi_cut [(0, .ref m), (1, .int (a1)), (2, .int (a2)), (3, .int (a3))] ⟨rfl, rfl, rfl, rfl, trivial⟩ (h53_11 _ h _ hR hF)
    · intro k31_6 h31_6 h
      refine vi_if_eq (t' := 30) C dX12_slotOf_23 rfl (by decide) (fun c7 => ?_) (fun c7 => ?_)
      · replace h := iT c7 h
        refine vi_iconst (v := 0) C dX12_slotOf_30 rfl (by decide) ?_
        exact vi_cut [(0, .ref m), (1, .int (a1)), (2, .int (a2)), (3, .int (a3))] ⟨rfl, rfl, rfl, rfl, trivial⟩ (h31_6 _ h _ hR hF)
      · replace h := iN c7 h
        refine vi_iload_n C dX12_slotOf_26 rfl rfl ?_
        refine vi_goto (t' := 31) C dX12_slotOf_27 (by decide) ?_
        exact vi_cut [(0, .ref m), (1, .int (a1)), (2, .int (a2)), (3, .int (a3))] ⟨rfl, rfl, rfl, rfl, trivial⟩ (h31_6 _ h _ hR hF)

def F_X12_knownOf (M : vM) (a1 : Int32) (a2 : Int32) (a3 : Int32) : Option (vM × Int32) := lt1 (mW M 0 ((0 : Int32))) fun M1 => b2 (F_X12_isUp M1 (a1)) fun M2 v3 => if v3 = 0 then (some (M2, (-1 : Int32))) else (b2 (F_X12_isSession M2 (a2)) fun M4 v5 => if v5 = 0 then (some (M4, (-1 : Int32))) else (if a3 = 0 then ((mG M4 17 ((((16 : Int32) * a1) + a2))).bind fun v6 => some (M4, v6)) else ((mG M4 18 ((((16 : Int32) * a1) + a2))).bind fun v7 => some (M4, v7))))

set_option maxRecDepth 100000 in
set_option maxHeartbeats 4000000 in
theorem p_X12_knownOf {M : vM} {R : (vM × Int32)} {a1 : Int32} {a2 : Int32} {a3 : Int32} (h : F_X12_knownOf M a1 a2 a3 = some R) {E : vE} {S0 : vS} {sz m b : Nat} (hR : RM S0 sz m b M) : vi_Met E yX12_knownOf cX12_knownOf 4 (some .int) 2 0 0 [.ref m, .int (a1), .int (a2), .int (a3)] S0 sz (Q1 S0 sz m b R) := by
  refine vi_met (by decide) (Nat.le_of_ble_eq_true rfl) ?_
  intro X C
  have hF := rF.refl S0 m b
  unfold F_X12_knownOf at h
  refine vi_aload_n C dX12_knownOf_0 rfl rfl ?_
  refine vi_iconst (v := 0) C dX12_knownOf_1 rfl (by decide) ?_
  refine r_puti C dX12_knownOf_2 rfl (fpX12_204 _) rfl hR hF h (fun S M1 h hR hF => ?_)
  refine vi_aload_n C dX12_knownOf_5 rfl rfl ?_
  refine vi_iload_n C dX12_knownOf_6 rfl rfl ?_
  refine r_cv1 C [.int (a1)] [] dX12_knownOf_7 rfl ivX12_373 imX12_isUp rfl hR hF h (fun _ e => p_X12_isUp e hR) rfl (Nat.le_of_ble_eq_true rfl) ⟨by decide, by decide⟩ ⟨Nat.le_refl _, Nat.le_refl _⟩ (fun S M2 v3 h hR hF => ?_)
  refine vi_if_eq (t' := 20) C dX12_knownOf_10 rfl (by decide) (fun c10 => ?_) (fun c10 => ?_)
  · replace h := iT c10 h
    refine vi_iconst (v := -1) C dX12_knownOf_20 rfl (by decide) ?_
    exact r_ret1 C dX12_knownOf_21 rfl hR hF h
  · replace h := iN c10 h
    refine vi_iload_n C dX12_knownOf_13 rfl rfl ?_
    refine r_cs1 C [.int (a2)] [] dX12_knownOf_14 rfl ivX12_370 isX12_isSession hR hF h (fun _ e => p_X12_isSession e hR) rfl (Nat.le_of_ble_eq_true rfl) ⟨by decide, by decide⟩ ⟨Nat.le_refl _, Nat.le_refl _⟩ (fun S M4 v5 h hR hF => ?_)
    refine vi_if_ne (t' := 22) C dX12_knownOf_17 rfl (by decide) (fun c9 => ?_) (fun c9 => ?_)
    · replace h := iN c9 h
      refine vi_iload_n C dX12_knownOf_22 rfl rfl ?_
      refine vi_if_eq (t' := 40) C dX12_knownOf_23 rfl (by decide) (fun c8 => ?_) (fun c8 => ?_)
      · replace h := iT c8 h
        refine vi_aload_n C dX12_knownOf_40 rfl rfl ?_
        refine r_geta C dX12_knownOf_41 rfl fX12_67 rfl hR rfl ?_
        refine vi_bipush (v := 16) C dX12_knownOf_44 rfl (by decide) ?_
        refine vi_iload_n C dX12_knownOf_46 rfl rfl ?_
        refine vi_imul C dX12_knownOf_47 rfl ?_
        refine vi_iload_n C dX12_knownOf_48 rfl rfl ?_
        refine vi_iadd C dX12_knownOf_49 rfl ?_
        refine r_iaload C dX12_knownOf_50 rfl rfl hR h (fun v6 h => ?_)
        exact r_ret1 C dX12_knownOf_51 rfl hR hF h
      · replace h := iN c8 h
        refine vi_aload_n C dX12_knownOf_26 rfl rfl ?_
        refine r_geta C dX12_knownOf_27 rfl fX12_70 rfl hR rfl ?_
        refine vi_bipush (v := 16) C dX12_knownOf_30 rfl (by decide) ?_
        refine vi_iload_n C dX12_knownOf_32 rfl rfl ?_
        refine vi_imul C dX12_knownOf_33 rfl ?_
        refine vi_iload_n C dX12_knownOf_34 rfl rfl ?_
        refine vi_iadd C dX12_knownOf_35 rfl ?_
        refine r_iaload C dX12_knownOf_36 rfl rfl hR h (fun v7 h => ?_)
        refine vi_goto (t' := 51) C dX12_knownOf_37 (by decide) ?_
        exact r_ret1 C dX12_knownOf_51 rfl hR hF h
    · replace h := iT c9 h
      refine vi_iconst (v := -1) C dX12_knownOf_20 rfl (by decide) ?_
      exact r_ret1 C dX12_knownOf_21 rfl hR hF h

def F_X12_sessionOf (M : vM) (a1 : Int32) (a2 : Int32) : Option (vM × Int32) := lt1 (mW M 0 ((0 : Int32))) fun M1 => b2 (F_X12_isSession M1 (a1)) fun M2 v3 => if v3 = 0 then (some (M2, (-1 : Int32))) else (if a2 = 0 then ((mG M2 46 (a1)).bind fun v5 => some (M2, v5)) else if a2 = 1 then ((mG M2 47 (a1)).bind fun v7 => some (M2, v7)) else if a2 = 2 then ((mG M2 46 (a1)).bind fun v9 => if v9 = (1 : Int32) then ((mG M2 48 (a1)).bind fun v10 => some (M2, v10)) else ((mG M2 46 (a1)).bind fun v11 => if v11 = (2 : Int32) then ((mG M2 48 (a1)).bind fun v12 => some (M2, v12)) else (some (M2, (-1 : Int32))))) else if a2 = 3 then ((mG M2 49 (a1)).bind fun v16 => some (M2, v16)) else if a2 = 4 then ((mG M2 50 (a1)).bind fun v18 => some (M2, v18)) else if a2 = 5 then ((mG M2 51 (a1)).bind fun v20 => some (M2, v20)) else (some (M2, (-1 : Int32))))

set_option maxRecDepth 100000 in
set_option maxHeartbeats 4000000 in
theorem p_X12_sessionOf {M : vM} {R : (vM × Int32)} {a1 : Int32} {a2 : Int32} (h : F_X12_sessionOf M a1 a2 = some R) {E : vE} {S0 : vS} {sz m b : Nat} (hR : RM S0 sz m b M) : vi_Met E yX12_sessionOf cX12_sessionOf 3 (some .int) 1 0 0 [.ref m, .int (a1), .int (a2)] S0 sz (Q1 S0 sz m b R) := by
  refine vi_met (by decide) (Nat.le_of_ble_eq_true rfl) ?_
  intro X C
  have hF := rF.refl S0 m b
  unfold F_X12_sessionOf at h
  refine vi_aload_n C dX12_sessionOf_0 rfl rfl ?_
  refine vi_iconst (v := 0) C dX12_sessionOf_1 rfl (by decide) ?_
  refine r_puti C dX12_sessionOf_2 rfl (fpX12_204 _) rfl hR hF h (fun S M1 h hR hF => ?_)
  refine vi_iload_n C dX12_sessionOf_5 rfl rfl ?_
  refine r_cs1 C [.int (a1)] [] dX12_sessionOf_6 rfl ivX12_370 isX12_isSession hR hF h (fun _ e => p_X12_isSession e hR) rfl (Nat.le_of_ble_eq_true rfl) ⟨by decide, by decide⟩ ⟨Nat.le_refl _, Nat.le_refl _⟩ (fun S M2 v3 h hR hF => ?_)
  refine vi_if_ne (t' := 14) C dX12_sessionOf_9 rfl (by decide) (fun c22 => ?_) (fun c22 => ?_)
  · replace h := iN c22 h
    refine vi_iload_n C dX12_sessionOf_14 rfl rfl ?_
    by_cases c6 : a2 = 0
    · replace h := iT c6 h
      refine vi_tswI (v := 0) (t' := 52) C c6 dX12_sessionOf_15 (by decide) (by decide) rfl (by decide) ?_
      refine vi_aload_n C dX12_sessionOf_52 rfl rfl ?_
      refine r_geta C dX12_sessionOf_53 rfl fX12_157 rfl hR rfl ?_
      refine vi_iload_n C dX12_sessionOf_56 rfl rfl ?_
      refine r_iaload C dX12_sessionOf_57 rfl rfl hR h (fun v5 h => ?_)
      exact r_ret1 C dX12_sessionOf_58 rfl hR hF h
    replace h := iN c6 h
    by_cases c8 : a2 = 1
    · replace h := iT c8 h
      refine vi_tswI (v := 1) (t' := 59) C c8 dX12_sessionOf_15 (by decide) (by decide) rfl (by decide) ?_
      refine vi_aload_n C dX12_sessionOf_59 rfl rfl ?_
      refine r_geta C dX12_sessionOf_60 rfl fX12_160 rfl hR rfl ?_
      refine vi_iload_n C dX12_sessionOf_63 rfl rfl ?_
      refine r_iaload C dX12_sessionOf_64 rfl rfl hR h (fun v7 h => ?_)
      exact r_ret1 C dX12_sessionOf_65 rfl hR hF h
    replace h := iN c8 h
    by_cases c15 : a2 = 2
    · replace h := iT c15 h
      refine vi_tswI (v := 2) (t' := 66) C c15 dX12_sessionOf_15 (by decide) (by decide) rfl (by decide) ?_
      refine vi_aload_n C dX12_sessionOf_66 rfl rfl ?_
      refine r_geta C dX12_sessionOf_67 rfl fX12_157 rfl hR rfl ?_
      refine vi_iload_n C dX12_sessionOf_70 rfl rfl ?_
      refine r_iaload C dX12_sessionOf_71 rfl rfl hR h (fun v9 h => ?_)
      refine vi_iconst (v := 1) C dX12_sessionOf_72 rfl (by decide) ?_
      refine vi_icmp_eq (t' := 86) C dX12_sessionOf_73 rfl (by decide) (fun c14 => ?_) (fun c14 => ?_)
      · replace h := iT c14 h
        refine vi_aload_n C dX12_sessionOf_86 rfl rfl ?_
        refine r_geta C dX12_sessionOf_87 rfl fX12_163 rfl hR rfl ?_
        refine vi_iload_n C dX12_sessionOf_90 rfl rfl ?_
        refine r_iaload C dX12_sessionOf_91 rfl rfl hR h (fun v10 h => ?_)
        refine vi_goto (t' := 96) C dX12_sessionOf_92 (by decide) ?_
        exact r_ret1 C dX12_sessionOf_96 rfl hR hF h
      · replace h := iN c14 h
        refine vi_aload_n C dX12_sessionOf_76 rfl rfl ?_
        refine r_geta C dX12_sessionOf_77 rfl fX12_157 rfl hR rfl ?_
        refine vi_iload_n C dX12_sessionOf_80 rfl rfl ?_
        refine r_iaload C dX12_sessionOf_81 rfl rfl hR h (fun v11 h => ?_)
        refine vi_iconst (v := 2) C dX12_sessionOf_82 rfl (by decide) ?_
        refine vi_icmp_ne (t' := 95) C dX12_sessionOf_83 rfl (by decide) (fun c13 => ?_) (fun c13 => ?_)
        · replace h := iN c13 h
          refine vi_iconst (v := -1) C dX12_sessionOf_95 rfl (by decide) ?_
          exact r_ret1 C dX12_sessionOf_96 rfl hR hF h
        · replace h := iT c13 h
          refine vi_aload_n C dX12_sessionOf_86 rfl rfl ?_
          refine r_geta C dX12_sessionOf_87 rfl fX12_163 rfl hR rfl ?_
          refine vi_iload_n C dX12_sessionOf_90 rfl rfl ?_
          refine r_iaload C dX12_sessionOf_91 rfl rfl hR h (fun v12 h => ?_)
          refine vi_goto (t' := 96) C dX12_sessionOf_92 (by decide) ?_
          exact r_ret1 C dX12_sessionOf_96 rfl hR hF h
    replace h := iN c15 h
    by_cases c17 : a2 = 3
    · replace h := iT c17 h
      refine vi_tswI (v := 3) (t' := 97) C c17 dX12_sessionOf_15 (by decide) (by decide) rfl (by decide) ?_
      refine vi_aload_n C dX12_sessionOf_97 rfl rfl ?_
      refine r_geta C dX12_sessionOf_98 rfl fX12_166 rfl hR rfl ?_
      refine vi_iload_n C dX12_sessionOf_101 rfl rfl ?_
      refine r_iaload C dX12_sessionOf_102 rfl rfl hR h (fun v16 h => ?_)
      exact r_ret1 C dX12_sessionOf_103 rfl hR hF h
    replace h := iN c17 h
    by_cases c19 : a2 = 4
    · replace h := iT c19 h
      refine vi_tswI (v := 4) (t' := 104) C c19 dX12_sessionOf_15 (by decide) (by decide) rfl (by decide) ?_
      refine vi_aload_n C dX12_sessionOf_104 rfl rfl ?_
      refine r_geta C dX12_sessionOf_105 rfl fX12_169 rfl hR rfl ?_
      refine vi_iload_n C dX12_sessionOf_108 rfl rfl ?_
      refine r_iaload C dX12_sessionOf_109 rfl rfl hR h (fun v18 h => ?_)
      exact r_ret1 C dX12_sessionOf_110 rfl hR hF h
    replace h := iN c19 h
    by_cases c21 : a2 = 5
    · replace h := iT c21 h
      refine vi_tswI (v := 5) (t' := 111) C c21 dX12_sessionOf_15 (by decide) (by decide) rfl (by decide) ?_
      refine vi_aload_n C dX12_sessionOf_111 rfl rfl ?_
      refine r_geta C dX12_sessionOf_112 rfl fX12_172 rfl hR rfl ?_
      refine vi_iload_n C dX12_sessionOf_115 rfl rfl ?_
      refine r_iaload C dX12_sessionOf_116 rfl rfl hR h (fun v20 h => ?_)
      exact r_ret1 C dX12_sessionOf_117 rfl hR hF h
    replace h := iN c21 h
    have tc6 := tne (w := 0) c6 (by decide)
    have tc8 := tne (w := 1) c8 (by decide)
    have tc15 := tne (w := 2) c15 (by decide)
    have tc17 := tne (w := 3) c17 (by decide)
    have tc19 := tne (w := 4) c19 (by decide)
    have tc21 := tne (w := 5) c21 (by decide)
    refine vi_tswO (t' := 118) C dX12_sessionOf_15 (by omega) (by decide) ?_
    refine vi_iconst (v := -1) C dX12_sessionOf_118 rfl (by decide) ?_
    exact r_ret1 C dX12_sessionOf_119 rfl hR hF h
  · replace h := iT c22 h
    refine vi_iconst (v := -1) C dX12_sessionOf_12 rfl (by decide) ?_
    exact r_ret1 C dX12_sessionOf_13 rfl hR hF h

def F_X12_messageOf (M : vM) (a1 : Int32) (a2 : Int32) : Option (vM × Int32) := lt1 (mW M 0 ((0 : Int32))) fun M1 => if a1 < 0 then (some (M1, (-1 : Int32))) else (if (M1.1 53) ≤ a1 then (some (M1, (-1 : Int32))) else (if a2 < 0 then (some (M1, (-1 : Int32))) else (if a2 ≤ (9 : Int32) then (if a2 = (9 : Int32) then ((mG M1 41 (a1)).bind fun v13 => some (M1, v13)) else (if a2 = (7 : Int32) then ((mG M1 39 ((((8 : Int32) * a1) + (7 : Int32)))).bind fun v10 => if v10 ≤ 0 then (some (M1, (0 : Int32))) else (some (M1, (1 : Int32)))) else (if a2 = (8 : Int32) then ((F_X12_layFrame M1 (a1)).bind fun M8 => some (M8, (M8.1 45))) else (if a2 = (5 : Int32) then ((mG M1 39 ((((8 : Int32) * a1) + (5 : Int32)))).bind fun v3 => if v3 ≤ 0 then (some (M1, (-1 : Int32))) else ((mG M1 39 ((((8 : Int32) * a1) + (5 : Int32)))).bind fun v4 => (mG M1 0 (v4)).bind fun v5 => some (M1, v5))) else ((mG M1 39 ((((8 : Int32) * a1) + a2))).bind fun v2 => some (M1, v2)))))) else (some (M1, (-1 : Int32))))))

set_option maxRecDepth 100000 in
set_option maxHeartbeats 4000000 in
theorem p_X12_messageOf {M : vM} {R : (vM × Int32)} {a1 : Int32} {a2 : Int32} (h : F_X12_messageOf M a1 a2 = some R) {E : vE} {S0 : vS} {sz m b : Nat} (hR : RM S0 sz m b M) : vi_Met E yX12_messageOf cX12_messageOf 4 (some .int) 6 0 0 [.ref m, .int (a1), .int (a2)] S0 sz (Q1 S0 sz m b R) := by
  refine vi_met (by decide) (Nat.le_of_ble_eq_true rfl) ?_
  intro X C
  have hF := rF.refl S0 m b
  unfold F_X12_messageOf at h
  refine vi_aload_n C dX12_messageOf_0 rfl rfl ?_
  refine vi_iconst (v := 0) C dX12_messageOf_1 rfl (by decide) ?_
  refine r_puti C dX12_messageOf_2 rfl (fpX12_204 _) rfl hR hF h (fun S M1 h hR hF => ?_)
  refine vi_iload_n C dX12_messageOf_5 rfl rfl ?_
  refine vi_if_lt (t' := 27) C dX12_messageOf_6 rfl (by decide) (fun c18 => ?_) (fun c18 => ?_)
  · replace h := iT c18 h
    refine vi_iconst (v := -1) C dX12_messageOf_27 rfl (by decide) ?_
    exact r_ret1 C dX12_messageOf_28 rfl hR hF h
  · replace h := iN c18 h
    refine vi_iload_n C dX12_messageOf_9 rfl rfl ?_
    refine vi_aload_n C dX12_messageOf_10 rfl rfl ?_
    refine r_geti C dX12_messageOf_11 rfl fX12_290 rfl hR ?_
    refine vi_icmp_ge (t' := 27) C dX12_messageOf_14 rfl (by decide) (fun c17 => ?_) (fun c17 => ?_)
    · replace h := iT c17 h
      refine vi_iconst (v := -1) C dX12_messageOf_27 rfl (by decide) ?_
      exact r_ret1 C dX12_messageOf_28 rfl hR hF h
    · replace h := iN c17 h
      refine vi_iload_n C dX12_messageOf_17 rfl rfl ?_
      refine vi_if_lt (t' := 27) C dX12_messageOf_18 rfl (by decide) (fun c16 => ?_) (fun c16 => ?_)
      · replace h := iT c16 h
        refine vi_iconst (v := -1) C dX12_messageOf_27 rfl (by decide) ?_
        exact r_ret1 C dX12_messageOf_28 rfl hR hF h
      · replace h := iN c16 h
        refine vi_iload_n C dX12_messageOf_21 rfl rfl ?_
        refine vi_bipush (v := 9) C dX12_messageOf_22 rfl (by decide) ?_
        refine vi_icmp_le (t' := 29) C dX12_messageOf_24 rfl (by decide) (fun c15 => ?_) (fun c15 => ?_)
        · replace h := iT c15 h
          refine vi_bipush (v := 8) C dX12_messageOf_29 rfl (by decide) ?_
          refine vi_iload_n C dX12_messageOf_31 rfl rfl ?_
          refine vi_imul C dX12_messageOf_32 rfl ?_
          refine vi_istore_n C dX12_messageOf_33 rfl (by decide) ?_
          refine vi_iload_n C dX12_messageOf_34 rfl rfl ?_
          refine vi_bipush (v := 9) C dX12_messageOf_35 rfl (by decide) ?_
          refine vi_icmp_ne (t' := 47) C dX12_messageOf_37 rfl (by decide) (fun c14 => ?_) (fun c14 => ?_)
          · replace h := iN c14 h
            refine vi_iload_n C dX12_messageOf_47 rfl rfl ?_
            refine vi_bipush (v := 7) C dX12_messageOf_48 rfl (by decide) ?_
            refine vi_icmp_ne (t' := 71) C dX12_messageOf_50 rfl (by decide) (fun c12 => ?_) (fun c12 => ?_)
            · replace h := iN c12 h
              refine vi_iload_n C dX12_messageOf_71 rfl rfl ?_
              refine vi_bipush (v := 8) C dX12_messageOf_72 rfl (by decide) ?_
              refine vi_icmp_ne (t' := 87) C dX12_messageOf_74 rfl (by decide) (fun c9 => ?_) (fun c9 => ?_)
              · replace h := iN c9 h
                refine vi_iload_n C dX12_messageOf_87 rfl rfl ?_
                refine vi_iconst (v := 5) C dX12_messageOf_88 rfl (by decide) ?_
                refine vi_icmp_ne (t' := 121) C dX12_messageOf_89 rfl (by decide) (fun c7 => ?_) (fun c7 => ?_)
                · replace h := iN c7 h
                  refine vi_aload_n C dX12_messageOf_121 rfl rfl ?_
                  refine r_geta C dX12_messageOf_122 rfl fX12_136 rfl hR rfl ?_
                  refine vi_iload_n C dX12_messageOf_125 rfl rfl ?_
                  refine vi_iload_n C dX12_messageOf_126 rfl rfl ?_
                  refine vi_iadd C dX12_messageOf_127 rfl ?_
                  refine r_iaload C dX12_messageOf_128 rfl rfl hR h (fun v2 h => ?_)
                  exact r_ret1 C dX12_messageOf_129 rfl hR hF h
                · replace h := iT c7 h
                  refine vi_aload_n C dX12_messageOf_92 rfl rfl ?_
                  refine r_geta C dX12_messageOf_93 rfl fX12_136 rfl hR rfl ?_
                  refine vi_iload_n C dX12_messageOf_96 rfl rfl ?_
                  refine vi_iconst (v := 5) C dX12_messageOf_97 rfl (by decide) ?_
                  refine vi_iadd C dX12_messageOf_98 rfl ?_
                  refine r_iaload C dX12_messageOf_99 rfl rfl hR h (fun v3 h => ?_)
                  refine vi_if_le (t' := 119) C dX12_messageOf_100 rfl (by decide) (fun c6 => ?_) (fun c6 => ?_)
                  · replace h := iT c6 h
                    refine vi_iconst (v := -1) C dX12_messageOf_119 rfl (by decide) ?_
                    exact r_ret1 C dX12_messageOf_120 rfl hR hF h
                  · replace h := iN c6 h
                    refine vi_aload_n C dX12_messageOf_103 rfl rfl ?_
                    refine r_geta C dX12_messageOf_104 rfl fX12_13 rfl hR rfl ?_
                    refine vi_aload_n C dX12_messageOf_107 rfl rfl ?_
                    refine r_geta C dX12_messageOf_108 rfl fX12_136 rfl hR rfl ?_
                    refine vi_iload_n C dX12_messageOf_111 rfl rfl ?_
                    refine vi_iconst (v := 5) C dX12_messageOf_112 rfl (by decide) ?_
                    refine vi_iadd C dX12_messageOf_113 rfl ?_
                    refine r_iaload C dX12_messageOf_114 rfl rfl hR h (fun v4 h => ?_)
                    refine r_iaload C dX12_messageOf_115 rfl rfl hR h (fun v5 h => ?_)
                    refine vi_goto (t' := 120) C dX12_messageOf_116 (by decide) ?_
                    exact r_ret1 C dX12_messageOf_120 rfl hR hF h
              · replace h := iT c9 h
                refine vi_aload_n C dX12_messageOf_77 rfl rfl ?_
                refine vi_iload_n C dX12_messageOf_78 rfl rfl ?_
                refine r_cv0 C [.int (a1)] [] dX12_messageOf_79 rfl ivX12_391 imX12_layFrame rfl hR hF h (fun _ e => p_X12_layFrame e hR) rfl (Nat.le_of_ble_eq_true rfl) ⟨by decide, by decide⟩ ⟨Nat.le_refl _, Nat.le_refl _⟩ (fun S M8 h hR hF => ?_)
                refine vi_aload_n C dX12_messageOf_82 rfl rfl ?_
                refine r_geti C dX12_messageOf_83 rfl fX12_218 rfl hR ?_
                exact r_ret1 C dX12_messageOf_86 rfl hR hF h
            · replace h := iT c12 h
              refine vi_aload_n C dX12_messageOf_53 rfl rfl ?_
              refine r_geta C dX12_messageOf_54 rfl fX12_136 rfl hR rfl ?_
              refine vi_iload_n C dX12_messageOf_57 rfl rfl ?_
              refine vi_bipush (v := 7) C dX12_messageOf_58 rfl (by decide) ?_
              refine vi_iadd C dX12_messageOf_60 rfl ?_
              refine r_iaload C dX12_messageOf_61 rfl rfl hR h (fun v10 h => ?_)
              refine vi_if_le (t' := 69) C dX12_messageOf_62 rfl (by decide) (fun c11 => ?_) (fun c11 => ?_)
              · replace h := iT c11 h
                refine vi_iconst (v := 0) C dX12_messageOf_69 rfl (by decide) ?_
                exact r_ret1 C dX12_messageOf_70 rfl hR hF h
              · replace h := iN c11 h
                refine vi_iconst (v := 1) C dX12_messageOf_65 rfl (by decide) ?_
                refine vi_goto (t' := 70) C dX12_messageOf_66 (by decide) ?_
                exact r_ret1 C dX12_messageOf_70 rfl hR hF h
          · replace h := iT c14 h
            refine vi_aload_n C dX12_messageOf_40 rfl rfl ?_
            refine r_geta C dX12_messageOf_41 rfl fX12_142 rfl hR rfl ?_
            refine vi_iload_n C dX12_messageOf_44 rfl rfl ?_
            refine r_iaload C dX12_messageOf_45 rfl rfl hR h (fun v13 h => ?_)
            exact r_ret1 C dX12_messageOf_46 rfl hR hF h
        · replace h := iN c15 h
          refine vi_iconst (v := -1) C dX12_messageOf_27 rfl (by decide) ?_
          exact r_ret1 C dX12_messageOf_28 rfl hR hF h

def L_X12_lookAt_9 {ρ : Type}  (l1 : Int32) (kx53 : vM → Int32 → Option ρ) : Nat → vM → Int32 → Int32 → Option ρ
  | 0, _, _, _ => none
  | f + 1, M, l2, l3 => if (M.1 1) ≤ l3 then (kx53 M (l2)) else ((mG M 6 (l3)).bind fun v2 => if v2 = 0 then (L_X12_lookAt_9 l1 kx53 f M (l2) ((l3 + (1)))) else ((mG M 7 (l3)).bind fun v3 => if v3 ≤ l2 then (L_X12_lookAt_9 l1 kx53 f M (l2) ((l3 + (1)))) else ((mG M 7 (l3)).bind fun v4 => L_X12_lookAt_9 l1 kx53 f M (v4) ((l3 + (1))))))

def L_X12_lookAt_58 {ρ : Type}  (l1 : Int32) (l2 : Int32) (kx90 : vM → Int32 → Option ρ) : Nat → vM → Int32 → Int32 → Option ρ
  | 0, _, _, _ => none
  | f + 1, M, l3, l4 => if (16 : Int32) ≤ l4 then (kx90 M (l3)) else ((mG M 46 (l4)).bind fun v10 => if v10 = (2 : Int32) then (L_X12_lookAt_58 l1 l2 kx90 f M ((l3 + (1 : Int32))) ((l4 + (1)))) else (L_X12_lookAt_58 l1 l2 kx90 f M ((l3 + (0 : Int32))) ((l4 + (1)))))

def F_X12_lookAt (M : vM) (a1 : Int32) : Option (vM × Int32) := lt1 (mW M 0 ((0 : Int32))) fun M1 => L_X12_lookAt_9 (a1) (fun (M8 : vM) (l9 : Int32) => L_X12_lookAt_58 (a1) (l9) (fun (M13 : vM) (l14 : Int32) => if a1 = 0 then (some (M13, (M13.1 1))) else if a1 = 1 then (some (M13, (M13.1 2))) else if a1 = 2 then (some (M13, (M13.1 3))) else if a1 = 3 then (some (M13, (M13.1 53))) else if a1 = 4 then (some (M13, (M13.1 54))) else if a1 = 5 then (some (M13, (M13.1 55))) else if a1 = 6 then (some (M13, l9)) else if a1 = 7 then (some (M13, l14)) else if a1 = 8 then (some (M13, (M13.1 11))) else if a1 = 9 then (some (M13, (M13.1 56))) else (some (M13, (-1 : Int32)))) fu M8 ((0 : Int32)) ((0 : Int32))) fu M1 ((0 : Int32)) ((0 : Int32))

set_option maxRecDepth 100000 in
set_option maxHeartbeats 4000000 in
theorem w_X12_lookAt_9 {E : vE} {X : vX} {S0 : vS} {sz m b : Nat} {ρ : Type} {R : ρ} {Z : State → Prop} {l1 : Int32} {kx53 : vM → Int32 → Option ρ} (C : vi_C E X yX12_lookAt cX12_lookAt 5 (some .int) 0 0 0 (45 * 0)) (hx53 : ∀ (M : vM) (l2 : Int32), kx53 M l2 = some R → ∀ S, RM S sz m b M → rF S0 S m b → vi_W E X 5 Z 53 [(0, .ref m), (1, .int (l1)), (2, .int (l2))] [] S sz 0 0) : ∀ (f : Nat) (M : vM) (l2 : Int32) (l3 : Int32), L_X12_lookAt_9 l1 kx53 f M l2 l3 = some R → ∀ S, RM S sz m b M → rF S0 S m b → vi_W E X 5 Z 9 [(0, .ref m), (1, .int (l1)), (2, .int (l2)), (3, .int (l3))] [] S sz 0 0 := by
  intro f
  induction f with
  | zero => intro M l2 l3 h; cases h
  | succ f ih =>
    intro M l2 l3 h S hR hF
    rw [L_X12_lookAt_9] at h
    refine vi_iload_n C dX12_lookAt_9 rfl rfl ?_
    refine vi_aload_n C dX12_lookAt_10 rfl rfl ?_
    refine r_geti C dX12_lookAt_11 rfl fX12_184 rfl hR ?_
    refine vi_icmp_ge (t' := 53) C dX12_lookAt_14 rfl (by decide) (fun c7 => ?_) (fun c7 => ?_)
    · replace h := iT c7 h
      exact vi_cut [(0, .ref m), (1, .int (l1)), (2, .int (l2))] ⟨rfl, rfl, rfl, trivial⟩ (hx53 _ _ h _ hR hF)
    · replace h := iN c7 h
      refine vi_aload_n C dX12_lookAt_17 rfl rfl ?_
      refine r_geta C dX12_lookAt_18 rfl fX12_33 rfl hR rfl ?_
      refine vi_iload_n C dX12_lookAt_21 rfl rfl ?_
      refine r_zaload C dX12_lookAt_22 rfl rfl hR h (fun v2 h => ?_)
      refine vi_if_eq (t' := 45) C dX12_lookAt_23 rfl (by decide) (fun c6 => ?_) (fun c6 => ?_)
      · replace h := iT c6 h
        refine vi_iload_n C dX12_lookAt_45 rfl rfl ?_
        refine vi_istore_n C dX12_lookAt_46 rfl (by decide) ?_
        refine vi_iincv (v := 1) C dX12_lookAt_47 rfl rfl (by decide) (by decide) ?_
        refine vi_goto (t' := 9) C dX12_lookAt_50 (by decide) ?_
        exact vi_cut [(0, .ref m), (1, .int (l1)), (2, .int (l2)), (3, .int ((l3 + (1))))] ⟨rfl, rfl, rfl, rfl, trivial⟩ (ih _ _ _ h _ hR hF)
      · replace h := iN c6 h
        refine vi_aload_n C dX12_lookAt_26 rfl rfl ?_
        refine r_geta C dX12_lookAt_27 rfl fX12_37 rfl hR rfl ?_
        refine vi_iload_n C dX12_lookAt_30 rfl rfl ?_
        refine r_iaload C dX12_lookAt_31 rfl rfl hR h (fun v3 h => ?_)
        refine vi_iload_n C dX12_lookAt_32 rfl rfl ?_
        refine vi_icmp_le (t' := 45) C dX12_lookAt_33 rfl (by decide) (fun c5 => ?_) (fun c5 => ?_)
        · replace h := iT c5 h
          refine vi_iload_n C dX12_lookAt_45 rfl rfl ?_
          refine vi_istore_n C dX12_lookAt_46 rfl (by decide) ?_
          refine vi_iincv (v := 1) C dX12_lookAt_47 rfl rfl (by decide) (by decide) ?_
          refine vi_goto (t' := 9) C dX12_lookAt_50 (by decide) ?_
          exact vi_cut [(0, .ref m), (1, .int (l1)), (2, .int (l2)), (3, .int ((l3 + (1))))] ⟨rfl, rfl, rfl, rfl, trivial⟩ (ih _ _ _ h _ hR hF)
        · replace h := iN c5 h
          refine vi_aload_n C dX12_lookAt_36 rfl rfl ?_
          refine r_geta C dX12_lookAt_37 rfl fX12_37 rfl hR rfl ?_
          refine vi_iload_n C dX12_lookAt_40 rfl rfl ?_
          refine r_iaload C dX12_lookAt_41 rfl rfl hR h (fun v4 h => ?_)
          refine vi_goto (t' := 46) C dX12_lookAt_42 (by decide) ?_
          refine vi_istore_n C dX12_lookAt_46 rfl (by decide) ?_
          refine vi_iincv (v := 1) C dX12_lookAt_47 rfl rfl (by decide) (by decide) ?_
          refine vi_goto (t' := 9) C dX12_lookAt_50 (by decide) ?_
          exact vi_cut [(0, .ref m), (1, .int (l1)), (2, .int (v4)), (3, .int ((l3 + (1))))] ⟨rfl, rfl, rfl, rfl, trivial⟩ (ih _ _ _ h _ hR hF)

set_option maxRecDepth 100000 in
set_option maxHeartbeats 4000000 in
theorem w_X12_lookAt_58 {E : vE} {X : vX} {S0 : vS} {sz m b : Nat} {ρ : Type} {R : ρ} {Z : State → Prop} {l1 : Int32} {l2 : Int32} {kx90 : vM → Int32 → Option ρ} (C : vi_C E X yX12_lookAt cX12_lookAt 5 (some .int) 0 0 0 (45 * 0)) (hx90 : ∀ (M : vM) (l3 : Int32), kx90 M l3 = some R → ∀ S, RM S sz m b M → rF S0 S m b → vi_W E X 5 Z 90 [(0, .ref m), (1, .int (l1)), (2, .int (l2)), (3, .int (l3))] [] S sz 0 0) : ∀ (f : Nat) (M : vM) (l3 : Int32) (l4 : Int32), L_X12_lookAt_58 l1 l2 kx90 f M l3 l4 = some R → ∀ S, RM S sz m b M → rF S0 S m b → vi_W E X 5 Z 58 [(0, .ref m), (1, .int (l1)), (2, .int (l2)), (3, .int (l3)), (4, .int (l4))] [] S sz 0 0 := by
  intro f
  induction f with
  | zero => intro M l3 l4 h; cases h
  | succ f ih =>
    intro M l3 l4 h S hR hF
    rw [L_X12_lookAt_58] at h
    refine vi_iload C dX12_lookAt_58 rfl rfl ?_
    refine vi_bipush (v := 16) C dX12_lookAt_60 rfl (by decide) ?_
    refine vi_icmp_ge (t' := 90) C dX12_lookAt_62 rfl (by decide) (fun c12 => ?_) (fun c12 => ?_)
    · replace h := iT c12 h
      exact vi_cut [(0, .ref m), (1, .int (l1)), (2, .int (l2)), (3, .int (l3))] ⟨rfl, rfl, rfl, rfl, trivial⟩ (hx90 _ _ h _ hR hF)
    · replace h := iN c12 h
      refine vi_iload_n C dX12_lookAt_65 rfl rfl ?_
      refine vi_aload_n C dX12_lookAt_66 rfl rfl ?_
      refine r_geta C dX12_lookAt_67 rfl fX12_157 rfl hR rfl ?_
      refine vi_iload C dX12_lookAt_70 rfl rfl ?_
      refine r_iaload C dX12_lookAt_72 rfl rfl hR h (fun v10 h => ?_)
      refine vi_iconst (v := 2) C dX12_lookAt_73 rfl (by decide) ?_
      refine vi_icmp_ne (t' := 81) C dX12_lookAt_74 rfl (by decide) (fun c11 => ?_) (fun c11 => ?_)
      · replace h := iN c11 h
        refine vi_iconst (v := 0) C dX12_lookAt_81 rfl (by decide) ?_
        refine vi_iadd C dX12_lookAt_82 rfl ?_
        refine vi_istore_n C dX12_lookAt_83 rfl (by decide) ?_
        refine vi_iincv (v := 1) C dX12_lookAt_84 rfl rfl (by decide) (by decide) ?_
        refine vi_goto (t' := 58) C dX12_lookAt_87 (by decide) ?_
        exact vi_cut [(0, .ref m), (1, .int (l1)), (2, .int (l2)), (3, .int ((l3 + (0 : Int32)))), (4, .int ((l4 + (1))))] ⟨rfl, rfl, rfl, rfl, rfl, trivial⟩ (ih _ _ _ h _ hR hF)
      · replace h := iT c11 h
        refine vi_iconst (v := 1) C dX12_lookAt_77 rfl (by decide) ?_
        refine vi_goto (t' := 82) C dX12_lookAt_78 (by decide) ?_
        refine vi_iadd C dX12_lookAt_82 rfl ?_
        refine vi_istore_n C dX12_lookAt_83 rfl (by decide) ?_
        refine vi_iincv (v := 1) C dX12_lookAt_84 rfl rfl (by decide) (by decide) ?_
        refine vi_goto (t' := 58) C dX12_lookAt_87 (by decide) ?_
        exact vi_cut [(0, .ref m), (1, .int (l1)), (2, .int (l2)), (3, .int ((l3 + (1 : Int32)))), (4, .int ((l4 + (1))))] ⟨rfl, rfl, rfl, rfl, rfl, trivial⟩ (ih _ _ _ h _ hR hF)

set_option maxRecDepth 100000 in
set_option maxHeartbeats 4000000 in
theorem p_X12_lookAt {M : vM} {R : (vM × Int32)} {a1 : Int32} (h : F_X12_lookAt M a1 = some R) {E : vE} {S0 : vS} {sz m b : Nat} (hR : RM S0 sz m b M) : vi_Met E yX12_lookAt cX12_lookAt 5 (some .int) 0 0 0 [.ref m, .int (a1)] S0 sz (Q1 S0 sz m b R) := by
  refine vi_met (by decide) (Nat.le_of_ble_eq_true rfl) ?_
  intro X C
  have hF := rF.refl S0 m b
  unfold F_X12_lookAt at h
  refine vi_aload_n C dX12_lookAt_0 rfl rfl ?_
  refine vi_iconst (v := 0) C dX12_lookAt_1 rfl (by decide) ?_
  refine r_puti C dX12_lookAt_2 rfl (fpX12_204 _) rfl hR hF h (fun S M1 h hR hF => ?_)
  refine vi_iconst (v := 0) C dX12_lookAt_5 rfl (by decide) ?_
  refine vi_istore_n C dX12_lookAt_6 rfl (by decide) ?_
  refine vi_iconst (v := 0) C dX12_lookAt_7 rfl (by decide) ?_
  refine vi_istore_n C dX12_lookAt_8 rfl (by decide) ?_
  refine vi_cut [(0, .ref m), (1, .int (a1)), (2, .int ((0 : Int32))), (3, .int ((0 : Int32)))] ⟨rfl, rfl, rfl, rfl, trivial⟩ (w_X12_lookAt_9 C ?_ _ _ _ _ h _ hR hF)
  · intro M8 l9 h S hR hF
    refine vi_iconst (v := 0) C dX12_lookAt_53 rfl (by decide) ?_
    refine vi_istore_n C dX12_lookAt_54 rfl (by decide) ?_
    refine vi_iconst (v := 0) C dX12_lookAt_55 rfl (by decide) ?_
    refine vi_istore C dX12_lookAt_56 rfl (by decide) ?_
    refine vi_cut [(0, .ref m), (1, .int (a1)), (2, .int (l9)), (3, .int ((0 : Int32))), (4, .int ((0 : Int32)))] ⟨rfl, rfl, rfl, rfl, rfl, trivial⟩ (w_X12_lookAt_58 C ?_ _ _ _ _ h _ hR hF)
    · intro M13 l14 h S hR hF
      refine vi_iload_n C dX12_lookAt_90 rfl rfl ?_
      by_cases c16 : a1 = 0
      · replace h := iT c16 h
        refine vi_tswI (v := 0) (t' := 144) C c16 dX12_lookAt_91 (by decide) (by decide) rfl (by decide) ?_
        refine vi_aload_n C dX12_lookAt_144 rfl rfl ?_
        refine r_geti C dX12_lookAt_145 rfl fX12_184 rfl hR ?_
        exact r_ret1 C dX12_lookAt_148 rfl hR hF h
      replace h := iN c16 h
      by_cases c17 : a1 = 1
      · replace h := iT c17 h
        refine vi_tswI (v := 1) (t' := 149) C c17 dX12_lookAt_91 (by decide) (by decide) rfl (by decide) ?_
        refine vi_aload_n C dX12_lookAt_149 rfl rfl ?_
        refine r_geti C dX12_lookAt_150 rfl fX12_190 rfl hR ?_
        exact r_ret1 C dX12_lookAt_153 rfl hR hF h
      replace h := iN c17 h
      by_cases c18 : a1 = 2
      · replace h := iT c18 h
        refine vi_tswI (v := 2) (t' := 154) C c18 dX12_lookAt_91 (by decide) (by decide) rfl (by decide) ?_
        refine vi_aload_n C dX12_lookAt_154 rfl rfl ?_
        refine r_geti C dX12_lookAt_155 rfl fX12_193 rfl hR ?_
        exact r_ret1 C dX12_lookAt_158 rfl hR hF h
      replace h := iN c18 h
      by_cases c19 : a1 = 3
      · replace h := iT c19 h
        refine vi_tswI (v := 3) (t' := 159) C c19 dX12_lookAt_91 (by decide) (by decide) rfl (by decide) ?_
        refine vi_aload_n C dX12_lookAt_159 rfl rfl ?_
        refine r_geti C dX12_lookAt_160 rfl fX12_290 rfl hR ?_
        exact r_ret1 C dX12_lookAt_163 rfl hR hF h
      replace h := iN c19 h
      by_cases c20 : a1 = 4
      · replace h := iT c20 h
        refine vi_tswI (v := 4) (t' := 164) C c20 dX12_lookAt_91 (by decide) (by decide) rfl (by decide) ?_
        refine vi_aload_n C dX12_lookAt_164 rfl rfl ?_
        refine r_geti C dX12_lookAt_165 rfl fX12_287 rfl hR ?_
        exact r_ret1 C dX12_lookAt_168 rfl hR hF h
      replace h := iN c20 h
      by_cases c21 : a1 = 5
      · replace h := iT c21 h
        refine vi_tswI (v := 5) (t' := 169) C c21 dX12_lookAt_91 (by decide) (by decide) rfl (by decide) ?_
        refine vi_aload_n C dX12_lookAt_169 rfl rfl ?_
        refine r_geti C dX12_lookAt_170 rfl fX12_293 rfl hR ?_
        exact r_ret1 C dX12_lookAt_173 rfl hR hF h
      replace h := iN c21 h
      by_cases c22 : a1 = 6
      · replace h := iT c22 h
        refine vi_tswI (v := 6) (t' := 174) C c22 dX12_lookAt_91 (by decide) (by decide) rfl (by decide) ?_
        refine vi_iload_n C dX12_lookAt_174 rfl rfl ?_
        exact r_ret1 C dX12_lookAt_175 rfl hR hF h
      replace h := iN c22 h
      by_cases c23 : a1 = 7
      · replace h := iT c23 h
        refine vi_tswI (v := 7) (t' := 176) C c23 dX12_lookAt_91 (by decide) (by decide) rfl (by decide) ?_
        refine vi_iload_n C dX12_lookAt_176 rfl rfl ?_
        exact r_ret1 C dX12_lookAt_177 rfl hR hF h
      replace h := iN c23 h
      by_cases c24 : a1 = 8
      · replace h := iT c24 h
        refine vi_tswI (v := 8) (t' := 178) C c24 dX12_lookAt_91 (by decide) (by decide) rfl (by decide) ?_
        refine vi_aload_n C dX12_lookAt_178 rfl rfl ?_
        refine r_geti C dX12_lookAt_179 rfl fX12_187 rfl hR ?_
        exact r_ret1 C dX12_lookAt_182 rfl hR hF h
      replace h := iN c24 h
      by_cases c25 : a1 = 9
      · replace h := iT c25 h
        refine vi_tswI (v := 9) (t' := 183) C c25 dX12_lookAt_91 (by decide) (by decide) rfl (by decide) ?_
        refine vi_aload_n C dX12_lookAt_183 rfl rfl ?_
        refine r_geti C dX12_lookAt_184 rfl fX12_385 rfl hR ?_
        exact r_ret1 C dX12_lookAt_187 rfl hR hF h
      replace h := iN c25 h
      have tc16 := tne (w := 0) c16 (by decide)
      have tc17 := tne (w := 1) c17 (by decide)
      have tc18 := tne (w := 2) c18 (by decide)
      have tc19 := tne (w := 3) c19 (by decide)
      have tc20 := tne (w := 4) c20 (by decide)
      have tc21 := tne (w := 5) c21 (by decide)
      have tc22 := tne (w := 6) c22 (by decide)
      have tc23 := tne (w := 7) c23 (by decide)
      have tc24 := tne (w := 8) c24 (by decide)
      have tc25 := tne (w := 9) c25 (by decide)
      refine vi_tswO (t' := 188) C dX12_lookAt_91 (by omega) (by decide) ?_
      refine vi_iconst (v := -1) C dX12_lookAt_188 rfl (by decide) ?_
      exact r_ret1 C dX12_lookAt_189 rfl hR hF h
