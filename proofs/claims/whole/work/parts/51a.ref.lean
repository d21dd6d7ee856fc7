def F_X12_thrown (M : vM)  : Option (vM × Int32) := some (M, (M.1 0))

set_option maxRecDepth 100000 in
set_option maxHeartbeats 4000000 in
theorem p_X12_thrown {M : vM} {R : (vM × Int32)}  (h : F_X12_thrown M  = some R) {E : vE} {S0 : vS} {sz m b : Nat} (hR : RM S0 sz m b M) : vi_Met E yX12_thrown cX12_thrown 1 (some .int) 0 0 0 [.ref m] S0 sz (Q1 S0 sz m b R) := by
  refine vi_met (by decide) (Nat.le_of_ble_eq_true rfl) ?_
  intro X C
  have hF := rF.refl S0 m b
  unfold F_X12_thrown at h
  refine vi_aload_n C dX12_thrown_0 rfl rfl ?_
  refine r_geti C dX12_thrown_1 rfl fX12_204 rfl hR ?_
  exact r_ret1 C dX12_thrown_4 rfl hR hF h

def F_X12_isReplica (M : vM) (a1 : Int32) : Option (vM × Int32) := if a1 < 0 then (zb ((0 : Int32)) (some (M, (0 : Int32)))) else (if (M.1 1) ≤ a1 then (zb ((0 : Int32)) (some (M, (0 : Int32)))) else (zb ((1 : Int32)) (some (M, (1 : Int32)))))

set_option maxRecDepth 100000 in
set_option maxHeartbeats 4000000 in
theorem p_X12_isReplica {M : vM} {R : (vM × Int32)} {a1 : Int32} (h : F_X12_isReplica M a1 = some R) {E : vE} {S0 : vS} {sz m b : Nat} (hR : RM S0 sz m b M) : vi_Met E yX12_isReplica cX12_isReplica 2 (some .boolean) 0 0 0 [.ref m, .int (a1)] S0 sz (Q1 S0 sz m b R) := by
  refine vi_met (by decide) (Nat.le_of_ble_eq_true rfl) ?_
  intro X C
  have hF := rF.refl S0 m b
  unfold F_X12_isReplica at h
  refine vi_iload_n C dX12_isReplica_0 rfl rfl ?_
  refine vi_if_lt (t' := 16) C dX12_isReplica_1 rfl (by decide) (fun c2 => ?_) (fun c2 => ?_)
  · replace h := iT c2 h
    refine vi_iconst (v := 0) C dX12_isReplica_16 rfl (by decide) ?_
    exact r_retz C dX12_isReplica_17 rfl hR hF h
  · replace h := iN c2 h
    refine vi_iload_n C dX12_isReplica_4 rfl rfl ?_
    refine vi_aload_n C dX12_isReplica_5 rfl rfl ?_
    refine r_geti C dX12_isReplica_6 rfl fX12_184 rfl hR ?_
    refine vi_icmp_ge (t' := 16) C dX12_isReplica_9 rfl (by decide) (fun c1 => ?_) (fun c1 => ?_)
    · replace h := iT c1 h
      refine vi_iconst (v := 0) C dX12_isReplica_16 rfl (by decide) ?_
      exact r_retz C dX12_isReplica_17 rfl hR hF h
    · replace h := iN c1 h
      refine vi_iconst (v := 1) C dX12_isReplica_12 rfl (by decide) ?_
      refine vi_goto (t' := 17) C dX12_isReplica_13 (by decide) ?_
      exact r_retz C dX12_isReplica_17 rfl hR hF h

def F_X12_isUp (M : vM) (a1 : Int32) : Option (vM × Int32) := b2 (F_X12_isReplica M (a1)) fun M1 v2 => if v2 = 0 then (zb ((0 : Int32)) (some (M1, (0 : Int32)))) else (b2 (F_X12_isReplica M1 (a1)) fun M3 v4 => if v4 = 0 then ((mG M3 6 ((0 : Int32))).bind fun v5 => if v5 = 0 then (zb ((0 : Int32)) (some (M3, (0 : Int32)))) else (zb ((1 : Int32)) (some (M3, (1 : Int32))))) else ((mG M3 6 (a1)).bind fun v7 => if v7 = 0 then (zb ((0 : Int32)) (some (M3, (0 : Int32)))) else (zb ((1 : Int32)) (some (M3, (1 : Int32))))))

set_option maxRecDepth 100000 in
set_option maxHeartbeats 4000000 in
theorem p_X12_isUp {M : vM} {R : (vM × Int32)} {a1 : Int32} (h : F_X12_isUp M a1 = some R) {E : vE} {S0 : vS} {sz m b : Nat} (hR : RM S0 sz m b M) : vi_Met E yX12_isUp cX12_isUp 2 (some .boolean) 1 0 0 [.ref m, .int (a1)] S0 sz (Q1 S0 sz m b R) := by
  refine vi_met (by decide) (Nat.le_of_ble_eq_true rfl) ?_
  intro X C
  have hF := rF.refl S0 m b
  unfold F_X12_isUp at h
  refine vi_aload_n C dX12_isUp_0 rfl rfl ?_
  refine vi_iload_n C dX12_isUp_1 rfl rfl ?_
  refine r_cv1 C [.int (a1)] [] dX12_isUp_2 rfl ivX12_207 imX12_isReplica rfl hR hF h (fun _ e => p_X12_isReplica e hR) rfl (Nat.le_of_ble_eq_true rfl) ⟨by decide, by decide⟩ ⟨Nat.le_refl _, Nat.le_refl _⟩ (fun S M1 v2 h hR hF => ?_)
  refine vi_if_eq (t' := 33) C dX12_isUp_5 rfl (by decide) (fun c10 => ?_) (fun c10 => ?_)
  · replace h := iT c10 h
    refine vi_iconst (v := 0) C dX12_isUp_33 rfl (by decide) ?_
    exact r_retz C dX12_isUp_34 rfl hR hF h
  · replace h := iN c10 h
    refine vi_aload_n C dX12_isUp_8 rfl rfl ?_
    refine r_geta C dX12_isUp_9 rfl fX12_33 rfl hR rfl ?_
    refine vi_aload_n C dX12_isUp_12 rfl rfl ?_
    refine vi_iload_n C dX12_isUp_13 rfl rfl ?_
    refine r_cv1 C [.int (a1)] [.ref (b + 6)] dX12_isUp_14 rfl ivX12_207 imX12_isReplica rfl hR hF h (fun _ e => p_X12_isReplica e hR) rfl (Nat.le_of_ble_eq_true rfl) ⟨by decide, by decide⟩ ⟨Nat.le_refl _, Nat.le_refl _⟩ (fun S M3 v4 h hR hF => ?_)
    refine vi_if_eq (t' := 24) C dX12_isUp_17 rfl (by decide) (fun c9 => ?_) (fun c9 => ?_)
    · replace h := iT c9 h
      refine vi_iconst (v := 0) C dX12_isUp_24 rfl (by decide) ?_
      refine r_zaload C dX12_isUp_25 rfl rfl hR h (fun v5 h => ?_)
      refine vi_if_eq (t' := 33) C dX12_isUp_26 rfl (by decide) (fun c6 => ?_) (fun c6 => ?_)
      · replace h := iT c6 h
        refine vi_iconst (v := 0) C dX12_isUp_33 rfl (by decide) ?_
        exact r_retz C dX12_isUp_34 rfl hR hF h
      · replace h := iN c6 h
        refine vi_iconst (v := 1) C dX12_isUp_29 rfl (by decide) ?_
        refine vi_goto (t' := 34) C dX12_isUp_30 (by decide) ?_
        exact r_retz C dX12_isUp_34 rfl hR hF h
    · replace h := iN c9 h
      refine vi_iload_n C dX12_isUp_20 rfl rfl ?_
      refine vi_goto (t' := 25) C dX12_isUp_21 (by decide) ?_
      refine r_zaload C dX12_isUp_25 rfl rfl hR h (fun v7 h => ?_)
      refine vi_if_eq (t' := 33) C dX12_isUp_26 rfl (by decide) (fun c8 => ?_) (fun c8 => ?_)
      · replace h := iT c8 h
        refine vi_iconst (v := 0) C dX12_isUp_33 rfl (by decide) ?_
        exact r_retz C dX12_isUp_34 rfl hR hF h
      · replace h := iN c8 h
        refine vi_iconst (v := 1) C dX12_isUp_29 rfl (by decide) ?_
        refine vi_goto (t' := 34) C dX12_isUp_30 (by decide) ?_
        exact r_retz C dX12_isUp_34 rfl hR hF h

def F_X12_isSession (M : vM) (a1 : Int32) : Option (vM × Int32) := if a1 < 0 then (zb ((0 : Int32)) (some (M, (0 : Int32)))) else (if (16 : Int32) ≤ a1 then (zb ((0 : Int32)) (some (M, (0 : Int32)))) else (zb ((1 : Int32)) (some (M, (1 : Int32)))))

set_option maxRecDepth 100000 in
set_option maxHeartbeats 4000000 in
theorem p_X12_isSession {M : vM} {R : (vM × Int32)} {a1 : Int32} (h : F_X12_isSession M a1 = some R) {E : vE} {S0 : vS} {sz m b : Nat} (hR : RM S0 sz m b M) : vi_Met E yX12_isSession cX12_isSession 1 (some .boolean) 0 0 0 [.int (a1)] S0 sz (Q1 S0 sz m b R) := by
  refine vi_met (by decide) (Nat.le_of_ble_eq_true rfl) ?_
  intro X C
  have hF := rF.refl S0 m b
  unfold F_X12_isSession at h
  refine vi_iload_n C dX12_isSession_0 rfl rfl ?_
  refine vi_if_lt (t' := 14) C dX12_isSession_1 rfl (by decide) (fun c2 => ?_) (fun c2 => ?_)
  · replace h := iT c2 h
    refine vi_iconst (v := 0) C dX12_isSession_14 rfl (by decide) ?_
    exact r_retz C dX12_isSession_15 rfl hR hF h
  · replace h := iN c2 h
    refine vi_iload_n C dX12_isSession_4 rfl rfl ?_
    refine vi_bipush (v := 16) C dX12_isSession_5 rfl (by decide) ?_
    refine vi_icmp_ge (t' := 14) C dX12_isSession_7 rfl (by decide) (fun c1 => ?_) (fun c1 => ?_)
    · replace h := iT c1 h
      refine vi_iconst (v := 0) C dX12_isSession_14 rfl (by decide) ?_
      exact r_retz C dX12_isSession_15 rfl hR hF h
    · replace h := iN c1 h
      refine vi_iconst (v := 1) C dX12_isSession_10 rfl (by decide) ?_
      refine vi_goto (t' := 15) C dX12_isSession_11 (by decide) ?_
      exact r_retz C dX12_isSession_15 rfl hR hF h

def F_X12_isKey (M : vM) (a1 : Int32) : Option (vM × Int32) := if a1 < 0 then (zb ((0 : Int32)) (some (M, (0 : Int32)))) else (if (16 : Int32) ≤ a1 then (zb ((0 : Int32)) (some (M, (0 : Int32)))) else (zb ((1 : Int32)) (some (M, (1 : Int32)))))

set_option maxRecDepth 100000 in
set_option maxHeartbeats 4000000 in
theorem p_X12_isKey {M : vM} {R : (vM × Int32)} {a1 : Int32} (h : F_X12_isKey M a1 = some R) {E : vE} {S0 : vS} {sz m b : Nat} (hR : RM S0 sz m b M) : vi_Met E yX12_isKey cX12_isKey 1 (some .boolean) 0 0 0 [.int (a1)] S0 sz (Q1 S0 sz m b R) := by
  refine vi_met (by decide) (Nat.le_of_ble_eq_true rfl) ?_
  intro X C
  have hF := rF.refl S0 m b
  unfold F_X12_isKey at h
  refine vi_iload_n C dX12_isKey_0 rfl rfl ?_
  refine vi_if_lt (t' := 14) C dX12_isKey_1 rfl (by decide) (fun c2 => ?_) (fun c2 => ?_)
  · replace h := iT c2 h
    refine vi_iconst (v := 0) C dX12_isKey_14 rfl (by decide) ?_
    exact r_retz C dX12_isKey_15 rfl hR hF h
  · replace h := iN c2 h
    refine vi_iload_n C dX12_isKey_4 rfl rfl ?_
    refine vi_bipush (v := 16) C dX12_isKey_5 rfl (by decide) ?_
    refine vi_icmp_ge (t' := 14) C dX12_isKey_7 rfl (by decide) (fun c1 => ?_) (fun c1 => ?_)
    · replace h := iT c1 h
      refine vi_iconst (v := 0) C dX12_isKey_14 rfl (by decide) ?_
      exact r_retz C dX12_isKey_15 rfl hR hF h
    · replace h := iN c1 h
      refine vi_iconst (v := 1) C dX12_isKey_10 rfl (by decide) ?_
      refine vi_goto (t' := 15) C dX12_isKey_11 (by decide) ?_
      exact r_retz C dX12_isKey_15 rfl hR hF h

def F_X12_at (M : vM) (a1 : Int32) (a2 : Int32) : Option (vM × Int32) := some (M, (((40 : Int32) * a1) + (a2 - a2 / (40 : Int32) * (40 : Int32))))

set_option maxRecDepth 100000 in
set_option maxHeartbeats 4000000 in
theorem p_X12_at {M : vM} {R : (vM × Int32)} {a1 : Int32} {a2 : Int32} (h : F_X12_at M a1 a2 = some R) {E : vE} {S0 : vS} {sz m b : Nat} (hR : RM S0 sz m b M) : vi_Met E yX12_at cX12_at 2 (some .int) 0 0 0 [.int (a1), .int (a2)] S0 sz (Q1 S0 sz m b R) := by
  refine vi_met (by decide) (Nat.le_of_ble_eq_true rfl) ?_
  intro X C
  have hF := rF.refl S0 m b
  unfold F_X12_at at h
  refine vi_bipush (v := 40) C dX12_at_0 rfl (by decide) ?_
  refine vi_iload_n C dX12_at_2 rfl rfl ?_
  refine vi_imul C dX12_at_3 rfl ?_
  refine vi_iload_n C dX12_at_4 rfl rfl ?_
  refine vi_bipush (v := 40) C dX12_at_5 rfl (by decide) ?_
  refine vi_irem C dX12_at_7 rfl (by decide) ?_
  refine vi_iadd C dX12_at_8 rfl ?_
  exact r_ret1 C dX12_at_9 rfl hR hF h

def L_X12_verdictOf_36 {ρ : Type}  (l1 : Int32) (l2 : Int32) (kx84 : vM → Int32 → Option ρ) : Nat → vM → Int32 → Int32 → Option ρ
  | 0, _, _, _ => none
  | f + 1, M, l3, l4 => (mG M 7 (l1)).bind fun v6 => if v6 < l4 then (kx84 M (l3)) else (if l3 = 0 then (b2 (F_X12_at M (l1) (l4)) fun M7 v8 => (mG M7 15 (v8)).bind fun v9 => (mG M7 3 (l2)).bind fun v10 => if (v9 &&& v10) = 0 then (L_X12_verdictOf_36 l1 l2 kx84 f M7 ((0 : Int32)) ((l4 + (1)))) else (L_X12_verdictOf_36 l1 l2 kx84 f M7 ((1 : Int32)) ((l4 + (1))))) else (kx84 M (l3)))

def F_X12_verdictOf (M : vM) (a1 : Int32) (a2 : Int32) : Option (vM × Int32) := (mG M 2 (a2)).bind fun v1 => (mG M 7 (a1)).bind fun v2 => jn (fun (s0_25 : Int32) => (mG M 2 (a2)).bind fun v5 => L_X12_verdictOf_36 (a1) (a2) (fun (M14 : vM) (l15 : Int32) => if l15 = 0 then (some (M14, (1 : Int32))) else (some (M14, (2 : Int32)))) fu M (s0_25) ((v5 + (1 : Int32)))) (fun k25_3 => if (v2 - (M.1 2)) ≤ v1 then ((k25_3 ((0 : Int32)))) else ((k25_3 ((1 : Int32)))))

set_option maxRecDepth 100000 in
set_option maxHeartbeats 4000000 in
theorem w_X12_verdictOf_36 {E : vE} {X : vX} {S0 : vS} {sz m b : Nat} {ρ : Type} {R : ρ} {Z : State → Prop} {l1 : Int32} {l2 : Int32} {kx84 : vM → Int32 → Option ρ} (C : vi_C E X yX12_verdictOf cX12_verdictOf 5 (some .int) 1 0 0 (45 * 1)) (hx84 : ∀ (M : vM) (l3 : Int32), kx84 M l3 = some R → ∀ S, RM S sz m b M → rF S0 S m b → vi_W E X 5 Z 84 [(3, .int (l3))] [] S sz 0 0) : ∀ (f : Nat) (M : vM) (l3 : Int32) (l4 : Int32), L_X12_verdictOf_36 l1 l2 kx84 f M l3 l4 = some R → ∀ S, RM S sz m b M → rF S0 S m b → vi_W E X 5 Z 36 [(0, .ref m), (1, .int (l1)), (2, .int (l2)), (3, .int (l3)), (4, .int (l4))] [] S sz 0 0 := by
  intro f
  induction f with
  | zero => intro M l3 l4 h; cases h
  | succ f ih =>
    intro M l3 l4 h S hR hF
    rw [L_X12_verdictOf_36] at h
    refine vi_iload C dX12_verdictOf_36 rfl rfl ?_
    refine vi_aload_n C dX12_verdictOf_38 rfl rfl ?_
    refine r_geta C dX12_verdictOf_39 rfl fX12_37 rfl hR rfl ?_
    refine vi_iload_n C dX12_verdictOf_42 rfl rfl ?_
    refine r_iaload C dX12_verdictOf_43 rfl rfl hR h (fun v6 h => ?_)
    refine vi_icmp_gt (t' := 84) C dX12_verdictOf_44 rfl (by decide) (fun c13 => ?_) (fun c13 => ?_)
    · replace h := iT c13 h
      exact vi_cut [(3, .int (l3))] ⟨rfl, trivial⟩ (hx84 _ _ h _ hR hF)
    · replace h := iN c13 h
      refine vi_iload_n C dX12_verdictOf_47 rfl rfl ?_
      refine vi_if_ne (t' := 84) C dX12_verdictOf_48 rfl (by decide) (fun c12 => ?_) (fun c12 => ?_)
      · replace h := iN c12 h
        exact vi_cut [(3, .int (l3))] ⟨rfl, trivial⟩ (hx84 _ _ h _ hR hF)
      · replace h := iT c12 h
        refine vi_aload_n C dX12_verdictOf_51 rfl rfl ?_
        refine r_geta C dX12_verdictOf_52 rfl fX12_61 rfl hR rfl ?_
        refine vi_iload_n C dX12_verdictOf_55 rfl rfl ?_
        refine vi_iload C dX12_verdictOf_56 rfl rfl ?_
        refine r_cs1 C [.int (l1), .int (l4)] [.ref (b + 15)] dX12_verdictOf_58 rfl ivX12_211 isX12_at hR hF h (fun _ e => p_X12_at e hR) rfl (Nat.le_of_ble_eq_true rfl) ⟨by decide, by decide⟩ ⟨Nat.le_refl _, Nat.le_refl _⟩ (fun S M7 v8 h hR hF => ?_)
        refine r_iaload C dX12_verdictOf_61 rfl rfl hR h (fun v9 h => ?_)
        refine vi_aload_n C dX12_verdictOf_62 rfl rfl ?_
        refine r_geta C dX12_verdictOf_63 rfl fX12_23 rfl hR rfl ?_
        refine vi_iload_n C dX12_verdictOf_66 rfl rfl ?_
        refine r_iaload C dX12_verdictOf_67 rfl rfl hR h (fun v10 h => ?_)
        refine vi_iand C dX12_verdictOf_68 rfl ?_
        refine vi_if_eq (t' := 76) C dX12_verdictOf_69 rfl (by decide) (fun c11 => ?_) (fun c11 => ?_)
        · replace h := iT c11 h
          refine vi_iconst (v := 0) C dX12_verdictOf_76 rfl (by decide) ?_
          refine vi_istore_n C dX12_verdictOf_77 rfl (by decide) ?_
          refine vi_iincv (v := 1) C dX12_verdictOf_78 rfl rfl (by decide) (by decide) ?_
          refine vi_goto (t' := 36) C dX12_verdictOf_81 (by decide) ?_
          exact vi_cut [(0, .ref m), (1, .int (l1)), (2, .int (l2)), (3, .int ((0 : Int32))), (4, .int ((l4 + (1))))] ⟨rfl, rfl, rfl, rfl, rfl, trivial⟩ (ih _ _ _ h _ hR hF)
        · replace h := iN c11 h
          refine vi_iconst (v := 1) C dX12_verdictOf_72 rfl (by decide) ?_
          refine vi_goto (t' := 77) C dX12_verdictOf_73 (by decide) ?_
          refine vi_istore_n C dX12_verdictOf_77 rfl (by decide) ?_
          refine vi_iincv (v := 1) C dX12_verdictOf_78 rfl rfl (by decide) (by decide) ?_
          refine vi_goto (t' := 36) C dX12_verdictOf_81 (by decide) ?_
          exact vi_cut [(0, .ref m), (1, .int (l1)), (2, .int (l2)), (3, .int ((1 : Int32))), (4, .int ((l4 + (1))))] ⟨rfl, rfl, rfl, rfl, rfl, trivial⟩ (ih _ _ _ h _ hR hF)

set_option maxRecDepth 100000 in
set_option maxHeartbeats 4000000 in
theorem p_X12_verdictOf {M : vM} {R : (vM × Int32)} {a1 : Int32} {a2 : Int32} (h : F_X12_verdictOf M a1 a2 = some R) {E : vE} {S0 : vS} {sz m b : Nat} (hR : RM S0 sz m b M) : vi_Met E yX12_verdictOf cX12_verdictOf 5 (some .int) 1 0 0 [.ref m, .int (a1), .int (a2)] S0 sz (Q1 S0 sz m b R) := by
  refine vi_met (by decide) (Nat.le_of_ble_eq_true rfl) ?_
  intro X C
  have hF := rF.refl S0 m b
  unfold F_X12_verdictOf at h
  refine vi_aload_n C dX12_verdictOf_0 rfl rfl ?_
  refine r_geta C dX12_verdictOf_1 rfl fX12_20 rfl hR rfl ?_
  refine vi_iload_n C dX12_verdictOf_4 rfl rfl ?_
  refine r_iaload C dX12_verdictOf_5 rfl rfl hR h (fun v1 h => ?_)
  refine vi_aload_n C dX12_verdictOf_6 rfl rfl ?_
  refine r_geta C dX12_verdictOf_7 rfl fX12_37 rfl hR rfl ?_
  refine vi_iload_n C dX12_verdictOf_10 rfl rfl ?_
  refine r_iaload C dX12_verdictOf_11 rfl rfl hR h (fun v2 h => ?_)
  refine vi_aload_n C dX12_verdictOf_12 rfl rfl ?_
  refine r_geti C dX12_verdictOf_13 rfl fX12_190 rfl hR ?_
  refine vi_isub C dX12_verdictOf_16 rfl ?_
  refine r_jn h (fun k => ∀ (s0_25 : Int32), k s0_25 = some R → ∀ S, RM S sz m b M → rF S0 S m b → vi_W E X 5 (vi_Z E X (Q1 S0 sz m b R) 0 0) 25 [(0, .ref m), (1, .int (a1)), (2, .int (a2))] [.int (s0_25)] S sz 0 0) ?_ ?_
  · intro s0_25 h S hR hF
    refine vi_istore_n C dX12_verdictOf_25 rfl (by decide) ?_
    refine vi_aload_n C dX12_verdictOf_26 rfl rfl ?_
    refine r_geta C dX12_verdictOf_27 rfl fX12_20 rfl hR rfl ?_
    refine vi_iload_n C dX12_verdictOf_30 rfl rfl ?_
    refine r_iaload C dX12_verdictOf_31 rfl rfl hR h (fun v5 h => ?_)
    refine vi_iconst (v := 1) C dX12_verdictOf_32 rfl (by decide) ?_
    refine vi_iadd C dX12_verdictOf_33 rfl ?_
    refine vi_istore C dX12_verdictOf_34 rfl (by decide) ?_
    refine vi_cut [(0, .ref m), (1, .int (a1)), (2, .int (a2)), (3, .int (s0_25)), (4, .int ((v5 + (1 : Int32))))] ⟨rfl, rfl, rfl, rfl, rfl, trivial⟩ (w_X12_verdictOf_36 C ?_ _ _ _ _ h _ hR hF)
    · intro M14 l15 h S hR hF
      refine vi_iload_n C dX12_verdictOf_84 rfl rfl ?_
      refine vi_if_eq (t' := 92) C dX12_verdictOf_85 rfl (by decide) (fun c16 => ?_) (fun c16 => ?_)
      · replace h := iT c16 h
        refine vi_iconst (v := 1) C dX12_verdictOf_92 rfl (by decide) ?_
        exact r_ret1 C dX12_verdictOf_93 rfl hR hF h
      · replace h := iN c16 h
        refine vi_iconst (v := 2) C dX12_verdictOf_88 rfl (by decide) ?_
        refine vi_goto (t' := 93) C dX12_verdictOf_89 (by decide) ?_
        exact r_ret1 C dX12_verdictOf_93 rfl hR hF h
  · intro k25_3 h25_3 h
    refine vi_icmp_ge (t' := 24) C dX12_verdictOf_17 rfl (by decide) (fun c4 => ?_) (fun c4 => ?_)
    · replace h := iT c4 h
      refine vi_iconst (v := 0) C dX12_verdictOf_24 rfl (by decide) ?_
      exact vi_cut [(0, .ref m), (1, .int (a1)), (2, .int (a2))] ⟨rfl, rfl, rfl, trivial⟩ (h25_3 _ h _ hR hF)
    · replace h := iN c4 h
      refine vi_iconst (v := 1) C dX12_verdictOf_20 rfl (by decide) ?_
      refine vi_goto (t' := 25) C dX12_verdictOf_21 (by decide) ?_
      exact vi_cut [(0, .ref m), (1, .int (a1)), (2, .int (a2))] ⟨rfl, rfl, rfl, trivial⟩ (h25_3 _ h _ hR hF)

def L_X12_applyTo_111 {ρ : Type}  (l1 : Int32) (l2 : Int32) (l3 : Int32) (l4 : Int32) (l5 : Int32) (l6 : Int32) (l7 : Int32) (kx181 : vM → Option ρ) : Nat → vM → Int32 → Option ρ
  | 0, _, _ => none
  | f + 1, M, l8 => if (16 : Int32) ≤ l8 then (kx181 M ) else ((mG M 15 (l7)).bind fun v23 => if ((v23 >>> (l8 &&& 31)) &&& (1 : Int32)) = (1 : Int32) then ((mG M 5 ((((16 : Int32) * l2) + l8))).bind fun v26 => (mS M 14 ((((16 : Int32) * l7) + l8)) (v26)).bind fun M27 => L_X12_applyTo_111 l1 l2 l3 l4 l5 l6 l7 kx181 f M27 ((l8 + (1)))) else ((mG M 14 ((((16 : Int32) * l6) + l8))).bind fun v24 => (mS M 14 ((((16 : Int32) * l7) + l8)) (v24)).bind fun M25 => L_X12_applyTo_111 l1 l2 l3 l4 l5 l6 l7 kx181 f M25 ((l8 + (1)))))

def F_X12_applyTo (M : vM) (a1 : Int32) (a2 : Int32) : Option vM := (mG M 0 (a2)).bind fun v1 => (mG M 1 (a2)).bind fun v2 => (mG M 17 ((((16 : Int32) * a1) + v1))).bind fun v3 => jn (fun (s0_32 : Int32) => jn (fun (M10 : vM) (s0_49 : Int32) => (mG M10 7 (a1)).bind fun v11 => b2 (F_X12_at M10 (a1) (v11)) fun M12 v13 => (mG M12 7 (a1)).bind fun v14 => (mS M12 7 (a1) ((v14 + (1 : Int32)))).bind fun M15 => (mG M15 7 (a1)).bind fun v16 => b2 (F_X12_at M15 (a1) (v16)) fun M17 v18 => jn (fun (s2_107 : Int32) => (mS M17 15 (v18) (s2_107)).bind fun M22 => L_X12_applyTo_111 (a1) (a2) (v1) (s0_32) (s0_49) (v13) (v18) (fun (M30 : vM)  => jn (fun (M36 : vM) => (mS M36 16 (v18) (a2)).bind fun M37 => (mG M37 8 (a1)).bind fun v38 => (mG M37 7 (a1)).bind fun v39 => jn (fun (M44 : vM) => (mG M44 9 (a1)).bind fun v45 => (mG M44 7 (a1)).bind fun v46 => if (v46 - (M44.1 3)) ≤ v45 then (some M44) else ((mG M44 7 (a1)).bind fun v47 => (mS M44 9 (a1) ((v47 - (M44.1 3)))).bind fun M48 => some M48)) (fun k261_40 => if (v39 - (M37.1 2)) ≤ v38 then ((k261_40 (M37))) else ((mG M37 7 (a1)).bind fun v41 => (mS M37 8 (a1) ((v41 - (M37.1 2)))).bind fun M42 => (k261_40 (M42))))) (fun k216_31 => if s0_32 = 0 then ((k216_31 (M30))) else ((mG M30 1 (a2)).bind fun v32 => (mS M30 17 ((((16 : Int32) * a1) + v1)) (v32)).bind fun M33 => (mS M33 18 ((((16 : Int32) * a1) + v1)) (s0_49)).bind fun M34 => (k216_31 (M34))))) fu M22 ((0 : Int32))) (fun k107_19 => if s0_49 = (1 : Int32) then ((mG M17 4 (a2)).bind fun v20 => (k107_19 (v20))) else ((k107_19 ((0 : Int32)))))) (fun k49_6 => if s0_32 = 0 then ((k49_6 (M) ((0 : Int32)))) else (b2 (F_X12_verdictOf M (a1) (a2)) fun M7 v8 => (k49_6 (M7) (v8))))) (fun k32_4 => if v2 ≤ v3 then ((k32_4 ((0 : Int32)))) else ((k32_4 ((1 : Int32)))))

set_option maxRecDepth 100000 in
set_option maxHeartbeats 4000000 in
theorem w_X12_applyTo_111 {E : vE} {X : vX} {S0 : vS} {sz m b : Nat} {ρ : Type} {R : ρ} {Z : State → Prop} {l1 : Int32} {l2 : Int32} {l3 : Int32} {l4 : Int32} {l5 : Int32} {l6 : Int32} {l7 : Int32} {kx181 : vM → Option ρ} (C : vi_C E X yX12_applyTo cX12_applyTo 9 none 2 0 0 (45 * 2)) (hx181 : ∀ (M : vM) , kx181 M  = some R → ∀ S, RM S sz m b M → rF S0 S m b → vi_W E X 9 Z 181 [(0, .ref m), (1, .int (l1)), (2, .int (l2)), (3, .int (l3)), (4, .int (l4)), (5, .int (l5)), (7, .int (l7))] [] S sz 0 0) : ∀ (f : Nat) (M : vM) (l8 : Int32), L_X12_applyTo_111 l1 l2 l3 l4 l5 l6 l7 kx181 f M l8 = some R → ∀ S, RM S sz m b M → rF S0 S m b → vi_W E X 9 Z 111 [(0, .ref m), (1, .int (l1)), (2, .int (l2)), (3, .int (l3)), (4, .int (l4)), (5, .int (l5)), (6, .int (l6)), (7, .int (l7)), (8, .int (l8))] [] S sz 0 0 := by
  intro f
  induction f with
  | zero => intro M l8 h; cases h
  | succ f ih =>
    intro M l8 h S hR hF
    rw [L_X12_applyTo_111] at h
    refine vi_iload C dX12_applyTo_111 rfl rfl ?_
    refine vi_bipush (v := 16) C dX12_applyTo_113 rfl (by decide) ?_
    refine vi_icmp_ge (t' := 181) C dX12_applyTo_115 rfl (by decide) (fun c29 => ?_) (fun c29 => ?_)
    · replace h := iT c29 h
      exact vi_cut [(0, .ref m), (1, .int (l1)), (2, .int (l2)), (3, .int (l3)), (4, .int (l4)), (5, .int (l5)), (7, .int (l7))] ⟨rfl, rfl, rfl, rfl, rfl, rfl, rfl, trivial⟩ (hx181 _  h _ hR hF)
    · replace h := iN c29 h
      refine vi_aload_n C dX12_applyTo_118 rfl rfl ?_
      refine r_geta C dX12_applyTo_119 rfl fX12_58 rfl hR rfl ?_
      refine vi_bipush (v := 16) C dX12_applyTo_122 rfl (by decide) ?_
      refine vi_iload C dX12_applyTo_124 rfl rfl ?_
      refine vi_imul C dX12_applyTo_126 rfl ?_
      refine vi_iload C dX12_applyTo_127 rfl rfl ?_
      refine vi_iadd C dX12_applyTo_129 rfl ?_
      refine vi_aload_n C dX12_applyTo_130 rfl rfl ?_
      refine r_geta C dX12_applyTo_131 rfl fX12_61 rfl hR rfl ?_
      refine vi_iload C dX12_applyTo_134 rfl rfl ?_
      refine r_iaload C dX12_applyTo_136 rfl rfl hR h (fun v23 h => ?_)
      refine vi_iload C dX12_applyTo_137 rfl rfl ?_
      refine vi_ishr C dX12_applyTo_139 rfl ?_
      refine vi_iconst (v := 1) C dX12_applyTo_140 rfl (by decide) ?_
      refine vi_iand C dX12_applyTo_141 rfl ?_
      refine vi_iconst (v := 1) C dX12_applyTo_142 rfl (by decide) ?_
      refine vi_icmp_ne (t' := 161) C dX12_applyTo_143 rfl (by decide) (fun c28 => ?_) (fun c28 => ?_)
      · replace h := iN c28 h
        refine vi_aload_n C dX12_applyTo_161 rfl rfl ?_
        refine r_geta C dX12_applyTo_162 rfl fX12_58 rfl hR rfl ?_
        refine vi_bipush (v := 16) C dX12_applyTo_165 rfl (by decide) ?_
        refine vi_iload C dX12_applyTo_167 rfl rfl ?_
        refine vi_imul C dX12_applyTo_169 rfl ?_
        refine vi_iload C dX12_applyTo_170 rfl rfl ?_
        refine vi_iadd C dX12_applyTo_172 rfl ?_
        refine r_iaload C dX12_applyTo_173 rfl rfl hR h (fun v24 h => ?_)
        refine r_iastore C dX12_applyTo_174 rfl rfl hR hF h (fun S M25 h hR hF => ?_)
        refine vi_iincv (v := 1) C dX12_applyTo_175 rfl rfl (by decide) (by decide) ?_
        refine vi_goto (t' := 111) C dX12_applyTo_178 (by decide) ?_
        exact vi_cut [(0, .ref m), (1, .int (l1)), (2, .int (l2)), (3, .int (l3)), (4, .int (l4)), (5, .int (l5)), (6, .int (l6)), (7, .int (l7)), (8, .int ((l8 + (1))))] ⟨rfl, rfl, rfl, rfl, rfl, rfl, rfl, rfl, rfl, trivial⟩ (ih _ _ h _ hR hF)
      · replace h := iT c28 h
        refine vi_aload_n C dX12_applyTo_146 rfl rfl ?_
        refine r_geta C dX12_applyTo_147 rfl fX12_30 rfl hR rfl ?_
        refine vi_bipush (v := 16) C dX12_applyTo_150 rfl (by decide) ?_
        refine vi_iload_n C dX12_applyTo_152 rfl rfl ?_
        refine vi_imul C dX12_applyTo_153 rfl ?_
        refine vi_iload C dX12_applyTo_154 rfl rfl ?_
        refine vi_iadd C dX12_applyTo_156 rfl ?_
        refine r_iaload C dX12_applyTo_157 rfl rfl hR h (fun v26 h => ?_)
        refine vi_goto (t' := 174) C dX12_applyTo_158 (by decide) ?_
        refine r_iastore C dX12_applyTo_174 rfl rfl hR hF h (fun S M27 h hR hF => ?_)
        refine vi_iincv (v := 1) C dX12_applyTo_175 rfl rfl (by decide) (by decide) ?_
        refine vi_goto (t' := 111) C dX12_applyTo_178 (by decide) ?_
        exact vi_cut [(0, .ref m), (1, .int (l1)), (2, .int (l2)), (3, .int (l3)), (4, .int (l4)), (5, .int (l5)), (6, .int (l6)), (7, .int (l7)), (8, .int ((l8 + (1))))] ⟨rfl, rfl, rfl, rfl, rfl, rfl, rfl, rfl, rfl, trivial⟩ (ih _ _ h _ hR hF)

set_option maxRecDepth 100000 in
set_option maxHeartbeats 4000000 in
theorem p_X12_applyTo {M : vM} {R : vM} {a1 : Int32} {a2 : Int32} (h : F_X12_applyTo M a1 a2 = some R) {E : vE} {S0 : vS} {sz m b : Nat} (hR : RM S0 sz m b M) : vi_Met E yX12_applyTo cX12_applyTo 9 none 2 0 0 [.ref m, .int (a1), .int (a2)] S0 sz (Q0 S0 sz m b R) := by
  refine vi_met (by decide) (Nat.le_of_ble_eq_true rfl) ?_
  intro X C
  have hF := rF.refl S0 m b
  unfold F_X12_applyTo at h
  refine vi_aload_n C dX12_applyTo_0 rfl rfl ?_
  refine r_geta C dX12_applyTo_1 rfl fX12_13 rfl hR rfl ?_
  refine vi_iload_n C dX12_applyTo_4 rfl rfl ?_
  refine r_iaload C dX12_applyTo_5 rfl rfl hR h (fun v1 h => ?_)
  refine vi_istore_n C dX12_applyTo_6 rfl (by decide) ?_
  refine vi_aload_n C dX12_applyTo_7 rfl rfl ?_
  refine r_geta C dX12_applyTo_8 rfl fX12_17 rfl hR rfl ?_
  refine vi_iload_n C dX12_applyTo_11 rfl rfl ?_
  refine r_iaload C dX12_applyTo_12 rfl rfl hR h (fun v2 h => ?_)
  refine vi_aload_n C dX12_applyTo_13 rfl rfl ?_
  refine r_geta C dX12_applyTo_14 rfl fX12_67 rfl hR rfl ?_
  refine vi_bipush (v := 16) C dX12_applyTo_17 rfl (by decide) ?_
  refine vi_iload_n C dX12_applyTo_19 rfl rfl ?_
  refine vi_imul C dX12_applyTo_20 rfl ?_
  refine vi_iload_n C dX12_applyTo_21 rfl rfl ?_
  refine vi_iadd C dX12_applyTo_22 rfl ?_
  refine r_iaload C dX12_applyTo_23 rfl rfl hR h (fun v3 h => ?_)
  refine r_jn h (fun k => ∀ (s0_32 : Int32), k s0_32 = some R → ∀ S, RM S sz m b M → rF S0 S m b → vi_W E X 9 (vi_Z E X (Q0 S0 sz m b R) 0 0) 32 [(0, .ref m), (1, .int (a1)), (2, .int (a2)), (3, .int (v1))] [.int (s0_32)] S sz 0 0) ?_ ?_
  · intro s0_32 h S hR hF
    refine vi_istore C dX12_applyTo_32 rfl (by decide) ?_
    refine vi_iload C dX12_applyTo_34 rfl rfl ?_
    refine r_jn h (fun k => ∀ (M10 : vM) (s0_49 : Int32), k M10 s0_49 = some R → ∀ S, RM S sz m b M10 → rF S0 S m b → vi_W E X 9 (vi_Z E X (Q0 S0 sz m b R) 0 0) 49 [(0, .ref m), (1, .int (a1)), (2, .int (a2)), (3, .int (v1)), (4, .int (s0_32))] [.int (s0_49)] S sz 0 0) ?_ ?_
    · intro M10 s0_49 h S hR hF
      refine vi_istore C dX12_applyTo_49 rfl (by decide) ?_
      refine vi_iload_n C dX12_applyTo_51 rfl rfl ?_
      refine vi_aload_n C dX12_applyTo_52 rfl rfl ?_
      refine r_geta C dX12_applyTo_53 rfl fX12_37 rfl hR rfl ?_
      refine vi_iload_n C dX12_applyTo_56 rfl rfl ?_
      refine r_iaload C dX12_applyTo_57 rfl rfl hR h (fun v11 h => ?_)
      refine r_cs1 C [.int (a1), .int (v11)] [] dX12_applyTo_58 rfl ivX12_211 isX12_at hR hF h (fun _ e => p_X12_at e hR) rfl (Nat.le_of_ble_eq_true rfl) ⟨by decide, by decide⟩ ⟨Nat.le_refl _, Nat.le_refl _⟩ (fun S M12 v13 h hR hF => ?_)
      refine vi_istore C dX12_applyTo_61 rfl (by decide) ?_
      refine vi_aload_n C dX12_applyTo_63 rfl rfl ?_
      refine r_geta C dX12_applyTo_64 rfl fX12_37 rfl hR rfl ?_
      refine vi_iload_n C dX12_applyTo_67 rfl rfl ?_
      refine vi_dup2 C dX12_applyTo_68 rfl rfl rfl ?_
      refine r_iaload C dX12_applyTo_69 rfl rfl hR h (fun v14 h => ?_)
      refine vi_iconst (v := 1) C dX12_applyTo_70 rfl (by decide) ?_
      refine vi_iadd C dX12_applyTo_71 rfl ?_
      refine r_iastore C dX12_applyTo_72 rfl rfl hR hF h (fun S M15 h hR hF => ?_)
      refine vi_iload_n C dX12_applyTo_73 rfl rfl ?_
      refine vi_aload_n C dX12_applyTo_74 rfl rfl ?_
      refine r_geta C dX12_applyTo_75 rfl fX12_37 rfl hR rfl ?_
      refine vi_iload_n C dX12_applyTo_78 rfl rfl ?_
      refine r_iaload C dX12_applyTo_79 rfl rfl hR h (fun v16 h => ?_)
      refine r_cs1 C [.int (a1), .int (v16)] [] dX12_applyTo_80 rfl ivX12_211 isX12_at hR hF h (fun _ e => p_X12_at e hR) rfl (Nat.le_of_ble_eq_true rfl) ⟨by decide, by decide⟩ ⟨Nat.le_refl _, Nat.le_refl _⟩ (fun S M17 v18 h hR hF => ?_)
      refine vi_istore C dX12_applyTo_83 rfl (by decide) ?_
      refine vi_aload_n C dX12_applyTo_85 rfl rfl ?_
      refine r_geta C dX12_applyTo_86 rfl fX12_61 rfl hR rfl ?_
      refine vi_iload C dX12_applyTo_89 rfl rfl ?_
      refine vi_iload C dX12_applyTo_91 rfl rfl ?_
      refine vi_iconst (v := 1) C dX12_applyTo_93 rfl (by decide) ?_
      refine r_jn h (fun k => ∀ (s2_107 : Int32), k s2_107 = some R → ∀ S, RM S sz m b M17 → rF S0 S m b → vi_W E X 9 (vi_Z E X (Q0 S0 sz m b R) 0 0) 107 [(0, .ref m), (1, .int (a1)), (2, .int (a2)), (3, .int (v1)), (4, .int (s0_32)), (5, .int (s0_49)), (6, .int (v13)), (7, .int (v18))] [.int (s2_107), .int (v18), .ref (b + 15)] S sz 0 0) ?_ ?_
      · intro s2_107 h S hR hF
        refine r_iastore C dX12_applyTo_107 rfl rfl hR hF h (fun S M22 h hR hF => ?_)
        refine vi_iconst (v := 0) C dX12_applyTo_108 rfl (by decide) ?_
        refine vi_istore C dX12_applyTo_109 rfl (by decide) ?_
        refine vi_cut [(0, .ref m), (1, .int (a1)), (2, .int (a2)), (3, .int (v1)), (4, .int (s0_32)), (5, .int (s0_49)), (6, .int (v13)), (7, .int (v18)), (8, .int ((0 : Int32)))] ⟨rfl, rfl, rfl, rfl, rfl, rfl, rfl, rfl, rfl, trivial⟩ (w_X12_applyTo_111 C ?_ _ _ _ h _ hR hF)
        · intro M30 h S hR hF
          refine vi_iload C dX12_applyTo_181 rfl rfl ?_
          refine r_jn h (fun k => ∀ (M36 : vM), k M36 = some R → ∀ S, RM S sz m b M36 → rF S0 S m b → vi_W E X 9 (vi_Z E X (Q0 S0 sz m b R) 0 0) 216 [(0, .ref m), (1, .int (a1)), (2, .int (a2)), (7, .int (v18))] [] S sz 0 0) ?_ ?_
          · intro M36 h S hR hF
            refine vi_aload_n C dX12_applyTo_216 rfl rfl ?_
            refine r_geta C dX12_applyTo_217 rfl fX12_64 rfl hR rfl ?_
            refine vi_iload C dX12_applyTo_220 rfl rfl ?_
            refine vi_iload_n C dX12_applyTo_222 rfl rfl ?_
            refine r_iastore C dX12_applyTo_223 rfl rfl hR hF h (fun S M37 h hR hF => ?_)
            refine vi_aload_n C dX12_applyTo_224 rfl rfl ?_
            refine r_geta C dX12_applyTo_225 rfl fX12_40 rfl hR rfl ?_
            refine vi_iload_n C dX12_applyTo_228 rfl rfl ?_
            refine r_iaload C dX12_applyTo_229 rfl rfl hR h (fun v38 h => ?_)
            refine vi_aload_n C dX12_applyTo_230 rfl rfl ?_
            refine r_geta C dX12_applyTo_231 rfl fX12_37 rfl hR rfl ?_
            refine vi_iload_n C dX12_applyTo_234 rfl rfl ?_
            refine r_iaload C dX12_applyTo_235 rfl rfl hR h (fun v39 h => ?_)
            refine vi_aload_n C dX12_applyTo_236 rfl rfl ?_
            refine r_geti C dX12_applyTo_237 rfl fX12_190 rfl hR ?_
            refine vi_isub C dX12_applyTo_240 rfl ?_
            refine r_jn h (fun k => ∀ (M44 : vM), k M44 = some R → ∀ S, RM S sz m b M44 → rF S0 S m b → vi_W E X 9 (vi_Z E X (Q0 S0 sz m b R) 0 0) 261 [(0, .ref m), (1, .int (a1))] [] S sz 0 0) ?_ ?_
            · intro M44 h S hR hF
              refine vi_aload_n C dX12_applyTo_261 rfl rfl ?_
              refine r_geta C dX12_applyTo_262 rfl fX12_43 rfl hR rfl ?_
              refine vi_iload_n C dX12_applyTo_265 rfl rfl ?_
              refine r_iaload C dX12_applyTo_266 rfl rfl hR h (fun v45 h => ?_)
              refine vi_aload_n C dX12_applyTo_267 rfl rfl ?_
              refine r_geta C dX12_applyTo_268 rfl fX12_37 rfl hR rfl ?_
              refine vi_iload_n C dX12_applyTo_271 rfl rfl ?_
              refine r_iaload C dX12_applyTo_272 rfl rfl hR h (fun v46 h => ?_)
              refine vi_aload_n C dX12_applyTo_273 rfl rfl ?_
              refine r_geti C dX12_applyTo_274 rfl fX12_193 rfl hR ?_
              refine vi_isub C dX12_applyTo_277 rfl ?_
              refine vi_icmp_ge (t' := 298) C dX12_applyTo_278 rfl (by decide) (fun c49 => ?_) (fun c49 => ?_)
              · replace h := iT c49 h
                exact r_ret0 C dX12_applyTo_298 rfl hR hF h
              · replace h := iN c49 h
                refine vi_aload_n C dX12_applyTo_281 rfl rfl ?_
                refine r_geta C dX12_applyTo_282 rfl fX12_43 rfl hR rfl ?_
                refine vi_iload_n C dX12_applyTo_285 rfl rfl ?_
                refine vi_aload_n C dX12_applyTo_286 rfl rfl ?_
                refine r_geta C dX12_applyTo_287 rfl fX12_37 rfl hR rfl ?_
                refine vi_iload_n C dX12_applyTo_290 rfl rfl ?_
                refine r_iaload C dX12_applyTo_291 rfl rfl hR h (fun v47 h => ?_)
                refine vi_aload_n C dX12_applyTo_292 rfl rfl ?_
                refine r_geti C dX12_applyTo_293 rfl fX12_193 rfl hR ?_
                refine vi_isub C dX12_applyTo_296 rfl ?_
                refine r_iastore C dX12_applyTo_297 rfl rfl hR hF h (fun S M48 h hR hF => ?_)
                exact r_ret0 C dX12_applyTo_298 rfl hR hF h
            · intro k261_40 h261_40 h
              refine vi_icmp_ge (t' := 261) C dX12_applyTo_241 rfl (by decide) (fun c43 => ?_) (fun c43 => ?_)
              · replace h := iT c43 h
                exact vi_cut [(0, .ref m), (1, .int (a1))] ⟨rfl, rfl, trivial⟩ (h261_40 _ h _ hR hF)
              · replace h := iN c43 h
                refine vi_aload_n C dX12_applyTo_244 rfl rfl ?_
                refine r_geta C dX12_applyTo_245 rfl fX12_40 rfl hR rfl ?_
                refine vi_iload_n C dX12_applyTo_248 rfl rfl ?_
                refine vi_aload_n C dX12_applyTo_249 rfl rfl ?_
                refine r_geta C dX12_applyTo_250 rfl fX12_37 rfl hR rfl ?_
                refine vi_iload_n C dX12_applyTo_253 rfl rfl ?_
                refine r_iaload C dX12_applyTo_254 rfl rfl hR h (fun v41 h => ?_)
                refine vi_aload_n C dX12_applyTo_255 rfl rfl ?_
                refine r_geti C dX12_applyTo_256 rfl fX12_190 rfl hR ?_
                refine vi_isub C dX12_applyTo_259 rfl ?_
                refine r_iastore C dX12_applyTo_260 rfl rfl hR hF h (fun S M42 h hR hF => ?_)
                exact vi_cut [(0, .ref m), (1, .int (a1))] ⟨rfl, rfl, trivial⟩ (h261_40 _ h _ hR hF)
          · intro k216_31 h216_31 h
            refine vi_if_eq (t' := 216) C dX12_applyTo_183 rfl (by decide) (fun c35 => ?_) (fun c35 => ?_)
            · replace h := iT c35 h
              exact vi_cut [(0, .ref m), (1, .int (a1)), (2, .int (a2)), (7, .int (v18))] ⟨rfl, rfl, rfl, rfl, trivial⟩ (h216_31 _ h _ hR hF)
            · replace h := iN c35 h
              refine vi_aload_n C dX12_applyTo_186 rfl rfl ?_
              refine r_geta C dX12_applyTo_187 rfl fX12_67 rfl hR rfl ?_
              refine vi_bipush (v := 16) C dX12_applyTo_190 rfl (by decide) ?_
              refine vi_iload_n C dX12_applyTo_192 rfl rfl ?_
              refine vi_imul C dX12_applyTo_193 rfl ?_
              refine vi_iload_n C dX12_applyTo_194 rfl rfl ?_
              refine vi_iadd C dX12_applyTo_195 rfl ?_
              refine vi_aload_n C dX12_applyTo_196 rfl rfl ?_
              refine r_geta C dX12_applyTo_197 rfl fX12_17 rfl hR rfl ?_
              refine vi_iload_n C dX12_applyTo_200 rfl rfl ?_
              refine r_iaload C dX12_applyTo_201 rfl rfl hR h (fun v32 h => ?_)
              refine r_iastore C dX12_applyTo_202 rfl rfl hR hF h (fun S M33 h hR hF => ?_)
              refine vi_aload_n C dX12_applyTo_203 rfl rfl ?_
              refine r_geta C dX12_applyTo_204 rfl fX12_70 rfl hR rfl ?_
              refine vi_bipush (v := 16) C dX12_applyTo_207 rfl (by decide) ?_
              refine vi_iload_n C dX12_applyTo_209 rfl rfl ?_
              refine vi_imul C dX12_applyTo_210 rfl ?_
              refine vi_iload_n C dX12_applyTo_211 rfl rfl ?_
              refine vi_iadd C dX12_applyTo_212 rfl ?_
              refine vi_iload C dX12_applyTo_213 rfl rfl ?_
              refine r_iastore C dX12_applyTo_215 rfl rfl hR hF h (fun S M34 h hR hF => ?_)
              exact vi_cut [(0, .ref m), (1, .int (a1)), (2, .int (a2)), (7, .int (v18))] ⟨rfl, rfl, rfl, rfl, trivial⟩ (h216_31 _ h _ hR hF)
      · intro k107_19 h107_19 h
        refine vi_icmp_ne (t' := 106) C dX12_applyTo_94 rfl (by decide) (fun c21 => ?_) (fun c21 => ?_)
        · replace h := iN c21 h
          refine vi_iconst (v := 0) C dX12_applyTo_106 rfl (by decide) ?_
          exact vi_cut [(0, .ref m), (1, .int (a1)), (2, .int (a2)), (3, .int (v1)), (4, .int (s0_32)), (5, .int (s0_49)), (6, .int (v13)), (7, .int (v18))] ⟨rfl, rfl, rfl, rfl, rfl, rfl, rfl, rfl, trivial⟩ (h107_19 _ h _ hR hF)
        · replace h := iT c21 h
          refine vi_aload_n C dX12_applyTo_97 rfl rfl ?_
          refine r_geta C dX12_applyTo_98 rfl fX12_26 rfl hR rfl ?_
          refine vi_iload_n C dX12_applyTo_101 rfl rfl ?_
          refine r_iaload C dX12_applyTo_102 rfl rfl hR h (fun v20 h => ?_)
          refine vi_goto (t' := 107) C dX12_applyTo_103 (by decide) ?_
          exact vi_cut [(0, .ref m), (1, .int (a1)), (2, .int (a2)), (3, .int (v1)), (4, .int (s0_32)), (5, .int (s0_49)), (6, .int (v13)), (7, .int (v18))] ⟨rfl, rfl, rfl, rfl, rfl, rfl, rfl, rfl, trivial⟩ (h107_19 _ h _ hR hF)
    · intro k49_6 h49_6 h
      refine vi_if_eq (t' := 48) C dX12_applyTo_36 rfl (by decide) (fun c9 => ?_) (fun c9 => ?_)
      · replace h := iT c9 h
        refine vi_iconst (v := 0) C dX12_applyTo_48 rfl (by decide) ?_
        exact vi_cut [(0, .ref m), (1, .int (a1)), (2, .int (a2)), (3, .int (v1)), (4, .int (s0_32))] ⟨rfl, rfl, rfl, rfl, rfl, trivial⟩ (h49_6 _ _ h _ hR hF)
      · replace h := iN c9 h
        refine vi_aload_n C dX12_applyTo_39 rfl rfl ?_
        refine vi_iload_n C dX12_applyTo_40 rfl rfl ?_
        refine vi_iload_n C dX12_applyTo_41 rfl rfl ?_
        refine r_cv1 C [.int (a1), .int (a2)] [] dX12_applyTo_42 rfl ivX12_215 imX12_verdictOf rfl hR hF h (fun _ e => p_X12_verdictOf e hR) rfl (Nat.le_of_ble_eq_true rfl) ⟨by decide, by decide⟩ ⟨Nat.le_refl _, Nat.le_refl _⟩ (fun S M7 v8 h hR hF => ?_)
        refine vi_goto (t' := 49) C dX12_applyTo_45 (by decide) ?_
        exact vi_cut [(0, .ref m), (1, .int (a1)), (2, .int (a2)), (3, .int (v1)), (4, .int (s0_32))] ⟨rfl, rfl, rfl, rfl, rfl, trivial⟩ (h49_6 _ _ h _ hR hF)
  · intro k32_4 h32_4 h
    refine vi_icmp_le (t' := 31) C dX12_applyTo_24 rfl (by decide) (fun c5 => ?_) (fun c5 => ?_)
    · replace h := iT c5 h
      refine vi_iconst (v := 0) C dX12_applyTo_31 rfl (by decide) ?_
      exact vi_cut [(0, .ref m), (1, .int (a1)), (2, .int (a2)), (3, .int (v1))] ⟨rfl, rfl, rfl, rfl, trivial⟩ (h32_4 _ h _ hR hF)
    · replace h := iN c5 h
      refine vi_iconst (v := 1) C dX12_applyTo_27 rfl (by decide) ?_
      refine vi_goto (t' := 32) C dX12_applyTo_28 (by decide) ?_
      exact vi_cut [(0, .ref m), (1, .int (a1)), (2, .int (a2)), (3, .int (v1))] ⟨rfl, rfl, rfl, rfl, trivial⟩ (h32_4 _ h _ hR hF)

def F_X12_lay (M : vM) (a1 : Int32) : Option vM := (mS M 38 ((M.1 45)) ((a1 &&& (255 : Int32)))).bind fun M1 => lt1 (mW M1 45 (((M1.1 45) + (1 : Int32)))) fun M2 => some M2

set_option maxRecDepth 100000 in
set_option maxHeartbeats 4000000 in
theorem p_X12_lay {M : vM} {R : vM} {a1 : Int32} (h : F_X12_lay M a1 = some R) {E : vE} {S0 : vS} {sz m b : Nat} (hR : RM S0 sz m b M) : vi_Met E yX12_lay cX12_lay 2 none 0 0 0 [.ref m, .int (a1)] S0 sz (Q0 S0 sz m b R) := by
  refine vi_met (by decide) (Nat.le_of_ble_eq_true rfl) ?_
  intro X C
  have hF := rF.refl S0 m b
  unfold F_X12_lay at h
  refine vi_aload_n C dX12_lay_0 rfl rfl ?_
  refine r_geta C dX12_lay_1 rfl fX12_133 rfl hR rfl ?_
  refine vi_aload_n C dX12_lay_4 rfl rfl ?_
  refine r_geti C dX12_lay_5 rfl fX12_218 rfl hR ?_
  refine vi_iload_n C dX12_lay_8 rfl rfl ?_
  refine vi_sipush (v := 255) C dX12_lay_9 rfl (by decide) ?_
  refine vi_iand C dX12_lay_12 rfl ?_
  refine r_iastore C dX12_lay_13 rfl rfl hR hF h (fun S M1 h hR hF => ?_)
  refine vi_aload_n C dX12_lay_14 rfl rfl ?_
  refine vi_dup C dX12_lay_15 rfl rfl ?_
  refine r_geti C dX12_lay_16 rfl fX12_218 rfl hR ?_
  refine vi_iconst (v := 1) C dX12_lay_19 rfl (by decide) ?_
  refine vi_iadd C dX12_lay_20 rfl ?_
  refine r_puti C dX12_lay_21 rfl (fpX12_218 _) rfl hR hF h (fun S M2 h hR hF => ?_)
  exact r_ret0 C dX12_lay_24 rfl hR hF h

def L_X12_layU_2 {ρ : Type}   (kx30 : vM → Int32 → Option ρ) : Nat → vM → Int32 → Option ρ
  | 0, _, _ => none
  | f + 1, M, l2 => if l2 ≤ (127 : Int32) then (kx30 M (l2)) else ((F_X12_lay M (((l2 - l2 / (128 : Int32) * (128 : Int32)) + (128 : Int32)))).bind fun M1 => L_X12_layU_2  kx30 f M1 ((l2 / (128 : Int32))))

def F_X12_layU (M : vM) (a1 : Int32) : Option vM := L_X12_layU_2  (fun (M3 : vM) (l4 : Int32) => (F_X12_lay M3 (l4)).bind fun M5 => some M5) fu M (a1)

set_option maxRecDepth 100000 in
set_option maxHeartbeats 4000000 in
theorem w_X12_layU_2 {E : vE} {X : vX} {S0 : vS} {sz m b : Nat} {ρ : Type} {R : ρ} {Z : State → Prop}  {kx30 : vM → Int32 → Option ρ} (C : vi_C E X yX12_layU cX12_layU 3 none 1 0 0 (45 * 1)) (hx30 : ∀ (M : vM) (l2 : Int32), kx30 M l2 = some R → ∀ S, RM S sz m b M → rF S0 S m b → vi_W E X 3 Z 30 [(0, .ref m), (2, .int (l2))] [] S sz 0 0) : ∀ (f : Nat) (M : vM) (l2 : Int32), L_X12_layU_2  kx30 f M l2 = some R → ∀ S, RM S sz m b M → rF S0 S m b → vi_W E X 3 Z 2 [(0, .ref m), (2, .int (l2))] [] S sz 0 0 := by
  intro f
  induction f with
  | zero => intro M l2 h; cases h
  | succ f ih =>
    intro M l2 h S hR hF
    rw [L_X12_layU_2] at h
    refine vi_iload_n C dX12_layU_2 rfl rfl ?_
    refine vi_bipush (v := 127) C dX12_layU_3 rfl (by decide) ?_
    refine vi_icmp_le (t' := 30) C dX12_layU_5 rfl (by decide) (fun c2 => ?_) (fun c2 => ?_)
    · replace h := iT c2 h
      exact vi_cut [(0, .ref m), (2, .int (l2))] ⟨rfl, rfl, trivial⟩ (hx30 _ _ h _ hR hF)
    · replace h := iN c2 h
      refine vi_aload_n C dX12_layU_8 rfl rfl ?_
      refine vi_iload_n C dX12_layU_9 rfl rfl ?_
      refine vi_sipush (v := 128) C dX12_layU_10 rfl (by decide) ?_
      refine vi_irem C dX12_layU_13 rfl (by decide) ?_
      refine vi_sipush (v := 128) C dX12_layU_14 rfl (by decide) ?_
      refine vi_iadd C dX12_layU_17 rfl ?_
      refine r_cv0 C [.int (((l2 - l2 / (128 : Int32) * (128 : Int32)) + (128 : Int32)))] [] dX12_layU_18 rfl ivX12_221 imX12_lay rfl hR hF h (fun _ e => p_X12_lay e hR) rfl (Nat.le_of_ble_eq_true rfl) ⟨by decide, by decide⟩ ⟨Nat.le_refl _, Nat.le_refl _⟩ (fun S M1 h hR hF => ?_)
      refine vi_iload_n C dX12_layU_21 rfl rfl ?_
      refine vi_sipush (v := 128) C dX12_layU_22 rfl (by decide) ?_
      refine vi_idiv C dX12_layU_25 rfl (by decide) ?_
      refine vi_istore_n C dX12_layU_26 rfl (by decide) ?_
      refine vi_goto (t' := 2) C dX12_layU_27 (by decide) ?_
      exact vi_cut [(0, .ref m), (2, .int ((l2 / (128 : Int32))))] ⟨rfl, rfl, trivial⟩ (ih _ _ h _ hR hF)

set_option maxRecDepth 100000 in
set_option maxHeartbeats 4000000 in
theorem p_X12_layU {M : vM} {R : vM} {a1 : Int32} (h : F_X12_layU M a1 = some R) {E : vE} {S0 : vS} {sz m b : Nat} (hR : RM S0 sz m b M) : vi_Met E yX12_layU cX12_layU 3 none 1 0 0 [.ref m, .int (a1)] S0 sz (Q0 S0 sz m b R) := by
  refine vi_met (by decide) (Nat.le_of_ble_eq_true rfl) ?_
  intro X C
  have hF := rF.refl S0 m b
  unfold F_X12_layU at h
  refine vi_iload_n C dX12_layU_0 rfl rfl ?_
  refine vi_istore_n C dX12_layU_1 rfl (by decide) ?_
  refine vi_cut [(0, .ref m), (2, .int (a1))] ⟨rfl, rfl, trivial⟩ (w_X12_layU_2 C ?_ _ _ _ h _ hR hF)
  · intro M3 l4 h S hR hF
    refine vi_aload_n C dX12_layU_30 rfl rfl ?_
    refine vi_iload_n C dX12_layU_31 rfl rfl ?_
    refine r_cv0 C [.int (l4)] [] dX12_layU_32 rfl ivX12_221 imX12_lay rfl hR hF h (fun _ e => p_X12_lay e hR) rfl (Nat.le_of_ble_eq_true rfl) ⟨by decide, by decide⟩ ⟨Nat.le_refl _, Nat.le_refl _⟩ (fun S M5 h hR hF => ?_)
    exact r_ret0 C dX12_layU_35 rfl hR hF h

def F_X12_layTwo (M : vM) (a1 : Int32) : Option vM := (F_X12_lay M ((a1 >>> ((8 : Int32) &&& 31)))).bind fun M1 => (F_X12_lay M1 (a1)).bind fun M2 => some M2

set_option maxRecDepth 100000 in
set_option maxHeartbeats 4000000 in
theorem p_X12_layTwo {M : vM} {R : vM} {a1 : Int32} (h : F_X12_layTwo M a1 = some R) {E : vE} {S0 : vS} {sz m b : Nat} (hR : RM S0 sz m b M) : vi_Met E yX12_layTwo cX12_layTwo 2 none 1 0 0 [.ref m, .int (a1)] S0 sz (Q0 S0 sz m b R) := by
  refine vi_met (by decide) (Nat.le_of_ble_eq_true rfl) ?_
  intro X C
  have hF := rF.refl S0 m b
  unfold F_X12_layTwo at h
  refine vi_aload_n C dX12_layTwo_0 rfl rfl ?_
  refine vi_iload_n C dX12_layTwo_1 rfl rfl ?_
  refine vi_bipush (v := 8) C dX12_layTwo_2 rfl (by decide) ?_
  refine vi_ishr C dX12_layTwo_4 rfl ?_
  refine r_cv0 C [.int ((a1 >>> ((8 : Int32) &&& 31)))] [] dX12_layTwo_5 rfl ivX12_221 imX12_lay rfl hR hF h (fun _ e => p_X12_lay e hR) rfl (Nat.le_of_ble_eq_true rfl) ⟨by decide, by decide⟩ ⟨Nat.le_refl _, Nat.le_refl _⟩ (fun S M1 h hR hF => ?_)
  refine vi_aload_n C dX12_layTwo_8 rfl rfl ?_
  refine vi_iload_n C dX12_layTwo_9 rfl rfl ?_
  refine r_cv0 C [.int (a1)] [] dX12_layTwo_10 rfl ivX12_221 imX12_lay rfl hR hF h (fun _ e => p_X12_lay e hR) rfl (Nat.le_of_ble_eq_true rfl) ⟨by decide, by decide⟩ ⟨Nat.le_refl _, Nat.le_refl _⟩ (fun S M2 h hR hF => ?_)
  exact r_ret0 C dX12_layTwo_13 rfl hR hF h

def F_X12_layFour (M : vM) (a1 : Int32) : Option vM := (F_X12_layTwo M ((a1 >>> ((16 : Int32) &&& 31)))).bind fun M1 => (F_X12_layTwo M1 (a1)).bind fun M2 => some M2

set_option maxRecDepth 100000 in
set_option maxHeartbeats 4000000 in
theorem p_X12_layFour {M : vM} {R : vM} {a1 : Int32} (h : F_X12_layFour M a1 = some R) {E : vE} {S0 : vS} {sz m b : Nat} (hR : RM S0 sz m b M) : vi_Met E yX12_layFour cX12_layFour 2 none 2 0 0 [.ref m, .int (a1)] S0 sz (Q0 S0 sz m b R) := by
  refine vi_met (by decide) (Nat.le_of_ble_eq_true rfl) ?_
  intro X C
  have hF := rF.refl S0 m b
  unfold F_X12_layFour at h
  refine vi_aload_n C dX12_layFour_0 rfl rfl ?_
  refine vi_iload_n C dX12_layFour_1 rfl rfl ?_
  refine vi_bipush (v := 16) C dX12_layFour_2 rfl (by decide) ?_
  refine vi_ishr C dX12_layFour_4 rfl ?_
  refine r_cv0 C [.int ((a1 >>> ((16 : Int32) &&& 31)))] [] dX12_layFour_5 rfl ivX12_225 imX12_layTwo rfl hR hF h (fun _ e => p_X12_layTwo e hR) rfl (Nat.le_of_ble_eq_true rfl) ⟨by decide, by decide⟩ ⟨Nat.le_refl _, Nat.le_refl _⟩ (fun S M1 h hR hF => ?_)
  refine vi_aload_n C dX12_layFour_8 rfl rfl ?_
  refine vi_iload_n C dX12_layFour_9 rfl rfl ?_
  refine r_cv0 C [.int (a1)] [] dX12_layFour_10 rfl ivX12_225 imX12_layTwo rfl hR hF h (fun _ e => p_X12_layTwo e hR) rfl (Nat.le_of_ble_eq_true rfl) ⟨by decide, by decide⟩ ⟨Nat.le_refl _, Nat.le_refl _⟩ (fun S M2 h hR hF => ?_)
  exact r_ret0 C dX12_layFour_13 rfl hR hF h

def L_X12_layRequest_52 {ρ : Type}  (l1 : Int32) (kx93 : vM → Option ρ) : Nat → vM → Int32 → Option ρ
  | 0, _, _ => none
  | f + 1, M, l2 => if (16 : Int32) ≤ l2 then (kx93 M ) else ((mG M 4 (l1)).bind fun v11 => if ((v11 >>> (l2 &&& 31)) &&& (1 : Int32)) = (1 : Int32) then ((mG M 5 ((((16 : Int32) * l1) + l2))).bind fun v12 => (F_X12_layFour M (v12)).bind fun M13 => L_X12_layRequest_52 l1 kx93 f M13 ((l2 + (1)))) else (L_X12_layRequest_52 l1 kx93 f M ((l2 + (1)))))

def F_X12_layRequest (M : vM) (a1 : Int32) : Option vM := (mG M 0 (a1)).bind fun v1 => (F_X12_lay M (v1)).bind fun M2 => (mG M2 1 (a1)).bind fun v3 => (F_X12_layU M2 (v3)).bind fun M4 => (mG M4 2 (a1)).bind fun v5 => (F_X12_layU M4 (v5)).bind fun M6 => (mG M6 3 (a1)).bind fun v7 => (F_X12_layTwo M6 (v7)).bind fun M8 => (mG M8 4 (a1)).bind fun v9 => (F_X12_layTwo M8 (v9)).bind fun M10 => L_X12_layRequest_52 (a1) (fun (M16 : vM)  => some M16) fu M10 ((0 : Int32))

set_option maxRecDepth 100000 in
set_option maxHeartbeats 4000000 in
theorem w_X12_layRequest_52 {E : vE} {X : vX} {S0 : vS} {sz m b : Nat} {ρ : Type} {R : ρ} {Z : State → Prop} {l1 : Int32} {kx93 : vM → Option ρ} (C : vi_C E X yX12_layRequest cX12_layRequest 3 none 3 0 0 (45 * 3)) (hx93 : ∀ (M : vM) , kx93 M  = some R → ∀ S, RM S sz m b M → rF S0 S m b → vi_W E X 3 Z 93 [] [] S sz 0 0) : ∀ (f : Nat) (M : vM) (l2 : Int32), L_X12_layRequest_52 l1 kx93 f M l2 = some R → ∀ S, RM S sz m b M → rF S0 S m b → vi_W E X 3 Z 52 [(0, .ref m), (1, .int (l1)), (2, .int (l2))] [] S sz 0 0 := by
  intro f
  induction f with
  | zero => intro M l2 h; cases h
  | succ f ih =>
    intro M l2 h S hR hF
    rw [L_X12_layRequest_52] at h
    refine vi_iload_n C dX12_layRequest_52 rfl rfl ?_
    refine vi_bipush (v := 16) C dX12_layRequest_53 rfl (by decide) ?_
    refine vi_icmp_ge (t' := 93) C dX12_layRequest_55 rfl (by decide) (fun c15 => ?_) (fun c15 => ?_)
    · replace h := iT c15 h
      exact vi_cut [] trivial (hx93 _  h _ hR hF)
    · replace h := iN c15 h
      refine vi_aload_n C dX12_layRequest_58 rfl rfl ?_
      refine r_geta C dX12_layRequest_59 rfl fX12_26 rfl hR rfl ?_
      refine vi_iload_n C dX12_layRequest_62 rfl rfl ?_
      refine r_iaload C dX12_layRequest_63 rfl rfl hR h (fun v11 h => ?_)
      refine vi_iload_n C dX12_layRequest_64 rfl rfl ?_
      refine vi_ishr C dX12_layRequest_65 rfl ?_
      refine vi_iconst (v := 1) C dX12_layRequest_66 rfl (by decide) ?_
      refine vi_iand C dX12_layRequest_67 rfl ?_
      refine vi_iconst (v := 1) C dX12_layRequest_68 rfl (by decide) ?_
      refine vi_icmp_ne (t' := 87) C dX12_layRequest_69 rfl (by decide) (fun c14 => ?_) (fun c14 => ?_)
      · replace h := iN c14 h
        refine vi_iincv (v := 1) C dX12_layRequest_87 rfl rfl (by decide) (by decide) ?_
        refine vi_goto (t' := 52) C dX12_layRequest_90 (by decide) ?_
        exact vi_cut [(0, .ref m), (1, .int (l1)), (2, .int ((l2 + (1))))] ⟨rfl, rfl, rfl, trivial⟩ (ih _ _ h _ hR hF)
      · replace h := iT c14 h
        refine vi_aload_n C dX12_layRequest_72 rfl rfl ?_
        refine vi_aload_n C dX12_layRequest_73 rfl rfl ?_
        refine r_geta C dX12_layRequest_74 rfl fX12_30 rfl hR rfl ?_
        refine vi_bipush (v := 16) C dX12_layRequest_77 rfl (by decide) ?_
        refine vi_iload_n C dX12_layRequest_79 rfl rfl ?_
        refine vi_imul C dX12_layRequest_80 rfl ?_
        refine vi_iload_n C dX12_layRequest_81 rfl rfl ?_
        refine vi_iadd C dX12_layRequest_82 rfl ?_
        refine r_iaload C dX12_layRequest_83 rfl rfl hR h (fun v12 h => ?_)
        refine r_cv0 C [.int (v12)] [] dX12_layRequest_84 rfl ivX12_231 imX12_layFour rfl hR hF h (fun _ e => p_X12_layFour e hR) rfl (Nat.le_of_ble_eq_true rfl) ⟨by decide, by decide⟩ ⟨Nat.le_refl _, Nat.le_refl _⟩ (fun S M13 h hR hF => ?_)
        refine vi_iincv (v := 1) C dX12_layRequest_87 rfl rfl (by decide) (by decide) ?_
        refine vi_goto (t' := 52) C dX12_layRequest_90 (by decide) ?_
        exact vi_cut [(0, .ref m), (1, .int (l1)), (2, .int ((l2 + (1))))] ⟨rfl, rfl, rfl, trivial⟩ (ih _ _ h _ hR hF)

set_option maxRecDepth 100000 in
set_option maxHeartbeats 4000000 in
theorem p_X12_layRequest {M : vM} {R : vM} {a1 : Int32} (h : F_X12_layRequest M a1 = some R) {E : vE} {S0 : vS} {sz m b : Nat} (hR : RM S0 sz m b M) : vi_Met E yX12_layRequest cX12_layRequest 3 none 3 0 0 [.ref m, .int (a1)] S0 sz (Q0 S0 sz m b R) := by
  refine vi_met (by decide) (Nat.le_of_ble_eq_true rfl) ?_
  intro X C
  have hF := rF.refl S0 m b
  unfold F_X12_layRequest at h
  refine vi_aload_n C dX12_layRequest_0 rfl rfl ?_
  refine vi_aload_n C dX12_layRequest_1 rfl rfl ?_
  refine r_geta C dX12_layRequest_2 rfl fX12_13 rfl hR rfl ?_
  refine vi_iload_n C dX12_layRequest_5 rfl rfl ?_
  refine r_iaload C dX12_layRequest_6 rfl rfl hR h (fun v1 h => ?_)
  refine r_cv0 C [.int (v1)] [] dX12_layRequest_7 rfl ivX12_221 imX12_lay rfl hR hF h (fun _ e => p_X12_lay e hR) rfl (Nat.le_of_ble_eq_true rfl) ⟨by decide, by decide⟩ ⟨Nat.le_refl _, Nat.le_refl _⟩ (fun S M2 h hR hF => ?_)
  refine vi_aload_n C dX12_layRequest_10 rfl rfl ?_
  refine vi_aload_n C dX12_layRequest_11 rfl rfl ?_
  refine r_geta C dX12_layRequest_12 rfl fX12_17 rfl hR rfl ?_
  refine vi_iload_n C dX12_layRequest_15 rfl rfl ?_
  refine r_iaload C dX12_layRequest_16 rfl rfl hR h (fun v3 h => ?_)
  refine r_cv0 C [.int (v3)] [] dX12_layRequest_17 rfl ivX12_228 imX12_layU rfl hR hF h (fun _ e => p_X12_layU e hR) rfl (Nat.le_of_ble_eq_true rfl) ⟨by decide, by decide⟩ ⟨Nat.le_refl _, Nat.le_refl _⟩ (fun S M4 h hR hF => ?_)
  refine vi_aload_n C dX12_layRequest_20 rfl rfl ?_
  refine vi_aload_n C dX12_layRequest_21 rfl rfl ?_
  refine r_geta C dX12_layRequest_22 rfl fX12_20 rfl hR rfl ?_
  refine vi_iload_n C dX12_layRequest_25 rfl rfl ?_
  refine r_iaload C dX12_layRequest_26 rfl rfl hR h (fun v5 h => ?_)
  refine r_cv0 C [.int (v5)] [] dX12_layRequest_27 rfl ivX12_228 imX12_layU rfl hR hF h (fun _ e => p_X12_layU e hR) rfl (Nat.le_of_ble_eq_true rfl) ⟨by decide, by decide⟩ ⟨Nat.le_refl _, Nat.le_refl _⟩ (fun S M6 h hR hF => ?_)
  refine vi_aload_n C dX12_layRequest_30 rfl rfl ?_
  refine vi_aload_n C dX12_layRequest_31 rfl rfl ?_
  refine r_geta C dX12_layRequest_32 rfl fX12_23 rfl hR rfl ?_
  refine vi_iload_n C dX12_layRequest_35 rfl rfl ?_
  refine r_iaload C dX12_layRequest_36 rfl rfl hR h (fun v7 h => ?_)
  refine r_cv0 C [.int (v7)] [] dX12_layRequest_37 rfl ivX12_225 imX12_layTwo rfl hR hF h (fun _ e => p_X12_layTwo e hR) rfl (Nat.le_of_ble_eq_true rfl) ⟨by decide, by decide⟩ ⟨Nat.le_refl _, Nat.le_refl _⟩ (fun S M8 h hR hF => ?_)
  refine vi_aload_n C dX12_layRequest_40 rfl rfl ?_
  refine vi_aload_n C dX12_layRequest_41 rfl rfl ?_
  refine r_geta C dX12_layRequest_42 rfl fX12_26 rfl hR rfl ?_
  refine vi_iload_n C dX12_layRequest_45 rfl rfl ?_
  refine r_iaload C dX12_layRequest_46 rfl rfl hR h (fun v9 h => ?_)
  refine r_cv0 C [.int (v9)] [] dX12_layRequest_47 rfl ivX12_225 imX12_layTwo rfl hR hF h (fun _ e => p_X12_layTwo e hR) rfl (Nat.le_of_ble_eq_true rfl) ⟨by decide, by decide⟩ ⟨Nat.le_refl _, Nat.le_refl _⟩ (fun S M10 h hR hF => ?_)
  refine vi_iconst (v := 0) C dX12_layRequest_50 rfl (by decide) ?_
  refine vi_istore_n C dX12_layRequest_51 rfl (by decide) ?_
  refine vi_cut [(0, .ref m), (1, .int (a1)), (2, .int ((0 : Int32)))] ⟨rfl, rfl, rfl, trivial⟩ (w_X12_layRequest_52 C ?_ _ _ _ h _ hR hF)
  · intro M16 h S hR hF
    exact r_ret0 C dX12_layRequest_93 rfl hR hF h

def L_X12_layState_9 {ρ : Type}  (l1 : Nat) (l2 : Int32) (kx32 : vM → Option ρ) : Nat → vM → Int32 → Option ρ
  | 0, _, _ => none
  | f + 1, M, l3 => if (16 : Int32) ≤ l3 then (kx32 M ) else (gd (mKd l1 = 21) <| (mG M l1 (((l2 + (1 : Int32)) + l3))).bind fun v5 => (F_X12_layFour M (v5)).bind fun M6 => L_X12_layState_9 l1 l2 kx32 f M6 ((l3 + (1))))

def L_X12_layState_34 {ρ : Type}  (l1 : Nat) (l2 : Int32) (kx70 : vM → Option ρ) : Nat → vM → Int32 → Option ρ
  | 0, _, _ => none
  | f + 1, M, l3 => if (16 : Int32) ≤ l3 then (kx70 M ) else (gd (mKd l1 = 21) <| (mG M l1 (((l2 + (17 : Int32)) + l3))).bind fun v10 => (F_X12_layU M (v10)).bind fun M11 => gd (mKd l1 = 21) <| (mG M11 l1 (((l2 + (33 : Int32)) + l3))).bind fun v13 => (F_X12_lay M11 (v13)).bind fun M14 => L_X12_layState_34 l1 l2 kx70 f M14 ((l3 + (1))))

def L_X12_layState_72 {ρ : Type}  (l1 : Nat) (l2 : Int32) (kx98 : vM → Option ρ) : Nat → vM → Int32 → Option ρ
  | 0, _, _ => none
  | f + 1, M, l3 => if (M.1 2) ≤ l3 then (kx98 M ) else (gd (mKd l1 = 21) <| (mG M l1 (((l2 + (49 : Int32)) + l3))).bind fun v18 => (F_X12_layTwo M (v18)).bind fun M19 => L_X12_layState_72 l1 l2 kx98 f M19 ((l3 + (1))))

def F_X12_layState (M : vM) (a1 : Nat) (a2 : Int32) : Option vM := gd (mKd a1 = 21) <| (mG M a1 (a2)).bind fun v2 => (F_X12_layU M (v2)).bind fun M3 => L_X12_layState_9 (a1) (a2) (fun (M8 : vM)  => L_X12_layState_34 (a1) (a2) (fun (M16 : vM)  => L_X12_layState_72 (a1) (a2) (fun (M21 : vM)  => some M21) fu M16 ((0 : Int32))) fu M8 ((0 : Int32))) fu M3 ((0 : Int32))

set_option maxRecDepth 100000 in
set_option maxHeartbeats 4000000 in
theorem w_X12_layState_9 {E : vE} {X : vX} {S0 : vS} {sz m b : Nat} {ρ : Type} {R : ρ} {Z : State → Prop} {l1 : Nat} {l2 : Int32} {kx32 : vM → Option ρ} (C : vi_C E X yX12_layState cX12_layState 4 none 3 0 0 (45 * 3)) (hx32 : ∀ (M : vM) , kx32 M  = some R → ∀ S, RM S sz m b M → rF S0 S m b → vi_W E X 4 Z 32 [(0, .ref m), (1, .ref (b + l1)), (2, .int (l2))] [] S sz 0 0) : ∀ (f : Nat) (M : vM) (l3 : Int32), L_X12_layState_9 l1 l2 kx32 f M l3 = some R → ∀ S, RM S sz m b M → rF S0 S m b → vi_W E X 4 Z 9 [(0, .ref m), (1, .ref (b + l1)), (2, .int (l2)), (3, .int (l3))] [] S sz 0 0 := by
  intro f
  induction f with
  | zero => intro M l3 h; cases h
  | succ f ih =>
    intro M l3 h S hR hF
    rw [L_X12_layState_9] at h
    refine vi_iload_n C dX12_layState_9 rfl rfl ?_
    refine vi_bipush (v := 16) C dX12_layState_10 rfl (by decide) ?_
    refine vi_icmp_ge (t' := 32) C dX12_layState_12 rfl (by decide) (fun c7 => ?_) (fun c7 => ?_)
    · replace h := iT c7 h
      exact vi_cut [(0, .ref m), (1, .ref (b + l1)), (2, .int (l2))] ⟨rfl, rfl, rfl, trivial⟩ (hx32 _  h _ hR hF)
    · replace h := iN c7 h
      refine vi_aload_n C dX12_layState_15 rfl rfl ?_
      refine vi_aload_n C dX12_layState_16 rfl rfl ?_
      refine vi_iload_n C dX12_layState_17 rfl rfl ?_
      refine vi_iconst (v := 1) C dX12_layState_18 rfl (by decide) ?_
      refine vi_iadd C dX12_layState_19 rfl ?_
      refine vi_iload_n C dX12_layState_20 rfl rfl ?_
      refine vi_iadd C dX12_layState_21 rfl ?_
      obtain ⟨c4, h⟩ := gdo h
      refine r_iaload C dX12_layState_22 rfl c4 hR h (fun v5 h => ?_)
      refine r_cv0 C [.int (v5)] [] dX12_layState_23 rfl ivX12_231 imX12_layFour rfl hR hF h (fun _ e => p_X12_layFour e hR) rfl (Nat.le_of_ble_eq_true rfl) ⟨by decide, by decide⟩ ⟨Nat.le_refl _, Nat.le_refl _⟩ (fun S M6 h hR hF => ?_)
      refine vi_iincv (v := 1) C dX12_layState_26 rfl rfl (by decide) (by decide) ?_
      refine vi_goto (t' := 9) C dX12_layState_29 (by decide) ?_
      exact vi_cut [(0, .ref m), (1, .ref (b + l1)), (2, .int (l2)), (3, .int ((l3 + (1))))] ⟨rfl, rfl, rfl, rfl, trivial⟩ (ih _ _ h _ hR hF)

set_option maxRecDepth 100000 in
set_option maxHeartbeats 4000000 in
theorem w_X12_layState_34 {E : vE} {X : vX} {S0 : vS} {sz m b : Nat} {ρ : Type} {R : ρ} {Z : State → Prop} {l1 : Nat} {l2 : Int32} {kx70 : vM → Option ρ} (C : vi_C E X yX12_layState cX12_layState 4 none 3 0 0 (45 * 3)) (hx70 : ∀ (M : vM) , kx70 M  = some R → ∀ S, RM S sz m b M → rF S0 S m b → vi_W E X 4 Z 70 [(0, .ref m), (1, .ref (b + l1)), (2, .int (l2))] [] S sz 0 0) : ∀ (f : Nat) (M : vM) (l3 : Int32), L_X12_layState_34 l1 l2 kx70 f M l3 = some R → ∀ S, RM S sz m b M → rF S0 S m b → vi_W E X 4 Z 34 [(0, .ref m), (1, .ref (b + l1)), (2, .int (l2)), (3, .int (l3))] [] S sz 0 0 := by
  intro f
  induction f with
  | zero => intro M l3 h; cases h
  | succ f ih =>
    intro M l3 h S hR hF
    rw [L_X12_layState_34] at h
    refine vi_iload_n C dX12_layState_34 rfl rfl ?_
    refine vi_bipush (v := 16) C dX12_layState_35 rfl (by decide) ?_
    refine vi_icmp_ge (t' := 70) C dX12_layState_37 rfl (by decide) (fun c15 => ?_) (fun c15 => ?_)
    · replace h := iT c15 h
      exact vi_cut [(0, .ref m), (1, .ref (b + l1)), (2, .int (l2))] ⟨rfl, rfl, rfl, trivial⟩ (hx70 _  h _ hR hF)
    · replace h := iN c15 h
      refine vi_aload_n C dX12_layState_40 rfl rfl ?_
      refine vi_aload_n C dX12_layState_41 rfl rfl ?_
      refine vi_iload_n C dX12_layState_42 rfl rfl ?_
      refine vi_bipush (v := 17) C dX12_layState_43 rfl (by decide) ?_
      refine vi_iadd C dX12_layState_45 rfl ?_
      refine vi_iload_n C dX12_layState_46 rfl rfl ?_
      refine vi_iadd C dX12_layState_47 rfl ?_
      obtain ⟨c9, h⟩ := gdo h
      refine r_iaload C dX12_layState_48 rfl c9 hR h (fun v10 h => ?_)
      refine r_cv0 C [.int (v10)] [] dX12_layState_49 rfl ivX12_228 imX12_layU rfl hR hF h (fun _ e => p_X12_layU e hR) rfl (Nat.le_of_ble_eq_true rfl) ⟨by decide, by decide⟩ ⟨Nat.le_refl _, Nat.le_refl _⟩ (fun S M11 h hR hF => ?_)
      refine vi_aload_n C dX12_layState_52 rfl rfl ?_
      refine vi_aload_n C dX12_layState_53 rfl rfl ?_
      refine vi_iload_n C dX12_layState_54 rfl rfl ?_
      refine vi_bipush (v := 33) C dX12_layState_55 rfl (by decide) ?_
      refine vi_iadd C dX12_layState_57 rfl ?_
      refine vi_iload_n C dX12_layState_58 rfl rfl ?_
      refine vi_iadd C dX12_layState_59 rfl ?_
      obtain ⟨c12, h⟩ := gdo h
      refine r_iaload C dX12_layState_60 rfl c12 hR h (fun v13 h => ?_)
      refine r_cv0 C [.int (v13)] [] dX12_layState_61 rfl ivX12_221 imX12_lay rfl hR hF h (fun _ e => p_X12_lay e hR) rfl (Nat.le_of_ble_eq_true rfl) ⟨by decide, by decide⟩ ⟨Nat.le_refl _, Nat.le_refl _⟩ (fun S M14 h hR hF => ?_)
      refine vi_iincv (v := 1) C dX12_layState_64 rfl rfl (by decide) (by decide) ?_
      refine vi_goto (t' := 34) C dX12_layState_67 (by decide) ?_
      exact vi_cut [(0, .ref m), (1, .ref (b + l1)), (2, .int (l2)), (3, .int ((l3 + (1))))] ⟨rfl, rfl, rfl, rfl, trivial⟩ (ih _ _ h _ hR hF)

set_option maxRecDepth 100000 in
set_option maxHeartbeats 4000000 in
theorem w_X12_layState_72 {E : vE} {X : vX} {S0 : vS} {sz m b : Nat} {ρ : Type} {R : ρ} {Z : State → Prop} {l1 : Nat} {l2 : Int32} {kx98 : vM → Option ρ} (C : vi_C E X yX12_layState cX12_layState 4 none 3 0 0 (45 * 3)) (hx98 : ∀ (M : vM) , kx98 M  = some R → ∀ S, RM S sz m b M → rF S0 S m b → vi_W E X 4 Z 98 [] [] S sz 0 0) : ∀ (f : Nat) (M : vM) (l3 : Int32), L_X12_layState_72 l1 l2 kx98 f M l3 = some R → ∀ S, RM S sz m b M → rF S0 S m b → vi_W E X 4 Z 72 [(0, .ref m), (1, .ref (b + l1)), (2, .int (l2)), (3, .int (l3))] [] S sz 0 0 := by
  intro f
  induction f with
  | zero => intro M l3 h; cases h
  | succ f ih =>
    intro M l3 h S hR hF
    rw [L_X12_layState_72] at h
    refine vi_iload_n C dX12_layState_72 rfl rfl ?_
    refine vi_aload_n C dX12_layState_73 rfl rfl ?_
    refine r_geti C dX12_layState_74 rfl fX12_190 rfl hR ?_
    refine vi_icmp_ge (t' := 98) C dX12_layState_77 rfl (by decide) (fun c20 => ?_) (fun c20 => ?_)
    · replace h := iT c20 h
      exact vi_cut [] trivial (hx98 _  h _ hR hF)
    · replace h := iN c20 h
      refine vi_aload_n C dX12_layState_80 rfl rfl ?_
      refine vi_aload_n C dX12_layState_81 rfl rfl ?_
      refine vi_iload_n C dX12_layState_82 rfl rfl ?_
      refine vi_bipush (v := 49) C dX12_layState_83 rfl (by decide) ?_
      refine vi_iadd C dX12_layState_85 rfl ?_
      refine vi_iload_n C dX12_layState_86 rfl rfl ?_
      refine vi_iadd C dX12_layState_87 rfl ?_
      obtain ⟨c17, h⟩ := gdo h
      refine r_iaload C dX12_layState_88 rfl c17 hR h (fun v18 h => ?_)
      refine r_cv0 C [.int (v18)] [] dX12_layState_89 rfl ivX12_225 imX12_layTwo rfl hR hF h (fun _ e => p_X12_layTwo e hR) rfl (Nat.le_of_ble_eq_true rfl) ⟨by decide, by decide⟩ ⟨Nat.le_refl _, Nat.le_refl _⟩ (fun S M19 h hR hF => ?_)
      refine vi_iincv (v := 1) C dX12_layState_92 rfl rfl (by decide) (by decide) ?_
      refine vi_goto (t' := 72) C dX12_layState_95 (by decide) ?_
      exact vi_cut [(0, .ref m), (1, .ref (b + l1)), (2, .int (l2)), (3, .int ((l3 + (1))))] ⟨rfl, rfl, rfl, rfl, trivial⟩ (ih _ _ h _ hR hF)

set_option maxRecDepth 100000 in
set_option maxHeartbeats 4000000 in
theorem p_X12_layState {M : vM} {R : vM} {a1 : Nat} {a2 : Int32} (h : F_X12_layState M a1 a2 = some R) {E : vE} {S0 : vS} {sz m b : Nat} (hR : RM S0 sz m b M) : vi_Met E yX12_layState cX12_layState 4 none 3 0 0 [.ref m, .ref (b + a1), .int (a2)] S0 sz (Q0 S0 sz m b R) := by
  refine vi_met (by decide) (Nat.le_of_ble_eq_true rfl) ?_
  intro X C
  have hF := rF.refl S0 m b
  unfold F_X12_layState at h
  refine vi_aload_n C dX12_layState_0 rfl rfl ?_
  refine vi_aload_n C dX12_layState_1 rfl rfl ?_
  refine vi_iload_n C dX12_layState_2 rfl rfl ?_
  obtain ⟨c1, h⟩ := gdo h
  refine r_iaload C dX12_layState_3 rfl c1 hR h (fun v2 h => ?_)
  refine r_cv0 C [.int (v2)] [] dX12_layState_4 rfl ivX12_228 imX12_layU rfl hR hF h (fun _ e => p_X12_layU e hR) rfl (Nat.le_of_ble_eq_true rfl) ⟨by decide, by decide⟩ ⟨Nat.le_refl _, Nat.le_refl _⟩ (fun S M3 h hR hF => ?_)
  refine vi_iconst (v := 0) C dX12_layState_7 rfl (by decide) ?_
  refine vi_istore_n C dX12_layState_8 rfl (by decide) ?_
  refine vi_cut [(0, .ref m), (1, .ref (b + a1)), (2, .int (a2)), (3, .int ((0 : Int32)))] ⟨rfl, rfl, rfl, rfl, trivial⟩ (w_X12_layState_9 C ?_ _ _ _ h _ hR hF)
  · intro M8 h S hR hF
    refine vi_iconst (v := 0) C dX12_layState_32 rfl (by decide) ?_
    refine vi_istore_n C dX12_layState_33 rfl (by decide) ?_
    refine vi_cut [(0, .ref m), (1, .ref (b + a1)), (2, .int (a2)), (3, .int ((0 : Int32)))] ⟨rfl, rfl, rfl, rfl, trivial⟩ (w_X12_layState_34 C ?_ _ _ _ h _ hR hF)
    · intro M16 h S hR hF
      refine vi_iconst (v := 0) C dX12_layState_70 rfl (by decide) ?_
      refine vi_istore_n C dX12_layState_71 rfl (by decide) ?_
      refine vi_cut [(0, .ref m), (1, .ref (b + a1)), (2, .int (a2)), (3, .int ((0 : Int32)))] ⟨rfl, rfl, rfl, rfl, trivial⟩ (w_X12_layState_72 C ?_ _ _ _ h _ hR hF)
      · intro M21 h S hR hF
        exact r_ret0 C dX12_layState_98 rfl hR hF h

def L_X12_layCheck_24 {ρ : Type}  (l3 : Int32) (kx61 : vM → Int32 → Option ρ) : Nat → vM → Int32 → Int32 → Option ρ
  | 0, _, _, _ => none
  | f + 1, M, l2, l4 => if (8 : Int32) ≤ l4 then (kx61 M (l2)) else (if (l2 &&& (1 : Int32)) = (1 : Int32) then (L_X12_layCheck_24 l3 kx61 f M ((((l2).toUInt32 >>> (((1 : Int32)).toUInt32 &&& Int32.toUInt32 31)).toInt32 ^^^ (-306674912 : Int32))) ((l4 + (1)))) else (L_X12_layCheck_24 l3 kx61 f M ((((l2).toUInt32 >>> (((1 : Int32)).toUInt32 &&& Int32.toUInt32 31)).toInt32 ^^^ (0 : Int32))) ((l4 + (1)))))

def L_X12_layCheck_4 {ρ : Type}   (kx67 : vM → Int32 → Option ρ) : Nat → vM → Int32 → Int32 → Option ρ
  | 0, _, _, _ => none
  | f + 1, M, l2, l3 => if (M.1 45) ≤ l3 then (kx67 M (l2)) else ((mG M 38 (l3)).bind fun v1 => L_X12_layCheck_24 (l3) (fun (M4 : vM) (l5 : Int32) => L_X12_layCheck_4  kx67 f M4 (l5) ((l3 + (1)))) fu M ((l2 ^^^ v1)) ((0 : Int32)))

def L_X12_layCheck_73 {ρ : Type}  (l2 : Int32) (kx94 : vM → Option ρ) : Nat → vM → Int32 → Option ρ
  | 0, _, _ => none
  | f + 1, M, l3 => if (4 : Int32) ≤ l3 then (kx94 M ) else ((F_X12_lay M (((l2).toUInt32 >>> ((((8 : Int32) * l3)).toUInt32 &&& Int32.toUInt32 31)).toInt32)).bind fun M9 => L_X12_layCheck_73 l2 kx94 f M9 ((l3 + (1))))

def F_X12_layCheck (M : vM) (a1 : Int32) : Option vM := L_X12_layCheck_4  (fun (M7 : vM) (l8 : Int32) => L_X12_layCheck_73 ((l8 ^^^ (-1 : Int32))) (fun (M11 : vM)  => some M11) fu M7 ((0 : Int32))) fu M ((-1 : Int32)) (a1)

set_option maxRecDepth 100000 in
set_option maxHeartbeats 4000000 in
theorem w_X12_layCheck_24 {E : vE} {X : vX} {S0 : vS} {sz m b : Nat} {ρ : Type} {R : ρ} {Z : State → Prop} {l3 : Int32} {kx61 : vM → Int32 → Option ρ} (C : vi_C E X yX12_layCheck cX12_layCheck 6 none 1 0 0 (45 * 1)) (hx61 : ∀ (M : vM) (l2 : Int32), kx61 M l2 = some R → ∀ S, RM S sz m b M → rF S0 S m b → vi_W E X 6 Z 61 [(0, .ref m), (2, .int (l2)), (3, .int (l3))] [] S sz 0 0) : ∀ (f : Nat) (M : vM) (l2 : Int32) (l4 : Int32), L_X12_layCheck_24 l3 kx61 f M l2 l4 = some R → ∀ S, RM S sz m b M → rF S0 S m b → vi_W E X 6 Z 24 [(0, .ref m), (2, .int (l2)), (3, .int (l3)), (4, .int (l4))] [] S sz 0 0 := by
  intro f
  induction f with
  | zero => intro M l2 l4 h; cases h
  | succ f ih =>
    intro M l2 l4 h S hR hF
    rw [L_X12_layCheck_24] at h
    refine vi_iload C dX12_layCheck_24 rfl rfl ?_
    refine vi_bipush (v := 8) C dX12_layCheck_26 rfl (by decide) ?_
    refine vi_icmp_ge (t' := 61) C dX12_layCheck_28 rfl (by decide) (fun c3 => ?_) (fun c3 => ?_)
    · replace h := iT c3 h
      exact vi_cut [(0, .ref m), (2, .int (l2)), (3, .int (l3))] ⟨rfl, rfl, rfl, trivial⟩ (hx61 _ _ h _ hR hF)
    · replace h := iN c3 h
      refine vi_iload_n C dX12_layCheck_31 rfl rfl ?_
      refine vi_iconst (v := 1) C dX12_layCheck_32 rfl (by decide) ?_
      refine vi_iand C dX12_layCheck_33 rfl ?_
      refine vi_istore C dX12_layCheck_34 rfl (by decide) ?_
      refine vi_iload_n C dX12_layCheck_36 rfl rfl ?_
      refine vi_iconst (v := 1) C dX12_layCheck_37 rfl (by decide) ?_
      refine vi_iushr C dX12_layCheck_38 rfl ?_
      refine vi_istore_n C dX12_layCheck_39 rfl (by decide) ?_
      refine vi_iload_n C dX12_layCheck_40 rfl rfl ?_
      refine vi_iload C dX12_layCheck_41 rfl rfl ?_
      refine vi_iconst (v := 1) C dX12_layCheck_43 rfl (by decide) ?_
      refine vi_icmp_ne (t' := 52) C dX12_layCheck_44 rfl (by decide) (fun c2 => ?_) (fun c2 => ?_)
      · replace h := iN c2 h
        refine vi_iconst (v := 0) C dX12_layCheck_52 rfl (by decide) ?_
        refine vi_ixor C dX12_layCheck_53 rfl ?_
        refine vi_istore_n C dX12_layCheck_54 rfl (by decide) ?_
        refine vi_iincv (v := 1) C dX12_layCheck_55 rfl rfl (by decide) (by decide) ?_
        refine vi_goto (t' := 24) C dX12_layCheck_58 (by decide) ?_
        exact vi_cut [(0, .ref m), (2, .int ((((l2).toUInt32 >>> (((1 : Int32)).toUInt32 &&& Int32.toUInt32 31)).toInt32 ^^^ (0 : Int32)))), (3, .int (l3)), (4, .int ((l4 + (1))))] ⟨rfl, rfl, rfl, rfl, trivial⟩ (ih _ _ _ h _ hR hF)
      · replace h := iT c2 h
        refine vi_ldc C dX12_layCheck_47 rfl kX12_234 ?_
        refine vi_goto (t' := 53) C dX12_layCheck_49 (by decide) ?_
        refine vi_ixor C dX12_layCheck_53 rfl ?_
        refine vi_istore_n C dX12_layCheck_54 rfl (by decide) ?_
        refine vi_iincv (v := 1) C dX12_layCheck_55 rfl rfl (by decide) (by decide) ?_
        refine vi_goto (t' := 24) C dX12_layCheck_58 (by decide) ?_
        exact vi_cut [(0, .ref m), (2, .int ((((l2).toUInt32 >>> (((1 : Int32)).toUInt32 &&& Int32.toUInt32 31)).toInt32 ^^^ (-306674912 : Int32)))), (3, .int (l3)), (4, .int ((l4 + (1))))] ⟨rfl, rfl, rfl, rfl, trivial⟩ (ih _ _ _ h _ hR hF)

set_option maxRecDepth 100000 in
set_option maxHeartbeats 4000000 in
theorem w_X12_layCheck_4 {E : vE} {X : vX} {S0 : vS} {sz m b : Nat} {ρ : Type} {R : ρ} {Z : State → Prop}  {kx67 : vM → Int32 → Option ρ} (C : vi_C E X yX12_layCheck cX12_layCheck 6 none 1 0 0 (45 * 1)) (hx67 : ∀ (M : vM) (l2 : Int32), kx67 M l2 = some R → ∀ S, RM S sz m b M → rF S0 S m b → vi_W E X 6 Z 67 [(0, .ref m), (2, .int (l2))] [] S sz 0 0) : ∀ (f : Nat) (M : vM) (l2 : Int32) (l3 : Int32), L_X12_layCheck_4  kx67 f M l2 l3 = some R → ∀ S, RM S sz m b M → rF S0 S m b → vi_W E X 6 Z 4 [(0, .ref m), (2, .int (l2)), (3, .int (l3))] [] S sz 0 0 := by
  intro f
  induction f with
  | zero => intro M l2 l3 h; cases h
  | succ f ih =>
    intro M l2 l3 h S hR hF
    rw [L_X12_layCheck_4] at h
    refine vi_iload_n C dX12_layCheck_4 rfl rfl ?_
    refine vi_aload_n C dX12_layCheck_5 rfl rfl ?_
    refine r_geti C dX12_layCheck_6 rfl fX12_218 rfl hR ?_
    refine vi_icmp_ge (t' := 67) C dX12_layCheck_9 rfl (by decide) (fun c6 => ?_) (fun c6 => ?_)
    · replace h := iT c6 h
      exact vi_cut [(0, .ref m), (2, .int (l2))] ⟨rfl, rfl, trivial⟩ (hx67 _ _ h _ hR hF)
    · replace h := iN c6 h
      refine vi_iload_n C dX12_layCheck_12 rfl rfl ?_
      refine vi_aload_n C dX12_layCheck_13 rfl rfl ?_
      refine r_geta C dX12_layCheck_14 rfl fX12_133 rfl hR rfl ?_
      refine vi_iload_n C dX12_layCheck_17 rfl rfl ?_
      refine r_iaload C dX12_layCheck_18 rfl rfl hR h (fun v1 h => ?_)
      refine vi_ixor C dX12_layCheck_19 rfl ?_
      refine vi_istore_n C dX12_layCheck_20 rfl (by decide) ?_
      refine vi_iconst (v := 0) C dX12_layCheck_21 rfl (by decide) ?_
      refine vi_istore C dX12_layCheck_22 rfl (by decide) ?_
      refine vi_cut [(0, .ref m), (2, .int ((l2 ^^^ v1))), (3, .int (l3)), (4, .int ((0 : Int32)))] ⟨rfl, rfl, rfl, rfl, trivial⟩ (w_X12_layCheck_24 C ?_ _ _ _ _ h _ hR hF)
      · intro M4 l5 h S hR hF
        refine vi_iincv (v := 1) C dX12_layCheck_61 rfl rfl (by decide) (by decide) ?_
        refine vi_goto (t' := 4) C dX12_layCheck_64 (by decide) ?_
        exact vi_cut [(0, .ref m), (2, .int (l5)), (3, .int ((l3 + (1))))] ⟨rfl, rfl, rfl, trivial⟩ (ih _ _ _ h _ hR hF)

set_option maxRecDepth 100000 in
set_option maxHeartbeats 4000000 in
theorem w_X12_layCheck_73 {E : vE} {X : vX} {S0 : vS} {sz m b : Nat} {ρ : Type} {R : ρ} {Z : State → Prop} {l2 : Int32} {kx94 : vM → Option ρ} (C : vi_C E X yX12_layCheck cX12_layCheck 6 none 1 0 0 (45 * 1)) (hx94 : ∀ (M : vM) , kx94 M  = some R → ∀ S, RM S sz m b M → rF S0 S m b → vi_W E X 6 Z 94 [] [] S sz 0 0) : ∀ (f : Nat) (M : vM) (l3 : Int32), L_X12_layCheck_73 l2 kx94 f M l3 = some R → ∀ S, RM S sz m b M → rF S0 S m b → vi_W E X 6 Z 73 [(0, .ref m), (2, .int (l2)), (3, .int (l3))] [] S sz 0 0 := by
  intro f
  induction f with
  | zero => intro M l3 h; cases h
  | succ f ih =>
    intro M l3 h S hR hF
    rw [L_X12_layCheck_73] at h
    refine vi_iload_n C dX12_layCheck_73 rfl rfl ?_
    refine vi_iconst (v := 4) C dX12_layCheck_74 rfl (by decide) ?_
    refine vi_icmp_ge (t' := 94) C dX12_layCheck_75 rfl (by decide) (fun c10 => ?_) (fun c10 => ?_)
    · replace h := iT c10 h
      exact vi_cut [] trivial (hx94 _  h _ hR hF)
    · replace h := iN c10 h
      refine vi_aload_n C dX12_layCheck_78 rfl rfl ?_
      refine vi_iload_n C dX12_layCheck_79 rfl rfl ?_
      refine vi_bipush (v := 8) C dX12_layCheck_80 rfl (by decide) ?_
      refine vi_iload_n C dX12_layCheck_82 rfl rfl ?_
      refine vi_imul C dX12_layCheck_83 rfl ?_
      refine vi_iushr C dX12_layCheck_84 rfl ?_
      refine r_cv0 C [.int (((l2).toUInt32 >>> ((((8 : Int32) * l3)).toUInt32 &&& Int32.toUInt32 31)).toInt32)] [] dX12_layCheck_85 rfl ivX12_221 imX12_lay rfl hR hF h (fun _ e => p_X12_lay e hR) rfl (Nat.le_of_ble_eq_true rfl) ⟨by decide, by decide⟩ ⟨Nat.le_refl _, Nat.le_refl _⟩ (fun S M9 h hR hF => ?_)
      refine vi_iincv (v := 1) C dX12_layCheck_88 rfl rfl (by decide) (by decide) ?_
      refine vi_goto (t' := 73) C dX12_layCheck_91 (by decide) ?_
      exact vi_cut [(0, .ref m), (2, .int (l2)), (3, .int ((l3 + (1))))] ⟨rfl, rfl, rfl, trivial⟩ (ih _ _ h _ hR hF)

set_option maxRecDepth 100000 in
set_option maxHeartbeats 4000000 in
theorem p_X12_layCheck {M : vM} {R : vM} {a1 : Int32} (h : F_X12_layCheck M a1 = some R) {E : vE} {S0 : vS} {sz m b : Nat} (hR : RM S0 sz m b M) : vi_Met E yX12_layCheck cX12_layCheck 6 none 1 0 0 [.ref m, .int (a1)] S0 sz (Q0 S0 sz m b R) := by
  refine vi_met (by decide) (Nat.le_of_ble_eq_true rfl) ?_
  intro X C
  have hF := rF.refl S0 m b
  unfold F_X12_layCheck at h
  refine vi_iconst (v := -1) C dX12_layCheck_0 rfl (by decide) ?_
  refine vi_istore_n C dX12_layCheck_1 rfl (by decide) ?_
  refine vi_iload_n C dX12_layCheck_2 rfl rfl ?_
  refine vi_istore_n C dX12_layCheck_3 rfl (by decide) ?_
  refine vi_cut [(0, .ref m), (2, .int ((-1 : Int32))), (3, .int (a1))] ⟨rfl, rfl, rfl, trivial⟩ (w_X12_layCheck_4 C ?_ _ _ _ _ h _ hR hF)
  · intro M7 l8 h S hR hF
    refine vi_iload_n C dX12_layCheck_67 rfl rfl ?_
    refine vi_iconst (v := -1) C dX12_layCheck_68 rfl (by decide) ?_
    refine vi_ixor C dX12_layCheck_69 rfl ?_
    refine vi_istore_n C dX12_layCheck_70 rfl (by decide) ?_
    refine vi_iconst (v := 0) C dX12_layCheck_71 rfl (by decide) ?_
    refine vi_istore_n C dX12_layCheck_72 rfl (by decide) ?_
    refine vi_cut [(0, .ref m), (2, .int ((l8 ^^^ (-1 : Int32)))), (3, .int ((0 : Int32)))] ⟨rfl, rfl, rfl, trivial⟩ (w_X12_layCheck_73 C ?_ _ _ _ h _ hR hF)
    · intro M11 h S hR hF
      exact r_ret0 C dX12_layCheck_94 rfl hR hF h

def L_X12_layHead_29 {ρ : Type}  (l2 : Int32) (kx50 : vM → Option ρ) : Nat → vM → Int32 → Option ρ
  | 0, _, _ => none
  | f + 1, M, l3 => if (4 : Int32) ≤ l3 then (kx50 M ) else ((F_X12_lay M (((l2).toUInt32 >>> ((((8 : Int32) * l3)).toUInt32 &&& Int32.toUInt32 31)).toInt32)).bind fun M6 => L_X12_layHead_29 l2 kx50 f M6 ((l3 + (1))))

def F_X12_layHead (M : vM) (a1 : Int32) (a2 : Int32) : Option vM := lt1 (mW M 45 ((0 : Int32))) fun M1 => (F_X12_lay M1 ((74 : Int32))).bind fun M2 => (F_X12_lay M2 ((49 : Int32))).bind fun M3 => (F_X12_lay M3 (a1)).bind fun M4 => (F_X12_lay M4 ((0 : Int32))).bind fun M5 => L_X12_layHead_29 (a2) (fun (M8 : vM)  => (F_X12_layCheck M8 ((0 : Int32))).bind fun M9 => some M9) fu M5 ((0 : Int32))

set_option maxRecDepth 100000 in
set_option maxHeartbeats 4000000 in
theorem w_X12_layHead_29 {E : vE} {X : vX} {S0 : vS} {sz m b : Nat} {ρ : Type} {R : ρ} {Z : State → Prop} {l2 : Int32} {kx50 : vM → Option ρ} (C : vi_C E X yX12_layHead cX12_layHead 4 none 2 0 0 (45 * 2)) (hx50 : ∀ (M : vM) , kx50 M  = some R → ∀ S, RM S sz m b M → rF S0 S m b → vi_W E X 4 Z 50 [(0, .ref m)] [] S sz 0 0) : ∀ (f : Nat) (M : vM) (l3 : Int32), L_X12_layHead_29 l2 kx50 f M l3 = some R → ∀ S, RM S sz m b M → rF S0 S m b → vi_W E X 4 Z 29 [(0, .ref m), (2, .int (l2)), (3, .int (l3))] [] S sz 0 0 := by
  intro f
  induction f with
  | zero => intro M l3 h; cases h
  | succ f ih =>
    intro M l3 h S hR hF
    rw [L_X12_layHead_29] at h
    refine vi_iload_n C dX12_layHead_29 rfl rfl ?_
    refine vi_iconst (v := 4) C dX12_layHead_30 rfl (by decide) ?_
    refine vi_icmp_ge (t' := 50) C dX12_layHead_31 rfl (by decide) (fun c7 => ?_) (fun c7 => ?_)
    · replace h := iT c7 h
      exact vi_cut [(0, .ref m)] ⟨rfl, trivial⟩ (hx50 _  h _ hR hF)
    · replace h := iN c7 h
      refine vi_aload_n C dX12_layHead_34 rfl rfl ?_
      refine vi_iload_n C dX12_layHead_35 rfl rfl ?_
      refine vi_bipush (v := 8) C dX12_layHead_36 rfl (by decide) ?_
      refine vi_iload_n C dX12_layHead_38 rfl rfl ?_
      refine vi_imul C dX12_layHead_39 rfl ?_
      refine vi_iushr C dX12_layHead_40 rfl ?_
      refine r_cv0 C [.int (((l2).toUInt32 >>> ((((8 : Int32) * l3)).toUInt32 &&& Int32.toUInt32 31)).toInt32)] [] dX12_layHead_41 rfl ivX12_221 imX12_lay rfl hR hF h (fun _ e => p_X12_lay e hR) rfl (Nat.le_of_ble_eq_true rfl) ⟨by decide, by decide⟩ ⟨Nat.le_refl _, Nat.le_refl _⟩ (fun S M6 h hR hF => ?_)
      refine vi_iincv (v := 1) C dX12_layHead_44 rfl rfl (by decide) (by decide) ?_
      refine vi_goto (t' := 29) C dX12_layHead_47 (by decide) ?_
      exact vi_cut [(0, .ref m), (2, .int (l2)), (3, .int ((l3 + (1))))] ⟨rfl, rfl, rfl, trivial⟩ (ih _ _ h _ hR hF)

set_option maxRecDepth 100000 in
set_option maxHeartbeats 4000000 in
theorem p_X12_layHead {M : vM} {R : vM} {a1 : Int32} {a2 : Int32} (h : F_X12_layHead M a1 a2 = some R) {E : vE} {S0 : vS} {sz m b : Nat} (hR : RM S0 sz m b M) : vi_Met E yX12_layHead cX12_layHead 4 none 2 0 0 [.ref m, .int (a1), .int (a2)] S0 sz (Q0 S0 sz m b R) := by
  refine vi_met (by decide) (Nat.le_of_ble_eq_true rfl) ?_
  intro X C
  have hF := rF.refl S0 m b
  unfold F_X12_layHead at h
  refine vi_aload_n C dX12_layHead_0 rfl rfl ?_
  refine vi_iconst (v := 0) C dX12_layHead_1 rfl (by decide) ?_
  refine r_puti C dX12_layHead_2 rfl (fpX12_218 _) rfl hR hF h (fun S M1 h hR hF => ?_)
  refine vi_aload_n C dX12_layHead_5 rfl rfl ?_
  refine vi_bipush (v := 74) C dX12_layHead_6 rfl (by decide) ?_
  refine r_cv0 C [.int ((74 : Int32))] [] dX12_layHead_8 rfl ivX12_221 imX12_lay rfl hR hF h (fun _ e => p_X12_lay e hR) rfl (Nat.le_of_ble_eq_true rfl) ⟨by decide, by decide⟩ ⟨Nat.le_refl _, Nat.le_refl _⟩ (fun S M2 h hR hF => ?_)
  refine vi_aload_n C dX12_layHead_11 rfl rfl ?_
  refine vi_bipush (v := 49) C dX12_layHead_12 rfl (by decide) ?_
  refine r_cv0 C [.int ((49 : Int32))] [] dX12_layHead_14 rfl ivX12_221 imX12_lay rfl hR hF h (fun _ e => p_X12_lay e hR) rfl (Nat.le_of_ble_eq_true rfl) ⟨by decide, by decide⟩ ⟨Nat.le_refl _, Nat.le_refl _⟩ (fun S M3 h hR hF => ?_)
  refine vi_aload_n C dX12_layHead_17 rfl rfl ?_
  refine vi_iload_n C dX12_layHead_18 rfl rfl ?_
  refine r_cv0 C [.int (a1)] [] dX12_layHead_19 rfl ivX12_221 imX12_lay rfl hR hF h (fun _ e => p_X12_lay e hR) rfl (Nat.le_of_ble_eq_true rfl) ⟨by decide, by decide⟩ ⟨Nat.le_refl _, Nat.le_refl _⟩ (fun S M4 h hR hF => ?_)
  refine vi_aload_n C dX12_layHead_22 rfl rfl ?_
  refine vi_iconst (v := 0) C dX12_layHead_23 rfl (by decide) ?_
  refine r_cv0 C [.int ((0 : Int32))] [] dX12_layHead_24 rfl ivX12_221 imX12_lay rfl hR hF h (fun _ e => p_X12_lay e hR) rfl (Nat.le_of_ble_eq_true rfl) ⟨by decide, by decide⟩ ⟨Nat.le_refl _, Nat.le_refl _⟩ (fun S M5 h hR hF => ?_)
  refine vi_iconst (v := 0) C dX12_layHead_27 rfl (by decide) ?_
  refine vi_istore_n C dX12_layHead_28 rfl (by decide) ?_
  refine vi_cut [(0, .ref m), (2, .int (a2)), (3, .int ((0 : Int32)))] ⟨rfl, rfl, rfl, trivial⟩ (w_X12_layHead_29 C ?_ _ _ _ h _ hR hF)
  · intro M8 h S hR hF
    refine vi_aload_n C dX12_layHead_50 rfl rfl ?_
    refine vi_iconst (v := 0) C dX12_layHead_51 rfl (by decide) ?_
    refine r_cv0 C [.int ((0 : Int32))] [] dX12_layHead_52 rfl ivX12_235 imX12_layCheck rfl hR hF h (fun _ e => p_X12_layCheck e hR) rfl (Nat.le_of_ble_eq_true rfl) ⟨by decide, by decide⟩ ⟨Nat.le_refl _, Nat.le_refl _⟩ (fun S M9 h hR hF => ?_)
    exact r_ret0 C dX12_layHead_55 rfl hR hF h

def L_X12_asRecord_14 {ρ : Type}  (l1 : Int32) (l2 : Int32) (kx39 : vM → Option ρ) : Nat → vM → Int32 → Option ρ
  | 0, _, _ => none
  | f + 1, M, l3 => if l3 < l1 then (kx39 M ) else ((mG M 38 (l3)).bind fun v1 => (mS M 38 ((l3 + (2 : Int32))) (v1)).bind fun M2 => L_X12_asRecord_14 l1 l2 kx39 f M2 ((l3 + (-1))))

def F_X12_asRecord (M : vM) (a1 : Int32) : Option vM := L_X12_asRecord_14 (a1) (((M.1 45) - a1)) (fun (M4 : vM)  => (mS M4 38 (a1) ((((M.1 45) - a1) &&& (255 : Int32)))).bind fun M5 => (mS M5 38 ((a1 + (1 : Int32))) ((((M.1 45) - a1) >>> ((8 : Int32) &&& 31)))).bind fun M6 => lt1 (mW M6 45 (((M6.1 45) + (2 : Int32)))) fun M7 => (F_X12_layCheck M7 (a1)).bind fun M8 => if (((M.1 45) - a1) - ((M.1 45) - a1) / (2 : Int32) * (2 : Int32)) = (1 : Int32) then ((F_X12_lay M8 ((0 : Int32))).bind fun M9 => some M9) else (some M8)) fu M (((M.1 45) - (1 : Int32)))

set_option maxRecDepth 100000 in
set_option maxHeartbeats 4000000 in
theorem w_X12_asRecord_14 {E : vE} {X : vX} {S0 : vS} {sz m b : Nat} {ρ : Type} {R : ρ} {Z : State → Prop} {l1 : Int32} {l2 : Int32} {kx39 : vM → Option ρ} (C : vi_C E X yX12_asRecord cX12_asRecord 4 none 2 0 0 (45 * 2)) (hx39 : ∀ (M : vM) , kx39 M  = some R → ∀ S, RM S sz m b M → rF S0 S m b → vi_W E X 4 Z 39 [(0, .ref m), (1, .int (l1)), (2, .int (l2))] [] S sz 0 0) : ∀ (f : Nat) (M : vM) (l3 : Int32), L_X12_asRecord_14 l1 l2 kx39 f M l3 = some R → ∀ S, RM S sz m b M → rF S0 S m b → vi_W E X 4 Z 14 [(0, .ref m), (1, .int (l1)), (2, .int (l2)), (3, .int (l3))] [] S sz 0 0 := by
  intro f
  induction f with
  | zero => intro M l3 h; cases h
  | succ f ih =>
    intro M l3 h S hR hF
    rw [L_X12_asRecord_14] at h
    refine vi_iload_n C dX12_asRecord_14 rfl rfl ?_
    refine vi_iload_n C dX12_asRecord_15 rfl rfl ?_
    refine vi_icmp_lt (t' := 39) C dX12_asRecord_16 rfl (by decide) (fun c3 => ?_) (fun c3 => ?_)
    · replace h := iT c3 h
      exact vi_cut [(0, .ref m), (1, .int (l1)), (2, .int (l2))] ⟨rfl, rfl, rfl, trivial⟩ (hx39 _  h _ hR hF)
    · replace h := iN c3 h
      refine vi_aload_n C dX12_asRecord_19 rfl rfl ?_
      refine r_geta C dX12_asRecord_20 rfl fX12_133 rfl hR rfl ?_
      refine vi_iload_n C dX12_asRecord_23 rfl rfl ?_
      refine vi_iconst (v := 2) C dX12_asRecord_24 rfl (by decide) ?_
      refine vi_iadd C dX12_asRecord_25 rfl ?_
      refine vi_aload_n C dX12_asRecord_26 rfl rfl ?_
      refine r_geta C dX12_asRecord_27 rfl fX12_133 rfl hR rfl ?_
      refine vi_iload_n C dX12_asRecord_30 rfl rfl ?_
      refine r_iaload C dX12_asRecord_31 rfl rfl hR h (fun v1 h => ?_)
      refine r_iastore C dX12_asRecord_32 rfl rfl hR hF h (fun S M2 h hR hF => ?_)
      refine vi_iincv (v := -1) C dX12_asRecord_33 rfl rfl (by decide) (by decide) ?_
      refine vi_goto (t' := 14) C dX12_asRecord_36 (by decide) ?_
      exact vi_cut [(0, .ref m), (1, .int (l1)), (2, .int (l2)), (3, .int ((l3 + (-1))))] ⟨rfl, rfl, rfl, rfl, trivial⟩ (ih _ _ h _ hR hF)

set_option maxRecDepth 100000 in
set_option maxHeartbeats 4000000 in
theorem p_X12_asRecord {M : vM} {R : vM} {a1 : Int32} (h : F_X12_asRecord M a1 = some R) {E : vE} {S0 : vS} {sz m b : Nat} (hR : RM S0 sz m b M) : vi_Met E yX12_asRecord cX12_asRecord 4 none 2 0 0 [.ref m, .int (a1)] S0 sz (Q0 S0 sz m b R) := by
  refine vi_met (by decide) (Nat.le_of_ble_eq_true rfl) ?_
  intro X C
  have hF := rF.refl S0 m b
  unfold F_X12_asRecord at h
  refine vi_aload_n C dX12_asRecord_0 rfl rfl ?_
  refine r_geti C dX12_asRecord_1 rfl fX12_218 rfl hR ?_
  refine vi_iload_n C dX12_asRecord_4 rfl rfl ?_
  refine vi_isub C dX12_asRecord_5 rfl ?_
  refine vi_istore_n C dX12_asRecord_6 rfl (by decide) ?_
  refine vi_aload_n C dX12_asRecord_7 rfl rfl ?_
  refine r_geti C dX12_asRecord_8 rfl fX12_218 rfl hR ?_
  refine vi_iconst (v := 1) C dX12_asRecord_11 rfl (by decide) ?_
  refine vi_isub C dX12_asRecord_12 rfl ?_
  refine vi_istore_n C dX12_asRecord_13 rfl (by decide) ?_
  refine vi_cut [(0, .ref m), (1, .int (a1)), (2, .int (((M.1 45) - a1))), (3, .int (((M.1 45) - (1 : Int32))))] ⟨rfl, rfl, rfl, rfl, trivial⟩ (w_X12_asRecord_14 C ?_ _ _ _ h _ hR hF)
  · intro M4 h S hR hF
    refine vi_aload_n C dX12_asRecord_39 rfl rfl ?_
    refine r_geta C dX12_asRecord_40 rfl fX12_133 rfl hR rfl ?_
    refine vi_iload_n C dX12_asRecord_43 rfl rfl ?_
    refine vi_iload_n C dX12_asRecord_44 rfl rfl ?_
    refine vi_sipush (v := 255) C dX12_asRecord_45 rfl (by decide) ?_
    refine vi_iand C dX12_asRecord_48 rfl ?_
    refine r_iastore C dX12_asRecord_49 rfl rfl hR hF h (fun S M5 h hR hF => ?_)
    refine vi_aload_n C dX12_asRecord_50 rfl rfl ?_
    refine r_geta C dX12_asRecord_51 rfl fX12_133 rfl hR rfl ?_
    refine vi_iload_n C dX12_asRecord_54 rfl rfl ?_
    refine vi_iconst (v := 1) C dX12_asRecord_55 rfl (by decide) ?_
    refine vi_iadd C dX12_asRecord_56 rfl ?_
    refine vi_iload_n C dX12_asRecord_57 rfl rfl ?_
    refine vi_bipush (v := 8) C dX12_asRecord_58 rfl (by decide) ?_
    refine vi_ishr C dX12_asRecord_60 rfl ?_
    refine r_iastore C dX12_asRecord_61 rfl rfl hR hF h (fun S M6 h hR hF => ?_)
    refine vi_aload_n C dX12_asRecord_62 rfl rfl ?_
    refine vi_dup C dX12_asRecord_63 rfl rfl ?_
    refine r_geti C dX12_asRecord_64 rfl fX12_218 rfl hR ?_
    refine vi_iconst (v := 2) C dX12_asRecord_67 rfl (by decide) ?_
    refine vi_iadd C dX12_asRecord_68 rfl ?_
    refine r_puti C dX12_asRecord_69 rfl (fpX12_218 _) rfl hR hF h (fun S M7 h hR hF => ?_)
    refine vi_aload_n C dX12_asRecord_72 rfl rfl ?_
    refine vi_iload_n C dX12_asRecord_73 rfl rfl ?_
    refine r_cv0 C [.int (a1)] [] dX12_asRecord_74 rfl ivX12_235 imX12_layCheck rfl hR hF h (fun _ e => p_X12_layCheck e hR) rfl (Nat.le_of_ble_eq_true rfl) ⟨by decide, by decide⟩ ⟨Nat.le_refl _, Nat.le_refl _⟩ (fun S M8 h hR hF => ?_)
    refine vi_iload_n C dX12_asRecord_77 rfl rfl ?_
    refine vi_iconst (v := 2) C dX12_asRecord_78 rfl (by decide) ?_
    refine vi_irem C dX12_asRecord_79 rfl (by decide) ?_
    refine vi_iconst (v := 1) C dX12_asRecord_80 rfl (by decide) ?_
    refine vi_icmp_ne (t' := 89) C dX12_asRecord_81 rfl (by decide) (fun c10 => ?_) (fun c10 => ?_)
    · replace h := iN c10 h
      exact r_ret0 C dX12_asRecord_89 rfl hR hF h
    · replace h := iT c10 h
      refine vi_aload_n C dX12_asRecord_84 rfl rfl ?_
      refine vi_iconst (v := 0) C dX12_asRecord_85 rfl (by decide) ?_
      refine r_cv0 C [.int ((0 : Int32))] [] dX12_asRecord_86 rfl ivX12_221 imX12_lay rfl hR hF h (fun _ e => p_X12_lay e hR) rfl (Nat.le_of_ble_eq_true rfl) ⟨by decide, by decide⟩ ⟨Nat.le_refl _, Nat.le_refl _⟩ (fun S M9 h hR hF => ?_)
      exact r_ret0 C dX12_asRecord_89 rfl hR hF h

def F_X12_follow (M : vM) (a1 : Int32) : Option vM := (mS M 19 (a1) ((0 : Int32))).bind fun M1 => (mS M1 20 (a1) ((0 : Int32))).bind fun M2 => (mS M2 21 (a1) ((0 : Int32))).bind fun M3 => (mS M3 22 (a1) ((0 : Int32))).bind fun M4 => (mS M4 23 (a1) ((0 : Int32))).bind fun M5 => (mS M5 24 (a1) ((0 : Int32))).bind fun M6 => some M6

set_option maxRecDepth 100000 in
set_option maxHeartbeats 4000000 in
theorem p_X12_follow {M : vM} {R : vM} {a1 : Int32} (h : F_X12_follow M a1 = some R) {E : vE} {S0 : vS} {sz m b : Nat} (hR : RM S0 sz m b M) : vi_Met E yX12_follow cX12_follow 2 none 0 0 0 [.ref m, .int (a1)] S0 sz (Q0 S0 sz m b R) := by
  refine vi_met (by decide) (Nat.le_of_ble_eq_true rfl) ?_
  intro X C
  have hF := rF.refl S0 m b
  unfold F_X12_follow at h
  refine vi_aload_n C dX12_follow_0 rfl rfl ?_
  refine r_geta C dX12_follow_1 rfl fX12_73 rfl hR rfl ?_
  refine vi_iload_n C dX12_follow_4 rfl rfl ?_
  refine vi_iconst (v := 0) C dX12_follow_5 rfl (by decide) ?_
  refine r_iastore C dX12_follow_6 rfl rfl hR hF h (fun S M1 h hR hF => ?_)
  refine vi_aload_n C dX12_follow_7 rfl rfl ?_
  refine r_geta C dX12_follow_8 rfl fX12_76 rfl hR rfl ?_
  refine vi_iload_n C dX12_follow_11 rfl rfl ?_
  refine vi_iconst (v := 0) C dX12_follow_12 rfl (by decide) ?_
  refine r_iastore C dX12_follow_13 rfl rfl hR hF h (fun S M2 h hR hF => ?_)
  refine vi_aload_n C dX12_follow_14 rfl rfl ?_
  refine r_geta C dX12_follow_15 rfl fX12_79 rfl hR rfl ?_
  refine vi_iload_n C dX12_follow_18 rfl rfl ?_
  refine vi_iconst (v := 0) C dX12_follow_19 rfl (by decide) ?_
  refine r_iastore C dX12_follow_20 rfl rfl hR hF h (fun S M3 h hR hF => ?_)
  refine vi_aload_n C dX12_follow_21 rfl rfl ?_
  refine r_geta C dX12_follow_22 rfl fX12_82 rfl hR rfl ?_
  refine vi_iload_n C dX12_follow_25 rfl rfl ?_
  refine vi_iconst (v := 0) C dX12_follow_26 rfl (by decide) ?_
  refine r_iastore C dX12_follow_27 rfl rfl hR hF h (fun S M4 h hR hF => ?_)
  refine vi_aload_n C dX12_follow_28 rfl rfl ?_
  refine r_geta C dX12_follow_29 rfl fX12_85 rfl hR rfl ?_
  refine vi_iload_n C dX12_follow_32 rfl rfl ?_
  refine vi_iconst (v := 0) C dX12_follow_33 rfl (by decide) ?_
  refine r_iastore C dX12_follow_34 rfl rfl hR hF h (fun S M5 h hR hF => ?_)
  refine vi_aload_n C dX12_follow_35 rfl rfl ?_
  refine r_geta C dX12_follow_36 rfl fX12_88 rfl hR rfl ?_
  refine vi_iload_n C dX12_follow_39 rfl rfl ?_
  refine vi_iconst (v := 0) C dX12_follow_40 rfl (by decide) ?_
  refine r_iastore C dX12_follow_41 rfl rfl hR hF h (fun S M6 h hR hF => ?_)
  exact r_ret0 C dX12_follow_42 rfl hR hF h

def L_X12_goDown_21 {ρ : Type}  (l1 : Int32) (kx69 : vM → Option ρ) : Nat → vM → Int32 → Option ρ
  | 0, _, _ => none
  | f + 1, M, l2 => if (16 : Int32) ≤ l2 then (kx69 M ) else ((mG M 46 (l2)).bind fun v4 => jn (fun (u : Unit) => (mG M 46 (l2)).bind fun v10 => (mS M 46 (l2) (v10)).bind fun M11 => L_X12_goDown_21 l1 kx69 f M11 ((l2 + (1)))) (fun k56_5 => if v4 = (1 : Int32) then ((mG M 48 (l2)).bind fun v6 => if v6 = l1 then ((mS M 46 (l2) ((4 : Int32))).bind fun M7 => L_X12_goDown_21 l1 kx69 f M7 ((l2 + (1)))) else ((k56_5 (())))) else ((k56_5 (())))))

def F_X12_goDown (M : vM) (a1 : Int32) : Option vM := zb ((0 : Int32)) <| (mS M 6 (a1) ((0 : Int32))).bind fun M1 => (F_X12_follow M1 (a1)).bind fun M2 => (mS M2 27 (a1) ((0 : Int32))).bind fun M3 => L_X12_goDown_21 (a1) (fun (M13 : vM)  => some M13) fu M3 ((0 : Int32))

set_option maxRecDepth 100000 in
set_option maxHeartbeats 4000000 in
theorem w_X12_goDown_21 {E : vE} {X : vX} {S0 : vS} {sz m b : Nat} {ρ : Type} {R : ρ} {Z : State → Prop} {l1 : Int32} {kx69 : vM → Option ρ} (C : vi_C E X yX12_goDown cX12_goDown 3 none 1 0 0 (45 * 1)) (hx69 : ∀ (M : vM) , kx69 M  = some R → ∀ S, RM S sz m b M → rF S0 S m b → vi_W E X 3 Z 69 [] [] S sz 0 0) : ∀ (f : Nat) (M : vM) (l2 : Int32), L_X12_goDown_21 l1 kx69 f M l2 = some R → ∀ S, RM S sz m b M → rF S0 S m b → vi_W E X 3 Z 21 [(0, .ref m), (1, .int (l1)), (2, .int (l2))] [] S sz 0 0 := by
  intro f
  induction f with
  | zero => intro M l2 h; cases h
  | succ f ih =>
    intro M l2 h S hR hF
    rw [L_X12_goDown_21] at h
    refine vi_iload_n C dX12_goDown_21 rfl rfl ?_
    refine vi_bipush (v := 16) C dX12_goDown_22 rfl (by decide) ?_
    refine vi_icmp_ge (t' := 69) C dX12_goDown_24 rfl (by decide) (fun c12 => ?_) (fun c12 => ?_)
    · replace h := iT c12 h
      exact vi_cut [] trivial (hx69 _  h _ hR hF)
    · replace h := iN c12 h
      refine vi_aload_n C dX12_goDown_27 rfl rfl ?_
      refine r_geta C dX12_goDown_28 rfl fX12_157 rfl hR rfl ?_
      refine vi_iload_n C dX12_goDown_31 rfl rfl ?_
      refine vi_aload_n C dX12_goDown_32 rfl rfl ?_
      refine r_geta C dX12_goDown_33 rfl fX12_157 rfl hR rfl ?_
      refine vi_iload_n C dX12_goDown_36 rfl rfl ?_
      refine r_iaload C dX12_goDown_37 rfl rfl hR h (fun v4 h => ?_)
      refine vi_iconst (v := 1) C dX12_goDown_38 rfl (by decide) ?_
      refine r_jn h (fun k => ∀ (u : Unit), k u = some R → ∀ S, RM S sz m b M → rF S0 S m b → vi_W E X 3 Z 56 [(0, .ref m), (1, .int (l1)), (2, .int (l2))] [.int (l2), .ref (b + 46)] S sz 0 0) ?_ ?_
      · intro u h S hR hF
        refine vi_aload_n C dX12_goDown_56 rfl rfl ?_
        refine r_geta C dX12_goDown_57 rfl fX12_157 rfl hR rfl ?_
        refine vi_iload_n C dX12_goDown_60 rfl rfl ?_
        refine r_iaload C dX12_goDown_61 rfl rfl hR h (fun v10 h => ?_)
        refine r_iastore C dX12_goDown_62 rfl rfl hR hF h (fun S M11 h hR hF => ?_)
        refine vi_iincv (v := 1) C dX12_goDown_63 rfl rfl (by decide) (by decide) ?_
        refine vi_goto (t' := 21) C dX12_goDown_66 (by decide) ?_
        exact vi_cut [(0, .ref m), (1, .int (l1)), (2, .int ((l2 + (1))))] ⟨rfl, rfl, rfl, trivial⟩ (ih _ _ h _ hR hF)
      · intro k56_5 h56_5 h
        refine vi_icmp_ne (t' := 56) C dX12_goDown_39 rfl (by decide) (fun c9 => ?_) (fun c9 => ?_)
        · replace h := iN c9 h
          exact vi_cut [(0, .ref m), (1, .int (l1)), (2, .int (l2))] ⟨rfl, rfl, rfl, trivial⟩ (h56_5 _ h _ hR hF)
        · replace h := iT c9 h
          refine vi_aload_n C dX12_goDown_42 rfl rfl ?_
          refine r_geta C dX12_goDown_43 rfl fX12_163 rfl hR rfl ?_
          refine vi_iload_n C dX12_goDown_46 rfl rfl ?_
          refine r_iaload C dX12_goDown_47 rfl rfl hR h (fun v6 h => ?_)
          refine vi_iload_n C dX12_goDown_48 rfl rfl ?_
          refine vi_icmp_ne (t' := 56) C dX12_goDown_49 rfl (by decide) (fun c8 => ?_) (fun c8 => ?_)
          · replace h := iN c8 h
            exact vi_cut [(0, .ref m), (1, .int (l1)), (2, .int (l2))] ⟨rfl, rfl, rfl, trivial⟩ (h56_5 _ h _ hR hF)
          · replace h := iT c8 h
            refine vi_iconst (v := 4) C dX12_goDown_52 rfl (by decide) ?_
            refine vi_goto (t' := 62) C dX12_goDown_53 (by decide) ?_
            refine r_iastore C dX12_goDown_62 rfl rfl hR hF h (fun S M7 h hR hF => ?_)
            refine vi_iincv (v := 1) C dX12_goDown_63 rfl rfl (by decide) (by decide) ?_
            refine vi_goto (t' := 21) C dX12_goDown_66 (by decide) ?_
            exact vi_cut [(0, .ref m), (1, .int (l1)), (2, .int ((l2 + (1))))] ⟨rfl, rfl, rfl, trivial⟩ (ih _ _ h _ hR hF)

set_option maxRecDepth 100000 in
set_option maxHeartbeats 4000000 in
theorem p_X12_goDown {M : vM} {R : vM} {a1 : Int32} (h : F_X12_goDown M a1 = some R) {E : vE} {S0 : vS} {sz m b : Nat} (hR : RM S0 sz m b M) : vi_Met E yX12_goDown cX12_goDown 3 none 1 0 0 [.ref m, .int (a1)] S0 sz (Q0 S0 sz m b R) := by
  refine vi_met (by decide) (Nat.le_of_ble_eq_true rfl) ?_
  intro X C
  have hF := rF.refl S0 m b
  unfold F_X12_goDown at h
  refine vi_aload_n C dX12_goDown_0 rfl rfl ?_
  refine r_geta C dX12_goDown_1 rfl fX12_33 rfl hR rfl ?_
  refine vi_iload_n C dX12_goDown_4 rfl rfl ?_
  refine vi_iconst (v := 0) C dX12_goDown_5 rfl (by decide) ?_
  refine r_zastore C dX12_goDown_6 rfl rfl hR hF h (fun S M1 h hR hF => ?_)
  refine vi_aload_n C dX12_goDown_7 rfl rfl ?_
  refine vi_iload_n C dX12_goDown_8 rfl rfl ?_
  refine r_cv0 C [.int (a1)] [] dX12_goDown_9 rfl ivX12_284 imX12_follow rfl hR hF h (fun _ e => p_X12_follow e hR) rfl (Nat.le_of_ble_eq_true rfl) ⟨by decide, by decide⟩ ⟨Nat.le_refl _, Nat.le_refl _⟩ (fun S M2 h hR hF => ?_)
  refine vi_aload_n C dX12_goDown_12 rfl rfl ?_
  refine r_geta C dX12_goDown_13 rfl fX12_97 rfl hR rfl ?_
  refine vi_iload_n C dX12_goDown_16 rfl rfl ?_
  refine vi_iconst (v := 0) C dX12_goDown_17 rfl (by decide) ?_
  refine r_iastore C dX12_goDown_18 rfl rfl hR hF h (fun S M3 h hR hF => ?_)
  refine vi_iconst (v := 0) C dX12_goDown_19 rfl (by decide) ?_
  refine vi_istore_n C dX12_goDown_20 rfl (by decide) ?_
  refine vi_cut [(0, .ref m), (1, .int (a1)), (2, .int ((0 : Int32)))] ⟨rfl, rfl, rfl, trivial⟩ (w_X12_goDown_21 C ?_ _ _ _ h _ hR hF)
  · intro M13 h S hR hF
    exact r_ret0 C dX12_goDown_69 rfl hR hF h

def L_X12_putBlock_59 {ρ : Type}  (l1 : Int32) (l2 : Int32) (l3 : Int32) (kx123 : vM → Option ρ) : Nat → vM → Int32 → Option ρ
  | 0, _, _ => none
  | f + 1, M, l4 => if (512 : Int32) ≤ l4 then (kx123 M ) else (if (l4 - l3) < 0 then (L_X12_putBlock_59 l1 l2 l3 kx123 f M ((l4 + (1)))) else (if (M.1 45) ≤ (l4 - l3) then ((mS M 36 (((((32768 : Int32) * l1) + ((512 : Int32) * l2)) + l4)) ((((0 : Int32)).toInt8.toInt32).toInt8.toInt32)).bind fun M9 => L_X12_putBlock_59 l1 l2 l3 kx123 f M9 ((l4 + (1)))) else ((mG M 38 ((l4 - l3))).bind fun v10 => (mS M 36 (((((32768 : Int32) * l1) + ((512 : Int32) * l2)) + l4)) (((v10).toInt8.toInt32).toInt8.toInt32)).bind fun M11 => L_X12_putBlock_59 l1 l2 l3 kx123 f M11 ((l4 + (1))))))

def F_X12_putBlock (M : vM) (a1 : Int32) (a2 : Int32) (a3 : Int32) : Option (vM × Int32) := (mG M 35 (a1)).bind fun v1 => if v1 = 0 then ((mS M 35 (a1) ((-1 : Int32))).bind fun M16 => (F_X12_goDown M16 (a1)).bind fun M17 => zb ((0 : Int32)) (some (M17, (0 : Int32)))) else ((mG M 35 (a1)).bind fun v2 => (mG M 35 (a1)).bind fun v3 => jn (fun (s3_44 : Int32) => (mS M 35 (a1) ((v2 - s3_44))).bind fun M6 => (mG M6 34 (a1)).bind fun v7 => (mS M6 34 (a1) ((v7 + (1 : Int32)))).bind fun M8 => L_X12_putBlock_59 (a1) (a2) (a3) (fun (M15 : vM)  => zb ((1 : Int32)) (some (M15, (1 : Int32)))) fu M8 ((0 : Int32))) (fun k44_4 => if v3 ≤ 0 then ((k44_4 ((0 : Int32)))) else ((k44_4 ((1 : Int32))))))

set_option maxRecDepth 100000 in
set_option maxHeartbeats 4000000 in
theorem w_X12_putBlock_59 {E : vE} {X : vX} {S0 : vS} {sz m b : Nat} {ρ : Type} {R : ρ} {Z : State → Prop} {l1 : Int32} {l2 : Int32} {l3 : Int32} {kx123 : vM → Option ρ} (C : vi_C E X yX12_putBlock cX12_putBlock 6 (some .boolean) 2 0 0 (45 * 2)) (hx123 : ∀ (M : vM) , kx123 M  = some R → ∀ S, RM S sz m b M → rF S0 S m b → vi_W E X 6 Z 123 [] [] S sz 0 0) : ∀ (f : Nat) (M : vM) (l4 : Int32), L_X12_putBlock_59 l1 l2 l3 kx123 f M l4 = some R → ∀ S, RM S sz m b M → rF S0 S m b → vi_W E X 6 Z 59 [(0, .ref m), (1, .int (l1)), (2, .int (l2)), (3, .int (l3)), (4, .int (l4))] [] S sz 0 0 := by
  intro f
  induction f with
  | zero => intro M l4 h; cases h
  | succ f ih =>
    intro M l4 h S hR hF
    rw [L_X12_putBlock_59] at h
    refine vi_iload C dX12_putBlock_59 rfl rfl ?_
    refine vi_sipush (v := 512) C dX12_putBlock_61 rfl (by decide) ?_
    refine vi_icmp_ge (t' := 123) C dX12_putBlock_64 rfl (by decide) (fun c14 => ?_) (fun c14 => ?_)
    · replace h := iT c14 h
      exact vi_cut [] trivial (hx123 _  h _ hR hF)
    · replace h := iN c14 h
      refine vi_iload C dX12_putBlock_67 rfl rfl ?_
      refine vi_iload_n C dX12_putBlock_69 rfl rfl ?_
      refine vi_isub C dX12_putBlock_70 rfl ?_
      refine vi_istore C dX12_putBlock_71 rfl (by decide) ?_
      refine vi_iload C dX12_putBlock_73 rfl rfl ?_
      refine vi_if_lt (t' := 117) C dX12_putBlock_75 rfl (by decide) (fun c13 => ?_) (fun c13 => ?_)
      · replace h := iT c13 h
        refine vi_iincv (v := 1) C dX12_putBlock_117 rfl rfl (by decide) (by decide) ?_
        refine vi_goto (t' := 59) C dX12_putBlock_120 (by decide) ?_
        exact vi_cut [(0, .ref m), (1, .int (l1)), (2, .int (l2)), (3, .int (l3)), (4, .int ((l4 + (1))))] ⟨rfl, rfl, rfl, rfl, rfl, trivial⟩ (ih _ _ h _ hR hF)
      · replace h := iN c13 h
        refine vi_aload_n C dX12_putBlock_78 rfl rfl ?_
        refine r_geta C dX12_putBlock_79 rfl fX12_126 rfl hR rfl ?_
        refine vi_ldc C dX12_putBlock_82 rfl kX12_241 ?_
        refine vi_iload_n C dX12_putBlock_84 rfl rfl ?_
        refine vi_imul C dX12_putBlock_85 rfl ?_
        refine vi_sipush (v := 512) C dX12_putBlock_86 rfl (by decide) ?_
        refine vi_iload_n C dX12_putBlock_89 rfl rfl ?_
        refine vi_imul C dX12_putBlock_90 rfl ?_
        refine vi_iadd C dX12_putBlock_91 rfl ?_
        refine vi_iload C dX12_putBlock_92 rfl rfl ?_
        refine vi_iadd C dX12_putBlock_94 rfl ?_
        refine vi_iload C dX12_putBlock_95 rfl rfl ?_
        refine vi_aload_n C dX12_putBlock_97 rfl rfl ?_
        refine r_geti C dX12_putBlock_98 rfl fX12_218 rfl hR ?_
        refine vi_icmp_ge (t' := 114) C dX12_putBlock_101 rfl (by decide) (fun c12 => ?_) (fun c12 => ?_)
        · replace h := iT c12 h
          refine vi_iconst (v := 0) C dX12_putBlock_114 rfl (by decide) ?_
          refine vi_i2b C dX12_putBlock_115 rfl ?_
          refine r_bastore C dX12_putBlock_116 rfl rfl hR hF h (fun S M9 h hR hF => ?_)
          refine vi_iincv (v := 1) C dX12_putBlock_117 rfl rfl (by decide) (by decide) ?_
          refine vi_goto (t' := 59) C dX12_putBlock_120 (by decide) ?_
          exact vi_cut [(0, .ref m), (1, .int (l1)), (2, .int (l2)), (3, .int (l3)), (4, .int ((l4 + (1))))] ⟨rfl, rfl, rfl, rfl, rfl, trivial⟩ (ih _ _ h _ hR hF)
        · replace h := iN c12 h
          refine vi_aload_n C dX12_putBlock_104 rfl rfl ?_
          refine r_geta C dX12_putBlock_105 rfl fX12_133 rfl hR rfl ?_
          refine vi_iload C dX12_putBlock_108 rfl rfl ?_
          refine r_iaload C dX12_putBlock_110 rfl rfl hR h (fun v10 h => ?_)
          refine vi_goto (t' := 115) C dX12_putBlock_111 (by decide) ?_
          refine vi_i2b C dX12_putBlock_115 rfl ?_
          refine r_bastore C dX12_putBlock_116 rfl rfl hR hF h (fun S M11 h hR hF => ?_)
          refine vi_iincv (v := 1) C dX12_putBlock_117 rfl rfl (by decide) (by decide) ?_
          refine vi_goto (t' := 59) C dX12_putBlock_120 (by decide) ?_
          exact vi_cut [(0, .ref m), (1, .int (l1)), (2, .int (l2)), (3, .int (l3)), (4, .int ((l4 + (1))))] ⟨rfl, rfl, rfl, rfl, rfl, trivial⟩ (ih _ _ h _ hR hF)

set_option maxRecDepth 100000 in
set_option maxHeartbeats 4000000 in
theorem p_X12_putBlock {M : vM} {R : (vM × Int32)} {a1 : Int32} {a2 : Int32} {a3 : Int32} (h : F_X12_putBlock M a1 a2 a3 = some R) {E : vE} {S0 : vS} {sz m b : Nat} (hR : RM S0 sz m b M) : vi_Met E yX12_putBlock cX12_putBlock 6 (some .boolean) 2 0 0 [.ref m, .int (a1), .int (a2), .int (a3)] S0 sz (Q1 S0 sz m b R) := by
  refine vi_met (by decide) (Nat.le_of_ble_eq_true rfl) ?_
  intro X C
  have hF := rF.refl S0 m b
  unfold F_X12_putBlock at h
  refine vi_aload_n C dX12_putBlock_0 rfl rfl ?_
  refine r_geta C dX12_putBlock_1 rfl fX12_122 rfl hR rfl ?_
  refine vi_iload_n C dX12_putBlock_4 rfl rfl ?_
  refine r_iaload C dX12_putBlock_5 rfl rfl hR h (fun v1 h => ?_)
  refine vi_if_ne (t' := 23) C dX12_putBlock_6 rfl (by decide) (fun c18 => ?_) (fun c18 => ?_)
  · replace h := iN c18 h
    refine vi_aload_n C dX12_putBlock_23 rfl rfl ?_
    refine r_geta C dX12_putBlock_24 rfl fX12_122 rfl hR rfl ?_
    refine vi_iload_n C dX12_putBlock_27 rfl rfl ?_
    refine vi_dup2 C dX12_putBlock_28 rfl rfl rfl ?_
    refine r_iaload C dX12_putBlock_29 rfl rfl hR h (fun v2 h => ?_)
    refine vi_aload_n C dX12_putBlock_30 rfl rfl ?_
    refine r_geta C dX12_putBlock_31 rfl fX12_122 rfl hR rfl ?_
    refine vi_iload_n C dX12_putBlock_34 rfl rfl ?_
    refine r_iaload C dX12_putBlock_35 rfl rfl hR h (fun v3 h => ?_)
    refine r_jn h (fun k => ∀ (s3_44 : Int32), k s3_44 = some R → ∀ S, RM S sz m b M → rF S0 S m b → vi_W E X 6 (vi_Z E X (Q1 S0 sz m b R) 0 0) 44 [(0, .ref m), (1, .int (a1)), (2, .int (a2)), (3, .int (a3))] [.int (s3_44), .int (v2), .int (a1), .ref (b + 35)] S sz 0 0) ?_ ?_
    · intro s3_44 h S hR hF
      refine vi_isub C dX12_putBlock_44 rfl ?_
      refine r_iastore C dX12_putBlock_45 rfl rfl hR hF h (fun S M6 h hR hF => ?_)
      refine vi_aload_n C dX12_putBlock_46 rfl rfl ?_
      refine r_geta C dX12_putBlock_47 rfl fX12_119 rfl hR rfl ?_
      refine vi_iload_n C dX12_putBlock_50 rfl rfl ?_
      refine vi_dup2 C dX12_putBlock_51 rfl rfl rfl ?_
      refine r_iaload C dX12_putBlock_52 rfl rfl hR h (fun v7 h => ?_)
      refine vi_iconst (v := 1) C dX12_putBlock_53 rfl (by decide) ?_
      refine vi_iadd C dX12_putBlock_54 rfl ?_
      refine r_iastore C dX12_putBlock_55 rfl rfl hR hF h (fun S M8 h hR hF => ?_)
      refine vi_iconst (v := 0) C dX12_putBlock_56 rfl (by decide) ?_
      refine vi_istore C dX12_putBlock_57 rfl (by decide) ?_
      refine vi_cut [(0, .ref m), (1, .int (a1)), (2, .int (a2)), (3, .int (a3)), (4, .int ((0 : Int32)))] ⟨rfl, rfl, rfl, rfl, rfl, trivial⟩ (w_X12_putBlock_59 C ?_ _ _ _ h _ hR hF)
      · intro M15 h S hR hF
        refine vi_iconst (v := 1) C dX12_putBlock_123 rfl (by decide) ?_
        exact r_retz C dX12_putBlock_124 rfl hR hF h
    · intro k44_4 h44_4 h
      refine vi_if_le (t' := 43) C dX12_putBlock_36 rfl (by decide) (fun c5 => ?_) (fun c5 => ?_)
      · replace h := iT c5 h
        refine vi_iconst (v := 0) C dX12_putBlock_43 rfl (by decide) ?_
        exact vi_cut [(0, .ref m), (1, .int (a1)), (2, .int (a2)), (3, .int (a3))] ⟨rfl, rfl, rfl, rfl, trivial⟩ (h44_4 _ h _ hR hF)
      · replace h := iN c5 h
        refine vi_iconst (v := 1) C dX12_putBlock_39 rfl (by decide) ?_
        refine vi_goto (t' := 44) C dX12_putBlock_40 (by decide) ?_
        exact vi_cut [(0, .ref m), (1, .int (a1)), (2, .int (a2)), (3, .int (a3))] ⟨rfl, rfl, rfl, rfl, trivial⟩ (h44_4 _ h _ hR hF)
  · replace h := iT c18 h
    refine vi_aload_n C dX12_putBlock_9 rfl rfl ?_
    refine r_geta C dX12_putBlock_10 rfl fX12_122 rfl hR rfl ?_
    refine vi_iload_n C dX12_putBlock_13 rfl rfl ?_
    refine vi_iconst (v := -1) C dX12_putBlock_14 rfl (by decide) ?_
    refine r_iastore C dX12_putBlock_15 rfl rfl hR hF h (fun S M16 h hR hF => ?_)
    refine vi_aload_n C dX12_putBlock_16 rfl rfl ?_
    refine vi_iload_n C dX12_putBlock_17 rfl rfl ?_
    refine r_cv0 C [.int (a1)] [] dX12_putBlock_18 rfl ivX12_238 imX12_goDown rfl hR hF h (fun _ e => p_X12_goDown e hR) rfl (Nat.le_of_ble_eq_true rfl) ⟨by decide, by decide⟩ ⟨Nat.le_refl _, Nat.le_refl _⟩ (fun S M17 h hR hF => ?_)
    refine vi_iconst (v := 0) C dX12_putBlock_21 rfl (by decide) ?_
    exact r_retz C dX12_putBlock_22 rfl hR hF h

def F_X12_firstBlock (M : vM) (a1 : Int32) : Option (vM × Int32) := if a1 = 0 then (some (M, (2 : Int32))) else (some (M, (33 : Int32)))

set_option maxRecDepth 100000 in
set_option maxHeartbeats 4000000 in
theorem p_X12_firstBlock {M : vM} {R : (vM × Int32)} {a1 : Int32} (h : F_X12_firstBlock M a1 = some R) {E : vE} {S0 : vS} {sz m b : Nat} (hR : RM S0 sz m b M) : vi_Met E yX12_firstBlock cX12_firstBlock 1 (some .int) 0 0 0 [.int (a1)] S0 sz (Q1 S0 sz m b R) := by
  refine vi_met (by decide) (Nat.le_of_ble_eq_true rfl) ?_
  intro X C
  have hF := rF.refl S0 m b
  unfold F_X12_firstBlock at h
  refine vi_iload_n C dX12_firstBlock_0 rfl rfl ?_
  refine vi_if_ne (t' := 8) C dX12_firstBlock_1 rfl (by decide) (fun c1 => ?_) (fun c1 => ?_)
  · replace h := iN c1 h
    refine vi_bipush (v := 33) C dX12_firstBlock_8 rfl (by decide) ?_
    exact r_ret1 C dX12_firstBlock_10 rfl hR hF h
  · replace h := iT c1 h
    refine vi_iconst (v := 2) C dX12_firstBlock_4 rfl (by decide) ?_
    refine vi_goto (t' := 10) C dX12_firstBlock_5 (by decide) ?_
    exact r_ret1 C dX12_firstBlock_10 rfl hR hF h

def F_X12_addNote (M : vM) (a1 : Int32) (a2 : Int32) (a3 : Int32) (a4 : Int32) (a5 : Int32) : Option vM := (mG M 30 (a1)).bind fun v1 => (mS M 28 (((4 : Int32) * (((64 : Int32) * a1) + v1))) (a2)).bind fun M2 => (mS M2 28 ((((4 : Int32) * (((64 : Int32) * a1) + v1)) + (1 : Int32))) (a3)).bind fun M3 => (mS M3 28 ((((4 : Int32) * (((64 : Int32) * a1) + v1)) + (2 : Int32))) (a4)).bind fun M4 => (mS M4 28 ((((4 : Int32) * (((64 : Int32) * a1) + v1)) + (3 : Int32))) (a5)).bind fun M5 => (mG M5 30 (a1)).bind fun v6 => (mS M5 30 (a1) ((v6 + (1 : Int32)))).bind fun M7 => some M7

set_option maxRecDepth 100000 in
set_option maxHeartbeats 4000000 in
theorem p_X12_addNote {M : vM} {R : vM} {a1 : Int32} {a2 : Int32} {a3 : Int32} {a4 : Int32} {a5 : Int32} (h : F_X12_addNote M a1 a2 a3 a4 a5 = some R) {E : vE} {S0 : vS} {sz m b : Nat} (hR : RM S0 sz m b M) : vi_Met E yX12_addNote cX12_addNote 7 none 0 0 0 [.ref m, .int (a1), .int (a2), .int (a3), .int (a4), .int (a5)] S0 sz (Q0 S0 sz m b R) := by
  refine vi_met (by decide) (Nat.le_of_ble_eq_true rfl) ?_
  intro X C
  have hF := rF.refl S0 m b
  unfold F_X12_addNote at h
  refine vi_bipush (v := 64) C dX12_addNote_0 rfl (by decide) ?_
  refine vi_iload_n C dX12_addNote_2 rfl rfl ?_
  refine vi_imul C dX12_addNote_3 rfl ?_
  refine vi_aload_n C dX12_addNote_4 rfl rfl ?_
  refine r_geta C dX12_addNote_5 rfl fX12_107 rfl hR rfl ?_
  refine vi_iload_n C dX12_addNote_8 rfl rfl ?_
  refine r_iaload C dX12_addNote_9 rfl rfl hR h (fun v1 h => ?_)
  refine vi_iadd C dX12_addNote_10 rfl ?_
  refine vi_istore C dX12_addNote_11 rfl (by decide) ?_
  refine vi_aload_n C dX12_addNote_13 rfl rfl ?_
  refine r_geta C dX12_addNote_14 rfl fX12_100 rfl hR rfl ?_
  refine vi_iconst (v := 4) C dX12_addNote_17 rfl (by decide) ?_
  refine vi_iload C dX12_addNote_18 rfl rfl ?_
  refine vi_imul C dX12_addNote_20 rfl ?_
  refine vi_iload_n C dX12_addNote_21 rfl rfl ?_
  refine r_iastore C dX12_addNote_22 rfl rfl hR hF h (fun S M2 h hR hF => ?_)
  refine vi_aload_n C dX12_addNote_23 rfl rfl ?_
  refine r_geta C dX12_addNote_24 rfl fX12_100 rfl hR rfl ?_
  refine vi_iconst (v := 4) C dX12_addNote_27 rfl (by decide) ?_
  refine vi_iload C dX12_addNote_28 rfl rfl ?_
  refine vi_imul C dX12_addNote_30 rfl ?_
  refine vi_iconst (v := 1) C dX12_addNote_31 rfl (by decide) ?_
  refine vi_iadd C dX12_addNote_32 rfl ?_
  refine vi_iload_n C dX12_addNote_33 rfl rfl ?_
  refine r_iastore C dX12_addNote_34 rfl rfl hR hF h (fun S M3 h hR hF => ?_)
  refine vi_aload_n C dX12_addNote_35 rfl rfl ?_
  refine r_geta C dX12_addNote_36 rfl fX12_100 rfl hR rfl ?_
  refine vi_iconst (v := 4) C dX12_addNote_39 rfl (by decide) ?_
  refine vi_iload C dX12_addNote_40 rfl rfl ?_
  refine vi_imul C dX12_addNote_42 rfl ?_
  refine vi_iconst (v := 2) C dX12_addNote_43 rfl (by decide) ?_
  refine vi_iadd C dX12_addNote_44 rfl ?_
  refine vi_iload C dX12_addNote_45 rfl rfl ?_
  refine r_iastore C dX12_addNote_47 rfl rfl hR hF h (fun S M4 h hR hF => ?_)
  refine vi_aload_n C dX12_addNote_48 rfl rfl ?_
  refine r_geta C dX12_addNote_49 rfl fX12_100 rfl hR rfl ?_
  refine vi_iconst (v := 4) C dX12_addNote_52 rfl (by decide) ?_
  refine vi_iload C dX12_addNote_53 rfl rfl ?_
  refine vi_imul C dX12_addNote_55 rfl ?_
  refine vi_iconst (v := 3) C dX12_addNote_56 rfl (by decide) ?_
  refine vi_iadd C dX12_addNote_57 rfl ?_
  refine vi_iload C dX12_addNote_58 rfl rfl ?_
  refine r_iastore C dX12_addNote_60 rfl rfl hR hF h (fun S M5 h hR hF => ?_)
  refine vi_aload_n C dX12_addNote_61 rfl rfl ?_
  refine r_geta C dX12_addNote_62 rfl fX12_107 rfl hR rfl ?_
  refine vi_iload_n C dX12_addNote_65 rfl rfl ?_
  refine vi_dup2 C dX12_addNote_66 rfl rfl rfl ?_
  refine r_iaload C dX12_addNote_67 rfl rfl hR h (fun v6 h => ?_)
  refine vi_iconst (v := 1) C dX12_addNote_68 rfl (by decide) ?_
  refine vi_iadd C dX12_addNote_69 rfl ?_
  refine r_iastore C dX12_addNote_70 rfl rfl hR hF h (fun S M7 h hR hF => ?_)
  exact r_ret0 C dX12_addNote_71 rfl hR hF h

def L_X12_note_44 {ρ : Type}  (l1 : Int32) (l2 : Int32) (l3 : Int32) (l4 : Int32) (l5 : Int32) (l6 : Int32) (l7 : Int32) (l8 : Int32) (kx80 : vM → Option ρ) (kx88 : vM → Option ρ) : Nat → vM → Int32 → Option ρ
  | 0, _, _ => none
  | f + 1, M, l10 => if l10 < l8 then (kx88 M ) else ((mG M 33 (l1)).bind fun v3 => b2 (F_X12_firstBlock M (v3)) fun M4 v5 => b2 (F_X12_putBlock M4 (l1) ((v5 + l10)) ((l6 - ((512 : Int32) * l10)))) fun M6 v7 => if v7 = 0 then (kx80 M6 ) else (L_X12_note_44 l1 l2 l3 l4 l5 l6 l7 l8 kx80 kx88 f M6 ((l10 + (-1)))))

def F_X12_note (M : vM) (a1 : Int32) (a2 : Int32) (a3 : Int32) (a4 : Int32) (a5 : Int32) : Option (vM × Int32) := (F_X12_asRecord M ((0 : Int32))).bind fun M1 => (mG M1 31 (a1)).bind fun v2 => L_X12_note_44 (a1) (a2) (a3) (a4) (a5) (v2) ((M1.1 45)) ((v2 / (512 : Int32))) (fun (M10 : vM)  => zb ((0 : Int32)) (some (M10, (0 : Int32)))) (fun (M11 : vM)  => (mG M11 31 (a1)).bind fun v12 => (mS M11 31 (a1) ((v12 + (M1.1 45)))).bind fun M13 => (F_X12_addNote M13 (a1) (a2) (a3) (a4) (a5)).bind fun M14 => zb ((1 : Int32)) (some (M14, (1 : Int32)))) fu M1 ((((v2 + (M1.1 45)) + (1 : Int32)) / (512 : Int32)))

set_option maxRecDepth 100000 in
set_option maxHeartbeats 4000000 in
theorem w_X12_note_44 {E : vE} {X : vX} {S0 : vS} {sz m b : Nat} {ρ : Type} {R : ρ} {Z : State → Prop} {l1 : Int32} {l2 : Int32} {l3 : Int32} {l4 : Int32} {l5 : Int32} {l6 : Int32} {l7 : Int32} {l8 : Int32} {kx80 : vM → Option ρ} {kx88 : vM → Option ρ} (C : vi_C E X yX12_note cX12_note 11 (some .boolean) 3 0 0 (45 * 3)) (hx80 : ∀ (M : vM) , kx80 M  = some R → ∀ S, RM S sz m b M → rF S0 S m b → vi_W E X 11 Z 80 [] [] S sz 0 0) (hx88 : ∀ (M : vM) , kx88 M  = some R → ∀ S, RM S sz m b M → rF S0 S m b → vi_W E X 11 Z 88 [(0, .ref m), (1, .int (l1)), (2, .int (l2)), (3, .int (l3)), (4, .int (l4)), (5, .int (l5)), (7, .int (l7))] [] S sz 0 0) : ∀ (f : Nat) (M : vM) (l10 : Int32), L_X12_note_44 l1 l2 l3 l4 l5 l6 l7 l8 kx80 kx88 f M l10 = some R → ∀ S, RM S sz m b M → rF S0 S m b → vi_W E X 11 Z 44 [(0, .ref m), (1, .int (l1)), (2, .int (l2)), (3, .int (l3)), (4, .int (l4)), (5, .int (l5)), (6, .int (l6)), (7, .int (l7)), (8, .int (l8)), (10, .int (l10))] [] S sz 0 0 := by
  intro f
  induction f with
  | zero => intro M l10 h; cases h
  | succ f ih =>
    intro M l10 h S hR hF
    rw [L_X12_note_44] at h
    refine vi_iload C dX12_note_44 rfl rfl ?_
    refine vi_iload C dX12_note_46 rfl rfl ?_
    refine vi_icmp_lt (t' := 88) C dX12_note_48 rfl (by decide) (fun c9 => ?_) (fun c9 => ?_)
    · replace h := iT c9 h
      exact vi_cut [(0, .ref m), (1, .int (l1)), (2, .int (l2)), (3, .int (l3)), (4, .int (l4)), (5, .int (l5)), (7, .int (l7))] ⟨rfl, rfl, rfl, rfl, rfl, rfl, rfl, trivial⟩ (hx88 _  h _ hR hF)
    · replace h := iN c9 h
      refine vi_aload_n C dX12_note_51 rfl rfl ?_
      refine vi_iload_n C dX12_note_52 rfl rfl ?_
      refine vi_aload_n C dX12_note_53 rfl rfl ?_
      refine r_geta C dX12_note_54 rfl fX12_116 rfl hR rfl ?_
      refine vi_iload_n C dX12_note_57 rfl rfl ?_
      refine r_iaload C dX12_note_58 rfl rfl hR h (fun v3 h => ?_)
      refine r_cs1 C [.int (v3)] [.int (l1), .ref m] dX12_note_59 rfl ivX12_245 isX12_firstBlock hR hF h (fun _ e => p_X12_firstBlock e hR) rfl (Nat.le_of_ble_eq_true rfl) ⟨by decide, by decide⟩ ⟨Nat.le_refl _, Nat.le_refl _⟩ (fun S M4 v5 h hR hF => ?_)
      refine vi_iload C dX12_note_62 rfl rfl ?_
      refine vi_iadd C dX12_note_64 rfl ?_
      refine vi_iload C dX12_note_65 rfl rfl ?_
      refine vi_sipush (v := 512) C dX12_note_67 rfl (by decide) ?_
      refine vi_iload C dX12_note_70 rfl rfl ?_
      refine vi_imul C dX12_note_72 rfl ?_
      refine vi_isub C dX12_note_73 rfl ?_
      refine r_cv1 C [.int (l1), .int ((v5 + l10)), .int ((l6 - ((512 : Int32) * l10)))] [] dX12_note_74 rfl ivX12_200 imX12_putBlock rfl hR hF h (fun _ e => p_X12_putBlock e hR) rfl (Nat.le_of_ble_eq_true rfl) ⟨by decide, by decide⟩ ⟨Nat.le_refl _, Nat.le_refl _⟩ (fun S M6 v7 h hR hF => ?_)
      refine vi_if_ne (t' := 82) C dX12_note_77 rfl (by decide) (fun c8 => ?_) (fun c8 => ?_)
      · replace h := iN c8 h
        refine vi_iincv (v := -1) C dX12_note_82 rfl rfl (by decide) (by decide) ?_
        refine vi_goto (t' := 44) C dX12_note_85 (by decide) ?_
        exact vi_cut [(0, .ref m), (1, .int (l1)), (2, .int (l2)), (3, .int (l3)), (4, .int (l4)), (5, .int (l5)), (6, .int (l6)), (7, .int (l7)), (8, .int (l8)), (10, .int ((l10 + (-1))))] ⟨rfl, rfl, rfl, rfl, rfl, rfl, rfl, rfl, rfl, rfl, trivial⟩ (ih _ _ h _ hR hF)
      · replace h := iT c8 h
        exact vi_cut [] trivial (hx80 _  h _ hR hF)

set_option maxRecDepth 100000 in
set_option maxHeartbeats 4000000 in
theorem p_X12_note {M : vM} {R : (vM × Int32)} {a1 : Int32} {a2 : Int32} {a3 : Int32} {a4 : Int32} {a5 : Int32} (h : F_X12_note M a1 a2 a3 a4 a5 = some R) {E : vE} {S0 : vS} {sz m b : Nat} (hR : RM S0 sz m b M) : vi_Met E yX12_note cX12_note 11 (some .boolean) 3 0 0 [.ref m, .int (a1), .int (a2), .int (a3), .int (a4), .int (a5)] S0 sz (Q1 S0 sz m b R) := by
  refine vi_met (by decide) (Nat.le_of_ble_eq_true rfl) ?_
  intro X C
  have hF := rF.refl S0 m b
  unfold F_X12_note at h
  refine vi_aload_n C dX12_note_0 rfl rfl ?_
  refine vi_iconst (v := 0) C dX12_note_1 rfl (by decide) ?_
  refine r_cv0 C [.int ((0 : Int32))] [] dX12_note_2 rfl ivX12_242 imX12_asRecord rfl hR hF h (fun _ e => p_X12_asRecord e hR) rfl (Nat.le_of_ble_eq_true rfl) ⟨by decide, by decide⟩ ⟨Nat.le_refl _, Nat.le_refl _⟩ (fun S M1 h hR hF => ?_)
  refine vi_aload_n C dX12_note_5 rfl rfl ?_
  refine r_geta C dX12_note_6 rfl fX12_110 rfl hR rfl ?_
  refine vi_iload_n C dX12_note_9 rfl rfl ?_
  refine r_iaload C dX12_note_10 rfl rfl hR h (fun v2 h => ?_)
  refine vi_istore C dX12_note_11 rfl (by decide) ?_
  refine vi_aload_n C dX12_note_13 rfl rfl ?_
  refine r_geti C dX12_note_14 rfl fX12_218 rfl hR ?_
  refine vi_istore C dX12_note_17 rfl (by decide) ?_
  refine vi_iload C dX12_note_19 rfl rfl ?_
  refine vi_sipush (v := 512) C dX12_note_21 rfl (by decide) ?_
  refine vi_idiv C dX12_note_24 rfl (by decide) ?_
  refine vi_istore C dX12_note_25 rfl (by decide) ?_
  refine vi_iload C dX12_note_27 rfl rfl ?_
  refine vi_iload C dX12_note_29 rfl rfl ?_
  refine vi_iadd C dX12_note_31 rfl ?_
  refine vi_iconst (v := 1) C dX12_note_32 rfl (by decide) ?_
  refine vi_iadd C dX12_note_33 rfl ?_
  refine vi_sipush (v := 512) C dX12_note_34 rfl (by decide) ?_
  refine vi_idiv C dX12_note_37 rfl (by decide) ?_
  refine vi_istore C dX12_note_38 rfl (by decide) ?_
  refine vi_iload C dX12_note_40 rfl rfl ?_
  refine vi_istore C dX12_note_42 rfl (by decide) ?_
  refine vi_cut [(0, .ref m), (1, .int (a1)), (2, .int (a2)), (3, .int (a3)), (4, .int (a4)), (5, .int (a5)), (6, .int (v2)), (7, .int ((M1.1 45))), (8, .int ((v2 / (512 : Int32)))), (10, .int ((((v2 + (M1.1 45)) + (1 : Int32)) / (512 : Int32))))] ⟨rfl, rfl, rfl, rfl, rfl, rfl, rfl, rfl, rfl, rfl, trivial⟩ (w_X12_note_44 C ?_ ?_ _ _ _ h _ hR hF)
  · intro M10 h S hR hF
    refine vi_iconst (v := 0) C dX12_note_80 rfl (by decide) ?_
    exact r_retz C dX12_note_81 rfl hR hF h
  · intro M11 h S hR hF
    refine vi_aload_n C dX12_note_88 rfl rfl ?_
    refine r_geta C dX12_note_89 rfl fX12_110 rfl hR rfl ?_
    refine vi_iload_n C dX12_note_92 rfl rfl ?_
    refine vi_dup2 C dX12_note_93 rfl rfl rfl ?_
    refine r_iaload C dX12_note_94 rfl rfl hR h (fun v12 h => ?_)
    refine vi_iload C dX12_note_95 rfl rfl ?_
    refine vi_iadd C dX12_note_97 rfl ?_
    refine r_iastore C dX12_note_98 rfl rfl hR hF h (fun S M13 h hR hF => ?_)
    refine vi_aload_n C dX12_note_99 rfl rfl ?_
    refine vi_iload_n C dX12_note_100 rfl rfl ?_
    refine vi_iload_n C dX12_note_101 rfl rfl ?_
    refine vi_iload_n C dX12_note_102 rfl rfl ?_
    refine vi_iload C dX12_note_103 rfl rfl ?_
    refine vi_iload C dX12_note_105 rfl rfl ?_
    refine r_cv0 C [.int (a1), .int (a2), .int (a3), .int (a4), .int (a5)] [] dX12_note_107 rfl ivX12_249 imX12_addNote rfl hR hF h (fun _ e => p_X12_addNote e hR) rfl (Nat.le_of_ble_eq_true rfl) ⟨by decide, by decide⟩ ⟨Nat.le_refl _, Nat.le_refl _⟩ (fun S M14 h hR hF => ?_)
    refine vi_iconst (v := 1) C dX12_note_110 rfl (by decide) ?_
    exact r_retz C dX12_note_111 rfl hR hF h
