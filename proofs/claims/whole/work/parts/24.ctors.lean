set_option maxRecDepth 100000 in
set_option maxHeartbeats 4000000 in
/-- new Frame -/
theorem m_X1_init {E : vE} {S : vS} {sz : Nat} {h : Nat} (hk : vK S h = 2) : vi_Met E yX1_init cX1_init 1 none 1 0 0 [.ref (h)] S sz (fun r S1 z1 => r = none ∧ z1 = sz ∧ S1 = (sI (sI S 108 (h) ((-1 : Int32))) 109 (h) ((-1 : Int32)))) := by
  refine vi_met (by decide) (Nat.le_of_ble_eq_true rfl) ?_
  intro X C
  refine vi_aload_n C dX1_init_0 rfl rfl ?_
  refine vi_objInit C dX1_init_1 rfl oiX1_3 oi_i oi_c (by decide) (Nat.le_of_ble_eq_true rfl) ?_
  refine vi_aload_n C dX1_init_4 rfl rfl ?_
  refine vi_iconst (v := -1) C dX1_init_5 rfl (by decide) ?_
  refine vi_puti (i := 108) C dX1_init_6 rfl (fpX1_9 _) (by first | assumption | (simp (disch := omega) only [qK_sI, qK_sP, qK_sR, qK_sJ, qK_sQ, qK_nO_s, qK_nO_a, qK_nA_s, qK_nA_a, qN_sI, qN_sP, qN_sR, qN_sJ, qN_sQ, qN_nO, qN_nA_s, qN_nA_a, qI_sI_s, qI_sI_i, qI_sI_a, qI_sP, qI_sR, qI_sJ, qI_sQ, qI_nO_s, qI_nO_a, qI_nA, qP_sI, qP_sP_s, qP_sP_i, qP_sP_a, qP_sR, qP_sJ, qP_sQ, qP_nO_s, qP_nO_a, qP_nA, qR_sI, qR_sP, qR_sR_s, qR_sR_i, qR_sR_a, qR_sJ, qR_sQ, qR_nO, qR_nA_s, qR_nA_a, qJ_sI, qJ_sP, qJ_sR, qJ_sJ_s, qJ_sJ_i, qJ_sJ_a, qJ_sQ, qJ_nO, qJ_nA_s, qJ_nA_a, qQ_sI, qQ_sP, qQ_sR, qQ_sJ, qQ_sQ_s, qQ_sQ_i, qQ_sQ_a, qQ_nO, qQ_nA_s, qQ_nA_a] <;> first | assumption | rfl | omega)) rfl rfl (by decide) rfl rfl ?_
  refine vi_aload_n C dX1_init_9 rfl rfl ?_
  refine vi_iconst (v := -1) C dX1_init_10 rfl (by decide) ?_
  refine vi_puti (i := 109) C dX1_init_11 rfl (fpX1_15 _) (by first | assumption | (simp (disch := omega) only [qK_sI, qK_sP, qK_sR, qK_sJ, qK_sQ, qK_nO_s, qK_nO_a, qK_nA_s, qK_nA_a, qN_sI, qN_sP, qN_sR, qN_sJ, qN_sQ, qN_nO, qN_nA_s, qN_nA_a, qI_sI_s, qI_sI_i, qI_sI_a, qI_sP, qI_sR, qI_sJ, qI_sQ, qI_nO_s, qI_nO_a, qI_nA, qP_sI, qP_sP_s, qP_sP_i, qP_sP_a, qP_sR, qP_sJ, qP_sQ, qP_nO_s, qP_nO_a, qP_nA, qR_sI, qR_sP, qR_sR_s, qR_sR_i, qR_sR_a, qR_sJ, qR_sQ, qR_nO, qR_nA_s, qR_nA_a, qJ_sI, qJ_sP, qJ_sR, qJ_sJ_s, qJ_sJ_i, qJ_sJ_a, qJ_sQ, qJ_nO, qJ_nA_s, qJ_nA_a, qQ_sI, qQ_sP, qQ_sR, qQ_sJ, qQ_sQ_s, qQ_sQ_i, qQ_sQ_a, qQ_nO, qQ_nA_s, qQ_nA_a] <;> first | assumption | rfl | omega)) rfl rfl (by decide) rfl rfl ?_
  exact vi_return C dX1_init_14 rfl (by decide) (by decide) (⟨rfl, rfl, rfl⟩)

set_option maxRecDepth 100000 in
set_option maxHeartbeats 4000000 in
/-- new Office -/
theorem m_X4_init {E : vE} {S : vS} {sz : Nat} {h : Nat} (hk : vK S h = 5) : vi_Met E yX4_init cX4_init 1 none 1 0 0 [.ref (h)] S sz (fun r S1 z1 => r = none ∧ z1 = sz ∧ S1 = (sI S 400 (h) ((0 : Int32)))) := by
  refine vi_met (by decide) (Nat.le_of_ble_eq_true rfl) ?_
  intro X C
  refine vi_aload_n C dX4_init_0 rfl rfl ?_
  refine vi_objInit C dX4_init_1 rfl oiX4_3 oi_i oi_c (by decide) (Nat.le_of_ble_eq_true rfl) ?_
  refine vi_aload_n C dX4_init_4 rfl rfl ?_
  refine vi_iconst (v := 0) C dX4_init_5 rfl (by decide) ?_
  refine vi_puti (i := 400) C dX4_init_6 rfl (fpX4_9 _) (by first | assumption | (simp (disch := omega) only [qK_sI, qK_sP, qK_sR, qK_sJ, qK_sQ, qK_nO_s, qK_nO_a, qK_nA_s, qK_nA_a, qN_sI, qN_sP, qN_sR, qN_sJ, qN_sQ, qN_nO, qN_nA_s, qN_nA_a, qI_sI_s, qI_sI_i, qI_sI_a, qI_sP, qI_sR, qI_sJ, qI_sQ, qI_nO_s, qI_nO_a, qI_nA, qP_sI, qP_sP_s, qP_sP_i, qP_sP_a, qP_sR, qP_sJ, qP_sQ, qP_nO_s, qP_nO_a, qP_nA, qR_sI, qR_sP, qR_sR_s, qR_sR_i, qR_sR_a, qR_sJ, qR_sQ, qR_nO, qR_nA_s, qR_nA_a, qJ_sI, qJ_sP, qJ_sR, qJ_sJ_s, qJ_sJ_i, qJ_sJ_a, qJ_sQ, qJ_nO, qJ_nA_s, qJ_nA_a, qQ_sI, qQ_sP, qQ_sR, qQ_sJ, qQ_sQ_s, qQ_sQ_i, qQ_sQ_a, qQ_nO, qQ_nA_s, qQ_nA_a] <;> first | assumption | rfl | omega)) rfl rfl (by decide) rfl rfl ?_
  exact vi_return C dX4_init_9 rfl (by decide) (by decide) (⟨rfl, rfl, rfl⟩)

set_option maxRecDepth 100000 in
set_option maxHeartbeats 4000000 in
/-- new Pieces -/
theorem m_X5_init {E : vE} {S : vS} {sz : Nat} {h : Nat} (hk : vK S h = 6) (hh : h < sz) : vi_Met E yX5_init cX5_init 1 none 1 1 256 [.ref (h)] S sz (fun r S1 z1 => r = none ∧ z1 = (sz + 1) ∧ S1 = (sI (sP (nA S sz 20 256) 500 (h) (some (sz))) 501 (h) ((-1 : Int32)))) := by
  refine vi_met (by decide) (Nat.le_of_ble_eq_true rfl) ?_
  intro X C
  refine vi_aload_n C dX5_init_0 rfl rfl ?_
  refine vi_objInit C dX5_init_1 rfl oiX5_3 oi_i oi_c (by decide) (Nat.le_of_ble_eq_true rfl) ?_
  refine vi_aload_n C dX5_init_4 rfl rfl ?_
  refine vi_sipush (v := 256) C dX5_init_5 rfl (by decide) ?_
  refine vi_newarray (κ := 20) (N := 256) C dX5_init_8 rfl ac_byte rfl (by decide) (by decide) (by decide) rfl (by decide) (by decide) (by decide) ?_
  refine vi_putp (i := 500) (o := some (sz)) C dX5_init_10 rfl fpX5_9 (by first | assumption | (simp (disch := omega) only [qK_sI, qK_sP, qK_sR, qK_sJ, qK_sQ, qK_nO_s, qK_nO_a, qK_nA_s, qK_nA_a, qN_sI, qN_sP, qN_sR, qN_sJ, qN_sQ, qN_nO, qN_nA_s, qN_nA_a, qI_sI_s, qI_sI_i, qI_sI_a, qI_sP, qI_sR, qI_sJ, qI_sQ, qI_nO_s, qI_nO_a, qI_nA, qP_sI, qP_sP_s, qP_sP_i, qP_sP_a, qP_sR, qP_sJ, qP_sQ, qP_nO_s, qP_nO_a, qP_nA, qR_sI, qR_sP, qR_sR_s, qR_sR_i, qR_sR_a, qR_sJ, qR_sQ, qR_nO, qR_nA_s, qR_nA_a, qJ_sI, qJ_sP, qJ_sR, qJ_sJ_s, qJ_sJ_i, qJ_sJ_a, qJ_sQ, qJ_nO, qJ_nA_s, qJ_nA_a, qQ_sI, qQ_sP, qQ_sR, qQ_sJ, qQ_sQ_s, qQ_sQ_i, qQ_sQ_a, qQ_nO, qQ_nA_s, qQ_nA_a] <;> first | assumption | rfl | omega)) rfl rfl (by decide) ?_
  refine vi_aload_n C dX5_init_13 rfl rfl ?_
  refine vi_iconst (v := -1) C dX5_init_14 rfl (by decide) ?_
  refine vi_puti (i := 501) C dX5_init_15 rfl (fpX5_15 _) (by first | assumption | (simp (disch := omega) only [qK_sI, qK_sP, qK_sR, qK_sJ, qK_sQ, qK_nO_s, qK_nO_a, qK_nA_s, qK_nA_a, qN_sI, qN_sP, qN_sR, qN_sJ, qN_sQ, qN_nO, qN_nA_s, qN_nA_a, qI_sI_s, qI_sI_i, qI_sI_a, qI_sP, qI_sR, qI_sJ, qI_sQ, qI_nO_s, qI_nO_a, qI_nA, qP_sI, qP_sP_s, qP_sP_i, qP_sP_a, qP_sR, qP_sJ, qP_sQ, qP_nO_s, qP_nO_a, qP_nA, qR_sI, qR_sP, qR_sR_s, qR_sR_i, qR_sR_a, qR_sJ, qR_sQ, qR_nO, qR_nA_s, qR_nA_a, qJ_sI, qJ_sP, qJ_sR, qJ_sJ_s, qJ_sJ_i, qJ_sJ_a, qJ_sQ, qJ_nO, qJ_nA_s, qJ_nA_a, qQ_sI, qQ_sP, qQ_sR, qQ_sJ, qQ_sQ_s, qQ_sQ_i, qQ_sQ_a, qQ_nO, qQ_nA_s, qQ_nA_a] <;> first | assumption | rfl | omega)) rfl rfl (by decide) rfl rfl ?_
  exact vi_return C dX5_init_18 rfl (by decide) (by decide) (⟨rfl, rfl, rfl⟩)

set_option maxRecDepth 100000 in
set_option maxHeartbeats 4000000 in
/-- new Queue -/
theorem m_X6_init {E : vE} {S : vS} {sz : Nat} {h : Nat} (hk : vK S h = 7) (hh : h < sz) : vi_Met E yX6_init cX6_init 1 none 1 1 8 [.ref (h)] S sz (fun r S1 z1 => r = none ∧ z1 = (sz + 1) ∧ S1 = (sP (nA S sz 26 8) 600 (h) (some (sz)))) := by
  refine vi_met (by decide) (Nat.le_of_ble_eq_true rfl) ?_
  intro X C
  refine vi_aload_n C dX6_init_0 rfl rfl ?_
  refine vi_objInit C dX6_init_1 rfl oiX6_3 oi_i oi_c (by decide) (Nat.le_of_ble_eq_true rfl) ?_
  refine vi_aload_n C dX6_init_4 rfl rfl ?_
  refine vi_bipush (v := 8) C dX6_init_5 rfl (by decide) ?_
  refine vi_anewarray (κ := 26) (N := 8) C dX6_init_7 rfl clX6_9 ao_26 rfl (by decide) (by decide) (by decide) rfl (by decide) (by decide) (by decide) ?_
  refine vi_putp (i := 600) (o := some (sz)) C dX6_init_10 rfl fpX6_11 (by first | assumption | (simp (disch := omega) only [qK_sI, qK_sP, qK_sR, qK_sJ, qK_sQ, qK_nO_s, qK_nO_a, qK_nA_s, qK_nA_a, qN_sI, qN_sP, qN_sR, qN_sJ, qN_sQ, qN_nO, qN_nA_s, qN_nA_a, qI_sI_s, qI_sI_i, qI_sI_a, qI_sP, qI_sR, qI_sJ, qI_sQ, qI_nO_s, qI_nO_a, qI_nA, qP_sI, qP_sP_s, qP_sP_i, qP_sP_a, qP_sR, qP_sJ, qP_sQ, qP_nO_s, qP_nO_a, qP_nA, qR_sI, qR_sP, qR_sR_s, qR_sR_i, qR_sR_a, qR_sJ, qR_sQ, qR_nO, qR_nA_s, qR_nA_a, qJ_sI, qJ_sP, qJ_sR, qJ_sJ_s, qJ_sJ_i, qJ_sJ_a, qJ_sQ, qJ_nO, qJ_nA_s, qJ_nA_a, qQ_sI, qQ_sP, qQ_sR, qQ_sJ, qQ_sQ_s, qQ_sQ_i, qQ_sQ_a, qQ_nO, qQ_nA_s, qQ_nA_a] <;> first | assumption | rfl | omega)) rfl rfl (by decide) ?_
  exact vi_return C dX6_init_13 rfl (by decide) (by decide) (⟨rfl, rfl, rfl⟩)

set_option maxRecDepth 100000 in
set_option maxHeartbeats 4000000 in
/-- new Session -/
theorem m_X9_init {E : vE} {S : vS} {sz : Nat} {h : Nat} (hk : vK S h = 10) (hh : h < sz) : vi_Met E yX9_init cX9_init 1 none 1 1 16 [.ref (h)] S sz (fun r S1 z1 => r = none ∧ z1 = (sz + 1) ∧ S1 = (sI (sI (sI (sP (nA S sz 21 16) 900 (h) (some (sz))) 901 (h) ((0 : Int32))) 903 (h) ((-1 : Int32))) 904 (h) ((-1 : Int32)))) := by
  refine vi_met (by decide) (Nat.le_of_ble_eq_true rfl) ?_
  intro X C
  refine vi_aload_n C dX9_init_0 rfl rfl ?_
  refine vi_objInit C dX9_init_1 rfl oiX9_3 oi_i oi_c (by decide) (Nat.le_of_ble_eq_true rfl) ?_
  refine vi_aload_n C dX9_init_4 rfl rfl ?_
  refine vi_bipush (v := 16) C dX9_init_5 rfl (by decide) ?_
  refine vi_newarray (κ := 21) (N := 16) C dX9_init_7 rfl ac_int rfl (by decide) (by decide) (by decide) rfl (by decide) (by decide) (by decide) ?_
  refine vi_putp (i := 900) (o := some (sz)) C dX9_init_9 rfl fpX9_9 (by first | assumption | (simp (disch := omega) only [qK_sI, qK_sP, qK_sR, qK_sJ, qK_sQ, qK_nO_s, qK_nO_a, qK_nA_s, qK_nA_a, qN_sI, qN_sP, qN_sR, qN_sJ, qN_sQ, qN_nO, qN_nA_s, qN_nA_a, qI_sI_s, qI_sI_i, qI_sI_a, qI_sP, qI_sR, qI_sJ, qI_sQ, qI_nO_s, qI_nO_a, qI_nA, qP_sI, qP_sP_s, qP_sP_i, qP_sP_a, qP_sR, qP_sJ, qP_sQ, qP_nO_s, qP_nO_a, qP_nA, qR_sI, qR_sP, qR_sR_s, qR_sR_i, qR_sR_a, qR_sJ, qR_sQ, qR_nO, qR_nA_s, qR_nA_a, qJ_sI, qJ_sP, qJ_sR, qJ_sJ_s, qJ_sJ_i, qJ_sJ_a, qJ_sQ, qJ_nO, qJ_nA_s, qJ_nA_a, qQ_sI, qQ_sP, qQ_sR, qQ_sJ, qQ_sQ_s, qQ_sQ_i, qQ_sQ_a, qQ_nO, qQ_nA_s, qQ_nA_a] <;> first | assumption | rfl | omega)) rfl rfl (by decide) ?_
  refine vi_aload_n C dX9_init_12 rfl rfl ?_
  refine vi_iconst (v := 0) C dX9_init_13 rfl (by decide) ?_
  refine vi_puti (i := 901) C dX9_init_14 rfl (fpX9_15 _) (by first | assumption | (simp (disch := omega) only [qK_sI, qK_sP, qK_sR, qK_sJ, qK_sQ, qK_nO_s, qK_nO_a, qK_nA_s, qK_nA_a, qN_sI, qN_sP, qN_sR, qN_sJ, qN_sQ, qN_nO, qN_nA_s, qN_nA_a, qI_sI_s, qI_sI_i, qI_sI_a, qI_sP, qI_sR, qI_sJ, qI_sQ, qI_nO_s, qI_nO_a, qI_nA, qP_sI, qP_sP_s, qP_sP_i, qP_sP_a, qP_sR, qP_sJ, qP_sQ, qP_nO_s, qP_nO_a, qP_nA, qR_sI, qR_sP, qR_sR_s, qR_sR_i, qR_sR_a, qR_sJ, qR_sQ, qR_nO, qR_nA_s, qR_nA_a, qJ_sI, qJ_sP, qJ_sR, qJ_sJ_s, qJ_sJ_i, qJ_sJ_a, qJ_sQ, qJ_nO, qJ_nA_s, qJ_nA_a, qQ_sI, qQ_sP, qQ_sR, qQ_sJ, qQ_sQ_s, qQ_sQ_i, qQ_sQ_a, qQ_nO, qQ_nA_s, qQ_nA_a] <;> first | assumption | rfl | omega)) rfl rfl (by decide) rfl rfl ?_
  refine vi_aload_n C dX9_init_17 rfl rfl ?_
  refine vi_iconst (v := -1) C dX9_init_18 rfl (by decide) ?_
  refine vi_puti (i := 903) C dX9_init_19 rfl (fpX9_19 _) (by first | assumption | (simp (disch := omega) only [qK_sI, qK_sP, qK_sR, qK_sJ, qK_sQ, qK_nO_s, qK_nO_a, qK_nA_s, qK_nA_a, qN_sI, qN_sP, qN_sR, qN_sJ, qN_sQ, qN_nO, qN_nA_s, qN_nA_a, qI_sI_s, qI_sI_i, qI_sI_a, qI_sP, qI_sR, qI_sJ, qI_sQ, qI_nO_s, qI_nO_a, qI_nA, qP_sI, qP_sP_s, qP_sP_i, qP_sP_a, qP_sR, qP_sJ, qP_sQ, qP_nO_s, qP_nO_a, qP_nA, qR_sI, qR_sP, qR_sR_s, qR_sR_i, qR_sR_a, qR_sJ, qR_sQ, qR_nO, qR_nA_s, qR_nA_a, qJ_sI, qJ_sP, qJ_sR, qJ_sJ_s, qJ_sJ_i, qJ_sJ_a, qJ_sQ, qJ_nO, qJ_nA_s, qJ_nA_a, qQ_sI, qQ_sP, qQ_sR, qQ_sJ, qQ_sQ_s, qQ_sQ_i, qQ_sQ_a, qQ_nO, qQ_nA_s, qQ_nA_a] <;> first | assumption | rfl | omega)) rfl rfl (by decide) rfl rfl ?_
  refine vi_aload_n C dX9_init_22 rfl rfl ?_
  refine vi_iconst (v := -1) C dX9_init_23 rfl (by decide) ?_
  refine vi_puti (i := 904) C dX9_init_24 rfl (fpX9_22 _) (by first | assumption | (simp (disch := omega) only [qK_sI, qK_sP, qK_sR, qK_sJ, qK_sQ, qK_nO_s, qK_nO_a, qK_nA_s, qK_nA_a, qN_sI, qN_sP, qN_sR, qN_sJ, qN_sQ, qN_nO, qN_nA_s, qN_nA_a, qI_sI_s, qI_sI_i, qI_sI_a, qI_sP, qI_sR, qI_sJ, qI_sQ, qI_nO_s, qI_nO_a, qI_nA, qP_sI, qP_sP_s, qP_sP_i, qP_sP_a, qP_sR, qP_sJ, qP_sQ, qP_nO_s, qP_nO_a, qP_nA, qR_sI, qR_sP, qR_sR_s, qR_sR_i, qR_sR_a, qR_sJ, qR_sQ, qR_nO, qR_nA_s, qR_nA_a, qJ_sI, qJ_sP, qJ_sR, qJ_sJ_s, qJ_sJ_i, qJ_sJ_a, qJ_sQ, qJ_nO, qJ_nA_s, qJ_nA_a, qQ_sI, qQ_sP, qQ_sR, qQ_sJ, qQ_sQ_s, qQ_sQ_i, qQ_sQ_a, qQ_nO, qQ_nA_s, qQ_nA_a] <;> first | assumption | rfl | omega)) rfl rfl (by decide) rfl rfl ?_
  exact vi_return C dX9_init_27 rfl (by decide) (by decide) (⟨rfl, rfl, rfl⟩)

set_option maxRecDepth 100000 in
set_option maxHeartbeats 4000000 in
/-- new Store -/
theorem m_X10_init {E : vE} {S : vS} {sz : Nat} {h : Nat} {v l : Int32} (hk : vK S h = 11) (hh : h < sz) : vi_Met E yX10_init cX10_init 3 none 1 5 352 [.ref (h), .int (v), .int (l)] S sz (fun r S1 z1 => r = none ∧ z1 = (((((sz + 1) + 1) + 1) + 1) + 1) ∧ S1 = (sI (sI (sP (nA (sP (nA (sP (nA (sP (nA (sP (nA S sz 21 16) 1002 (h) (some (sz))) (sz + 1) 21 16) 1003 (h) (some ((sz + 1)))) ((sz + 1) + 1) 21 16) 1004 (h) (some (((sz + 1) + 1)))) (((sz + 1) + 1) + 1) 21 272) 1005 (h) (some ((((sz + 1) + 1) + 1)))) ((((sz + 1) + 1) + 1) + 1) 26 32) 1006 (h) (some (((((sz + 1) + 1) + 1) + 1)))) 1000 (h) (v)) 1001 (h) (l))) := by
  refine vi_met (by decide) (Nat.le_of_ble_eq_true rfl) ?_
  intro X C
  refine vi_aload_n C dX10_init_0 rfl rfl ?_
  refine vi_objInit C dX10_init_1 rfl oiX10_3 oi_i oi_c (by decide) (Nat.le_of_ble_eq_true rfl) ?_
  refine vi_aload_n C dX10_init_4 rfl rfl ?_
  refine vi_bipush (v := 16) C dX10_init_5 rfl (by decide) ?_
  refine vi_newarray (κ := 21) (N := 16) C dX10_init_7 rfl ac_int rfl (by decide) (by decide) (by decide) rfl (by decide) (by decide) (by decide) ?_
  refine vi_putp (i := 1002) (o := some (sz)) C dX10_init_9 rfl fpX10_9 (by first | assumption | (simp (disch := omega) only [qK_sI, qK_sP, qK_sR, qK_sJ, qK_sQ, qK_nO_s, qK_nO_a, qK_nA_s, qK_nA_a, qN_sI, qN_sP, qN_sR, qN_sJ, qN_sQ, qN_nO, qN_nA_s, qN_nA_a, qI_sI_s, qI_sI_i, qI_sI_a, qI_sP, qI_sR, qI_sJ, qI_sQ, qI_nO_s, qI_nO_a, qI_nA, qP_sI, qP_sP_s, qP_sP_i, qP_sP_a, qP_sR, qP_sJ, qP_sQ, qP_nO_s, qP_nO_a, qP_nA, qR_sI, qR_sP, qR_sR_s, qR_sR_i, qR_sR_a, qR_sJ, qR_sQ, qR_nO, qR_nA_s, qR_nA_a, qJ_sI, qJ_sP, qJ_sR, qJ_sJ_s, qJ_sJ_i, qJ_sJ_a, qJ_sQ, qJ_nO, qJ_nA_s, qJ_nA_a, qQ_sI, qQ_sP, qQ_sR, qQ_sJ, qQ_sQ_s, qQ_sQ_i, qQ_sQ_a, qQ_nO, qQ_nA_s, qQ_nA_a] <;> first | assumption | rfl | omega)) rfl rfl (by decide) ?_
  refine vi_aload_n C dX10_init_12 rfl rfl ?_
  refine vi_bipush (v := 16) C dX10_init_13 rfl (by decide) ?_
  refine vi_newarray (κ := 21) (N := 16) C dX10_init_15 rfl ac_int rfl (by decide) (by decide) (by decide) rfl (by decide) (by decide) (by decide) ?_
  refine vi_putp (i := 1003) (o := some ((sz + 1))) C dX10_init_17 rfl fpX10_15 (by first | assumption | (simp (disch := omega) only [qK_sI, qK_sP, qK_sR, qK_sJ, qK_sQ, qK_nO_s, qK_nO_a, qK_nA_s, qK_nA_a, qN_sI, qN_sP, qN_sR, qN_sJ, qN_sQ, qN_nO, qN_nA_s, qN_nA_a, qI_sI_s, qI_sI_i, qI_sI_a, qI_sP, qI_sR, qI_sJ, qI_sQ, qI_nO_s, qI_nO_a, qI_nA, qP_sI, qP_sP_s, qP_sP_i, qP_sP_a, qP_sR, qP_sJ, qP_sQ, qP_nO_s, qP_nO_a, qP_nA, qR_sI, qR_sP, qR_sR_s, qR_sR_i, qR_sR_a, qR_sJ, qR_sQ, qR_nO, qR_nA_s, qR_nA_a, qJ_sI, qJ_sP, qJ_sR, qJ_sJ_s, qJ_sJ_i, qJ_sJ_a, qJ_sQ, qJ_nO, qJ_nA_s, qJ_nA_a, qQ_sI, qQ_sP, qQ_sR, qQ_sJ, qQ_sQ_s, qQ_sQ_i, qQ_sQ_a, qQ_nO, qQ_nA_s, qQ_nA_a] <;> first | assumption | rfl | omega)) rfl rfl (by decide) ?_
  refine vi_aload_n C dX10_init_20 rfl rfl ?_
  refine vi_bipush (v := 16) C dX10_init_21 rfl (by decide) ?_
  refine vi_newarray (κ := 21) (N := 16) C dX10_init_23 rfl ac_int rfl (by decide) (by decide) (by decide) rfl (by decide) (by decide) (by decide) ?_
  refine vi_putp (i := 1004) (o := some (((sz + 1) + 1))) C dX10_init_25 rfl fpX10_18 (by first | assumption | (simp (disch := omega) only [qK_sI, qK_sP, qK_sR, qK_sJ, qK_sQ, qK_nO_s, qK_nO_a, qK_nA_s, qK_nA_a, qN_sI, qN_sP, qN_sR, qN_sJ, qN_sQ, qN_nO, qN_nA_s, qN_nA_a, qI_sI_s, qI_sI_i, qI_sI_a, qI_sP, qI_sR, qI_sJ, qI_sQ, qI_nO_s, qI_nO_a, qI_nA, qP_sI, qP_sP_s, qP_sP_i, qP_sP_a, qP_sR, qP_sJ, qP_sQ, qP_nO_s, qP_nO_a, qP_nA, qR_sI, qR_sP, qR_sR_s, qR_sR_i, qR_sR_a, qR_sJ, qR_sQ, qR_nO, qR_nA_s, qR_nA_a, qJ_sI, qJ_sP, qJ_sR, qJ_sJ_s, qJ_sJ_i, qJ_sJ_a, qJ_sQ, qJ_nO, qJ_nA_s, qJ_nA_a, qQ_sI, qQ_sP, qQ_sR, qQ_sJ, qQ_sQ_s, qQ_sQ_i, qQ_sQ_a, qQ_nO, qQ_nA_s, qQ_nA_a] <;> first | assumption | rfl | omega)) rfl rfl (by decide) ?_
  refine vi_aload_n C dX10_init_28 rfl rfl ?_
  refine vi_sipush (v := 272) C dX10_init_29 rfl (by decide) ?_
  refine vi_newarray (κ := 21) (N := 272) C dX10_init_32 rfl ac_int rfl (by decide) (by decide) (by decide) rfl (by decide) (by decide) (by decide) ?_
  refine vi_putp (i := 1005) (o := some ((((sz + 1) + 1) + 1))) C dX10_init_34 rfl fpX10_21 (by first | assumption | (simp (disch := omega) only [qK_sI, qK_sP, qK_sR, qK_sJ, qK_sQ, qK_nO_s, qK_nO_a, qK_nA_s, qK_nA_a, qN_sI, qN_sP, qN_sR, qN_sJ, qN_sQ, qN_nO, qN_nA_s, qN_nA_a, qI_sI_s, qI_sI_i, qI_sI_a, qI_sP, qI_sR, qI_sJ, qI_sQ, qI_nO_s, qI_nO_a, qI_nA, qP_sI, qP_sP_s, qP_sP_i, qP_sP_a, qP_sR, qP_sJ, qP_sQ, qP_nO_s, qP_nO_a, qP_nA, qR_sI, qR_sP, qR_sR_s, qR_sR_i, qR_sR_a, qR_sJ, qR_sQ, qR_nO, qR_nA_s, qR_nA_a, qJ_sI, qJ_sP, qJ_sR, qJ_sJ_s, qJ_sJ_i, qJ_sJ_a, qJ_sQ, qJ_nO, qJ_nA_s, qJ_nA_a, qQ_sI, qQ_sP, qQ_sR, qQ_sJ, qQ_sQ_s, qQ_sQ_i, qQ_sQ_a, qQ_nO, qQ_nA_s, qQ_nA_a] <;> first | assumption | rfl | omega)) rfl rfl (by decide) ?_
  refine vi_aload_n C dX10_init_37 rfl rfl ?_
  refine vi_bipush (v := 32) C dX10_init_38 rfl (by decide) ?_
  refine vi_anewarray (κ := 26) (N := 32) C dX10_init_40 rfl clX10_24 ao_26 rfl (by decide) (by decide) (by decide) rfl (by decide) (by decide) (by decide) ?_
  refine vi_putp (i := 1006) (o := some (((((sz + 1) + 1) + 1) + 1))) C dX10_init_43 rfl fpX10_26 (by first | assumption | (simp (disch := omega) only [qK_sI, qK_sP, qK_sR, qK_sJ, qK_sQ, qK_nO_s, qK_nO_a, qK_nA_s, qK_nA_a, qN_sI, qN_sP, qN_sR, qN_sJ, qN_sQ, qN_nO, qN_nA_s, qN_nA_a, qI_sI_s, qI_sI_i, qI_sI_a, qI_sP, qI_sR, qI_sJ, qI_sQ, qI_nO_s, qI_nO_a, qI_nA, qP_sI, qP_sP_s, qP_sP_i, qP_sP_a, qP_sR, qP_sJ, qP_sQ, qP_nO_s, qP_nO_a, qP_nA, qR_sI, qR_sP, qR_sR_s, qR_sR_i, qR_sR_a, qR_sJ, qR_sQ, qR_nO, qR_nA_s, qR_nA_a, qJ_sI, qJ_sP, qJ_sR, qJ_sJ_s, qJ_sJ_i, qJ_sJ_a, qJ_sQ, qJ_nO, qJ_nA_s, qJ_nA_a, qQ_sI, qQ_sP, qQ_sR, qQ_sJ, qQ_sQ_s, qQ_sQ_i, qQ_sQ_a, qQ_nO, qQ_nA_s, qQ_nA_a] <;> first | assumption | rfl | omega)) rfl rfl (by decide) ?_
  refine vi_aload_n C dX10_init_46 rfl rfl ?_
  refine vi_iload_n C dX10_init_47 rfl rfl ?_
  refine vi_puti (i := 1000) C dX10_init_48 rfl fpX10_30 (by first | assumption | (simp (disch := omega) only [qK_sI, qK_sP, qK_sR, qK_sJ, qK_sQ, qK_nO_s, qK_nO_a, qK_nA_s, qK_nA_a, qN_sI, qN_sP, qN_sR, qN_sJ, qN_sQ, qN_nO, qN_nA_s, qN_nA_a, qI_sI_s, qI_sI_i, qI_sI_a, qI_sP, qI_sR, qI_sJ, qI_sQ, qI_nO_s, qI_nO_a, qI_nA, qP_sI, qP_sP_s, qP_sP_i, qP_sP_a, qP_sR, qP_sJ, qP_sQ, qP_nO_s, qP_nO_a, qP_nA, qR_sI, qR_sP, qR_sR_s, qR_sR_i, qR_sR_a, qR_sJ, qR_sQ, qR_nO, qR_nA_s, qR_nA_a, qJ_sI, qJ_sP, qJ_sR, qJ_sJ_s, qJ_sJ_i, qJ_sJ_a, qJ_sQ, qJ_nO, qJ_nA_s, qJ_nA_a, qQ_sI, qQ_sP, qQ_sR, qQ_sJ, qQ_sQ_s, qQ_sQ_i, qQ_sQ_a, qQ_nO, qQ_nA_s, qQ_nA_a] <;> first | assumption | rfl | omega)) rfl rfl (by decide) rfl rfl ?_
  refine vi_aload_n C dX10_init_51 rfl rfl ?_
  refine vi_iload_n C dX10_init_52 rfl rfl ?_
  refine vi_puti (i := 1001) C dX10_init_53 rfl fpX10_34 (by first | assumption | (simp (disch := omega) only [qK_sI, qK_sP, qK_sR, qK_sJ, qK_sQ, qK_nO_s, qK_nO_a, qK_nA_s, qK_nA_a, qN_sI, qN_sP, qN_sR, qN_sJ, qN_sQ, qN_nO, qN_nA_s, qN_nA_a, qI_sI_s, qI_sI_i, qI_sI_a, qI_sP, qI_sR, qI_sJ, qI_sQ, qI_nO_s, qI_nO_a, qI_nA, qP_sI, qP_sP_s, qP_sP_i, qP_sP_a, qP_sR, qP_sJ, qP_sQ, qP_nO_s, qP_nO_a, qP_nA, qR_sI, qR_sP, qR_sR_s, qR_sR_i, qR_sR_a, qR_sJ, qR_sQ, qR_nO, qR_nA_s, qR_nA_a, qJ_sI, qJ_sP, qJ_sR, qJ_sJ_s, qJ_sJ_i, qJ_sJ_a, qJ_sQ, qJ_nO, qJ_nA_s, qJ_nA_a, qQ_sI, qQ_sP, qQ_sR, qQ_sJ, qQ_sQ_s, qQ_sQ_i, qQ_sQ_a, qQ_nO, qQ_nA_s, qQ_nA_a] <;> first | assumption | rfl | omega)) rfl rfl (by decide) rfl rfl ?_
  exact vi_return C dX10_init_56 rfl (by decide) (by decide) (⟨rfl, rfl, rfl⟩)

set_option maxRecDepth 100000 in
set_option maxHeartbeats 4000000 in
/-- Replica.connect -/
theorem m_X7_connect {E : vE} {S : vS} {sz : Nat} {h a b c : Nat} (hk : vK S h = 8) : vi_Met E yX7_connect cX7_connect 4 none 0 0 0 [.ref (h), .ref (a), .ref (b), .ref (c)] S sz (fun r S1 z1 => r = none ∧ z1 = sz ∧ S1 = (sP (sP (sP S 708 (h) (some (a))) 709 (h) (some (b))) 710 (h) (some (c)))) := by
  refine vi_met (by decide) (Nat.le_of_ble_eq_true rfl) ?_
  intro X C
  refine vi_aload_n C dX7_connect_0 rfl rfl ?_
  refine vi_aload_n C dX7_connect_1 rfl rfl ?_
  refine vi_putp (i := 708) (o := some (a)) C dX7_connect_2 rfl (fpX7_54 _) (by first | assumption | (simp (disch := omega) only [qK_sI, qK_sP, qK_sR, qK_sJ, qK_sQ, qK_nO_s, qK_nO_a, qK_nA_s, qK_nA_a, qN_sI, qN_sP, qN_sR, qN_sJ, qN_sQ, qN_nO, qN_nA_s, qN_nA_a, qI_sI_s, qI_sI_i, qI_sI_a, qI_sP, qI_sR, qI_sJ, qI_sQ, qI_nO_s, qI_nO_a, qI_nA, qP_sI, qP_sP_s, qP_sP_i, qP_sP_a, qP_sR, qP_sJ, qP_sQ, qP_nO_s, qP_nO_a, qP_nA, qR_sI, qR_sP, qR_sR_s, qR_sR_i, qR_sR_a, qR_sJ, qR_sQ, qR_nO, qR_nA_s, qR_nA_a, qJ_sI, qJ_sP, qJ_sR, qJ_sJ_s, qJ_sJ_i, qJ_sJ_a, qJ_sQ, qJ_nO, qJ_nA_s, qJ_nA_a, qQ_sI, qQ_sP, qQ_sR, qQ_sJ, qQ_sQ_s, qQ_sQ_i, qQ_sQ_a, qQ_nO, qQ_nA_s, qQ_nA_a] <;> first | assumption | rfl | omega)) rfl rfl (by decide) ?_
  refine vi_aload_n C dX7_connect_5 rfl rfl ?_
  refine vi_aload_n C dX7_connect_6 rfl rfl ?_
  refine vi_putp (i := 709) (o := some (b)) C dX7_connect_7 rfl (fpX7_58 _) (by first | assumption | (simp (disch := omega) only [qK_sI, qK_sP, qK_sR, qK_sJ, qK_sQ, qK_nO_s, qK_nO_a, qK_nA_s, qK_nA_a, qN_sI, qN_sP, qN_sR, qN_sJ, qN_sQ, qN_nO, qN_nA_s, qN_nA_a, qI_sI_s, qI_sI_i, qI_sI_a, qI_sP, qI_sR, qI_sJ, qI_sQ, qI_nO_s, qI_nO_a, qI_nA, qP_sI, qP_sP_s, qP_sP_i, qP_sP_a, qP_sR, qP_sJ, qP_sQ, qP_nO_s, qP_nO_a, qP_nA, qR_sI, qR_sP, qR_sR_s, qR_sR_i, qR_sR_a, qR_sJ, qR_sQ, qR_nO, qR_nA_s, qR_nA_a, qJ_sI, qJ_sP, qJ_sR, qJ_sJ_s, qJ_sJ_i, qJ_sJ_a, qJ_sQ, qJ_nO, qJ_nA_s, qJ_nA_a, qQ_sI, qQ_sP, qQ_sR, qQ_sJ, qQ_sQ_s, qQ_sQ_i, qQ_sQ_a, qQ_nO, qQ_nA_s, qQ_nA_a] <;> first | assumption | rfl | omega)) rfl rfl (by decide) ?_
  refine vi_aload_n C dX7_connect_10 rfl rfl ?_
  refine vi_aload_n C dX7_connect_11 rfl rfl ?_
  refine vi_putp (i := 710) (o := some (c)) C dX7_connect_12 rfl (fpX7_62 _) (by first | assumption | (simp (disch := omega) only [qK_sI, qK_sP, qK_sR, qK_sJ, qK_sQ, qK_nO_s, qK_nO_a, qK_nA_s, qK_nA_a, qN_sI, qN_sP, qN_sR, qN_sJ, qN_sQ, qN_nO, qN_nA_s, qN_nA_a, qI_sI_s, qI_sI_i, qI_sI_a, qI_sP, qI_sR, qI_sJ, qI_sQ, qI_nO_s, qI_nO_a, qI_nA, qP_sI, qP_sP_s, qP_sP_i, qP_sP_a, qP_sR, qP_sJ, qP_sQ, qP_nO_s, qP_nO_a, qP_nA, qR_sI, qR_sP, qR_sR_s, qR_sR_i, qR_sR_a, qR_sJ, qR_sQ, qR_nO, qR_nA_s, qR_nA_a, qJ_sI, qJ_sP, qJ_sR, qJ_sJ_s, qJ_sJ_i, qJ_sJ_a, qJ_sQ, qJ_nO, qJ_nA_s, qJ_nA_a, qQ_sI, qQ_sP, qQ_sR, qQ_sJ, qQ_sQ_s, qQ_sQ_i, qQ_sQ_a, qQ_nO, qQ_nA_s, qQ_nA_a] <;> first | assumption | rfl | omega)) rfl rfl (by decide) ?_
  exact vi_return C dX7_connect_15 rfl (by decide) (by decide) (⟨rfl, rfl, rfl⟩)

set_option maxRecDepth 100000 in
set_option maxHeartbeats 4000000 in
/-- new Replica -/
theorem m_X7_init {E : vE} {S : vS} {sz : Nat} {h s j : Nat} {a b c : Int32} (hk : vK S h = 8) (hh : h < sz) : vi_Met E yX7_init cX7_init 6 none 2 5 276 [.ref (h), .int (a), .int (b), .int (c), .ref (s), .ref (j)] S sz (fun r S1 z1 => r = none ∧ z1 = (((((sz + 1) + 1) + 1) + 1) + 1) ∧ S1 = (sP (sP (sI (sI (sI (sI (sP (sI (nO (sP (sI (sP (nA (nO (sP (sP (nA (nO S sz 6) (sz + 1) 26 8) 600 (sz) (some ((sz + 1)))) 705 (h) (some (sz))) ((sz + 1) + 1) 5) (((sz + 1) + 1) + 1) 20 256) 500 ((sz + 1 + 1)) (some ((((sz + 1) + 1) + 1)))) 501 ((sz + 1 + 1)) ((-1 : Int32))) 706 (h) (some (((sz + 1) + 1)))) ((((sz + 1) + 1) + 1) + 1) 4) 400 ((sz + 1 + 1 + 1 + 1)) ((0 : Int32))) 707 (h) (some (((((sz + 1) + 1) + 1) + 1)))) 711 (h) ((1 : Int32))) 700 (h) (a)) 701 (h) (b)) 702 (h) (c)) 703 (h) (some (s))) 704 (h) (some (j)))) := by
  refine vi_met (by decide) (Nat.le_of_ble_eq_true rfl) ?_
  intro X C
  refine vi_aload_n C dX7_init_0 rfl rfl ?_
  refine vi_objInit C dX7_init_1 rfl oiX7_3 oi_i oi_c (by decide) (Nat.le_of_ble_eq_true rfl) ?_
  refine vi_aload_n C dX7_init_4 rfl rfl ?_
  refine vi_new C dX7_init_5 rfl nlX7_9 (by decide) (by decide) ?_
  refine vi_dup C dX7_init_8 rfl rfl ?_
  refine vi_callI C [] [.ref (sz), .ref (h)] dX7_init_9 rfl ivX7_11 iiX6_init (m_X6_init (by first | assumption | (simp (disch := omega) only [qK_sI, qK_sP, qK_sR, qK_sJ, qK_sQ, qK_nO_s, qK_nO_a, qK_nA_s, qK_nA_a, qN_sI, qN_sP, qN_sR, qN_sJ, qN_sQ, qN_nO, qN_nA_s, qN_nA_a, qI_sI_s, qI_sI_i, qI_sI_a, qI_sP, qI_sR, qI_sJ, qI_sQ, qI_nO_s, qI_nO_a, qI_nA, qP_sI, qP_sP_s, qP_sP_i, qP_sP_a, qP_sR, qP_sJ, qP_sQ, qP_nO_s, qP_nO_a, qP_nA, qR_sI, qR_sP, qR_sR_s, qR_sR_i, qR_sR_a, qR_sJ, qR_sQ, qR_nO, qR_nA_s, qR_nA_a, qJ_sI, qJ_sP, qJ_sR, qJ_sJ_s, qJ_sJ_i, qJ_sJ_a, qJ_sQ, qJ_nO, qJ_nA_s, qJ_nA_a, qQ_sI, qQ_sP, qQ_sR, qQ_sJ, qQ_sQ_s, qQ_sQ_i, qQ_sQ_a, qQ_nO, qQ_nA_s, qQ_nA_a] <;> first | assumption | rfl | omega)) (by omega)) rfl (Nat.le_of_ble_eq_true rfl) ⟨by decide, by decide⟩ ⟨by decide, by decide⟩ (fun r9 S9 z9 hq9 => ?_)
  obtain ⟨rfl, rfl, rfl⟩ := hq9
  refine vi_putp (i := 705) (o := some (sz)) C dX7_init_12 rfl fpX7_12 (by first | assumption | (simp (disch := omega) only [qK_sI, qK_sP, qK_sR, qK_sJ, qK_sQ, qK_nO_s, qK_nO_a, qK_nA_s, qK_nA_a, qN_sI, qN_sP, qN_sR, qN_sJ, qN_sQ, qN_nO, qN_nA_s, qN_nA_a, qI_sI_s, qI_sI_i, qI_sI_a, qI_sP, qI_sR, qI_sJ, qI_sQ, qI_nO_s, qI_nO_a, qI_nA, qP_sI, qP_sP_s, qP_sP_i, qP_sP_a, qP_sR, qP_sJ, qP_sQ, qP_nO_s, qP_nO_a, qP_nA, qR_sI, qR_sP, qR_sR_s, qR_sR_i, qR_sR_a, qR_sJ, qR_sQ, qR_nO, qR_nA_s, qR_nA_a, qJ_sI, qJ_sP, qJ_sR, qJ_sJ_s, qJ_sJ_i, qJ_sJ_a, qJ_sQ, qJ_nO, qJ_nA_s, qJ_nA_a, qQ_sI, qQ_sP, qQ_sR, qQ_sJ, qQ_sQ_s, qQ_sQ_i, qQ_sQ_a, qQ_nO, qQ_nA_s, qQ_nA_a] <;> first | assumption | rfl | omega)) rfl rfl (by decide) ?_
  refine vi_aload_n C dX7_init_15 rfl rfl ?_
  refine vi_new C dX7_init_16 rfl nlX7_18 (by decide) (by decide) ?_
  refine vi_dup C dX7_init_19 rfl rfl ?_
  refine vi_callI C [] [.ref (((sz + 1) + 1)), .ref (h)] dX7_init_20 rfl ivX7_20 iiX5_init (m_X5_init (by first | assumption | (simp (disch := omega) only [qK_sI, qK_sP, qK_sR, qK_sJ, qK_sQ, qK_nO_s, qK_nO_a, qK_nA_s, qK_nA_a, qN_sI, qN_sP, qN_sR, qN_sJ, qN_sQ, qN_nO, qN_nA_s, qN_nA_a, qI_sI_s, qI_sI_i, qI_sI_a, qI_sP, qI_sR, qI_sJ, qI_sQ, qI_nO_s, qI_nO_a, qI_nA, qP_sI, qP_sP_s, qP_sP_i, qP_sP_a, qP_sR, qP_sJ, qP_sQ, qP_nO_s, qP_nO_a, qP_nA, qR_sI, qR_sP, qR_sR_s, qR_sR_i, qR_sR_a, qR_sJ, qR_sQ, qR_nO, qR_nA_s, qR_nA_a, qJ_sI, qJ_sP, qJ_sR, qJ_sJ_s, qJ_sJ_i, qJ_sJ_a, qJ_sQ, qJ_nO, qJ_nA_s, qJ_nA_a, qQ_sI, qQ_sP, qQ_sR, qQ_sJ, qQ_sQ_s, qQ_sQ_i, qQ_sQ_a, qQ_nO, qQ_nA_s, qQ_nA_a] <;> first | assumption | rfl | omega)) (by omega)) rfl (Nat.le_of_ble_eq_true rfl) ⟨by decide, by decide⟩ ⟨by decide, by decide⟩ (fun r20 S20 z20 hq20 => ?_)
  obtain ⟨rfl, rfl, rfl⟩ := hq20
  refine vi_putp (i := 706) (o := some (((sz + 1) + 1))) C dX7_init_23 rfl fpX7_21 (by first | assumption | (simp (disch := omega) only [qK_sI, qK_sP, qK_sR, qK_sJ, qK_sQ, qK_nO_s, qK_nO_a, qK_nA_s, qK_nA_a, qN_sI, qN_sP, qN_sR, qN_sJ, qN_sQ, qN_nO, qN_nA_s, qN_nA_a, qI_sI_s, qI_sI_i, qI_sI_a, qI_sP, qI_sR, qI_sJ, qI_sQ, qI_nO_s, qI_nO_a, qI_nA, qP_sI, qP_sP_s, qP_sP_i, qP_sP_a, qP_sR, qP_sJ, qP_sQ, qP_nO_s, qP_nO_a, qP_nA, qR_sI, qR_sP, qR_sR_s, qR_sR_i, qR_sR_a, qR_sJ, qR_sQ, qR_nO, qR_nA_s, qR_nA_a, qJ_sI, qJ_sP, qJ_sR, qJ_sJ_s, qJ_sJ_i, qJ_sJ_a, qJ_sQ, qJ_nO, qJ_nA_s, qJ_nA_a, qQ_sI, qQ_sP, qQ_sR, qQ_sJ, qQ_sQ_s, qQ_sQ_i, qQ_sQ_a, qQ_nO, qQ_nA_s, qQ_nA_a] <;> first | assumption | rfl | omega)) rfl rfl (by decide) ?_
  refine vi_aload_n C dX7_init_26 rfl rfl ?_
  refine vi_new C dX7_init_27 rfl nlX7_25 (by decide) (by decide) ?_
  refine vi_dup C dX7_init_30 rfl rfl ?_
  refine vi_callI C [] [.ref (((((sz + 1) + 1) + 1) + 1)), .ref (h)] dX7_init_31 rfl ivX7_27 iiX4_init (m_X4_init (by first | assumption | (simp (disch := omega) only [qK_sI, qK_sP, qK_sR, qK_sJ, qK_sQ, qK_nO_s, qK_nO_a, qK_nA_s, qK_nA_a, qN_sI, qN_sP, qN_sR, qN_sJ, qN_sQ, qN_nO, qN_nA_s, qN_nA_a, qI_sI_s, qI_sI_i, qI_sI_a, qI_sP, qI_sR, qI_sJ, qI_sQ, qI_nO_s, qI_nO_a, qI_nA, qP_sI, qP_sP_s, qP_sP_i, qP_sP_a, qP_sR, qP_sJ, qP_sQ, qP_nO_s, qP_nO_a, qP_nA, qR_sI, qR_sP, qR_sR_s, qR_sR_i, qR_sR_a, qR_sJ, qR_sQ, qR_nO, qR_nA_s, qR_nA_a, qJ_sI, qJ_sP, qJ_sR, qJ_sJ_s, qJ_sJ_i, qJ_sJ_a, qJ_sQ, qJ_nO, qJ_nA_s, qJ_nA_a, qQ_sI, qQ_sP, qQ_sR, qQ_sJ, qQ_sQ_s, qQ_sQ_i, qQ_sQ_a, qQ_nO, qQ_nA_s, qQ_nA_a] <;> first | assumption | rfl | omega))) rfl (Nat.le_of_ble_eq_true rfl) ⟨by decide, by decide⟩ ⟨by decide, by decide⟩ (fun r31 S31 z31 hq31 => ?_)
  obtain ⟨rfl, rfl, rfl⟩ := hq31
  refine vi_putp (i := 707) (o := some (((((sz + 1) + 1) + 1) + 1))) C dX7_init_34 rfl fpX7_28 (by first | assumption | (simp (disch := omega) only [qK_sI, qK_sP, qK_sR, qK_sJ, qK_sQ, qK_nO_s, qK_nO_a, qK_nA_s, qK_nA_a, qN_sI, qN_sP, qN_sR, qN_sJ, qN_sQ, qN_nO, qN_nA_s, qN_nA_a, qI_sI_s, qI_sI_i, qI_sI_a, qI_sP, qI_sR, qI_sJ, qI_sQ, qI_nO_s, qI_nO_a, qI_nA, qP_sI, qP_sP_s, qP_sP_i, qP_sP_a, qP_sR, qP_sJ, qP_sQ, qP_nO_s, qP_nO_a, qP_nA, qR_sI, qR_sP, qR_sR_s, qR_sR_i, qR_sR_a, qR_sJ, qR_sQ, qR_nO, qR_nA_s, qR_nA_a, qJ_sI, qJ_sP, qJ_sR, qJ_sJ_s, qJ_sJ_i, qJ_sJ_a, qJ_sQ, qJ_nO, qJ_nA_s, qJ_nA_a, qQ_sI, qQ_sP, qQ_sR, qQ_sJ, qQ_sQ_s, qQ_sQ_i, qQ_sQ_a, qQ_nO, qQ_nA_s, qQ_nA_a] <;> first | assumption | rfl | omega)) rfl rfl (by decide) ?_
  refine vi_aload_n C dX7_init_37 rfl rfl ?_
  refine vi_iconst (v := 1) C dX7_init_38 rfl (by decide) ?_
  refine vi_puti (i := 711) C dX7_init_39 rfl (fpX7_32 _) (by first | assumption | (simp (disch := omega) only [qK_sI, qK_sP, qK_sR, qK_sJ, qK_sQ, qK_nO_s, qK_nO_a, qK_nA_s, qK_nA_a, qN_sI, qN_sP, qN_sR, qN_sJ, qN_sQ, qN_nO, qN_nA_s, qN_nA_a, qI_sI_s, qI_sI_i, qI_sI_a, qI_sP, qI_sR, qI_sJ, qI_sQ, qI_nO_s, qI_nO_a, qI_nA, qP_sI, qP_sP_s, qP_sP_i, qP_sP_a, qP_sR, qP_sJ, qP_sQ, qP_nO_s, qP_nO_a, qP_nA, qR_sI, qR_sP, qR_sR_s, qR_sR_i, qR_sR_a, qR_sJ, qR_sQ, qR_nO, qR_nA_s, qR_nA_a, qJ_sI, qJ_sP, qJ_sR, qJ_sJ_s, qJ_sJ_i, qJ_sJ_a, qJ_sQ, qJ_nO, qJ_nA_s, qJ_nA_a, qQ_sI, qQ_sP, qQ_sR, qQ_sJ, qQ_sQ_s, qQ_sQ_i, qQ_sQ_a, qQ_nO, qQ_nA_s, qQ_nA_a] <;> first | assumption | rfl | omega)) rfl rfl (by decide) rfl rfl ?_
  refine vi_aload_n C dX7_init_42 rfl rfl ?_
  refine vi_iload_n C dX7_init_43 rfl rfl ?_
  refine vi_puti (i := 700) C dX7_init_44 rfl fpX7_36 (by first | assumption | (simp (disch := omega) only [qK_sI, qK_sP, qK_sR, qK_sJ, qK_sQ, qK_nO_s, qK_nO_a, qK_nA_s, qK_nA_a, qN_sI, qN_sP, qN_sR, qN_sJ, qN_sQ, qN_nO, qN_nA_s, qN_nA_a, qI_sI_s, qI_sI_i, qI_sI_a, qI_sP, qI_sR, qI_sJ, qI_sQ, qI_nO_s, qI_nO_a, qI_nA, qP_sI, qP_sP_s, qP_sP_i, qP_sP_a, qP_sR, qP_sJ, qP_sQ, qP_nO_s, qP_nO_a, qP_nA, qR_sI, qR_sP, qR_sR_s, qR_sR_i, qR_sR_a, qR_sJ, qR_sQ, qR_nO, qR_nA_s, qR_nA_a, qJ_sI, qJ_sP, qJ_sR, qJ_sJ_s, qJ_sJ_i, qJ_sJ_a, qJ_sQ, qJ_nO, qJ_nA_s, qJ_nA_a, qQ_sI, qQ_sP, qQ_sR, qQ_sJ, qQ_sQ_s, qQ_sQ_i, qQ_sQ_a, qQ_nO, qQ_nA_s, qQ_nA_a] <;> first | assumption | rfl | omega)) rfl rfl (by decide) rfl rfl ?_
  refine vi_aload_n C dX7_init_47 rfl rfl ?_
  refine vi_iload_n C dX7_init_48 rfl rfl ?_
  refine vi_puti (i := 701) C dX7_init_49 rfl fpX7_40 (by first | assumption | (simp (disch := omega) only [qK_sI, qK_sP, qK_sR, qK_sJ, qK_sQ, qK_nO_s, qK_nO_a, qK_nA_s, qK_nA_a, qN_sI, qN_sP, qN_sR, qN_sJ, qN_sQ, qN_nO, qN_nA_s, qN_nA_a, qI_sI_s, qI_sI_i, qI_sI_a, qI_sP, qI_sR, qI_sJ, qI_sQ, qI_nO_s, qI_nO_a, qI_nA, qP_sI, qP_sP_s, qP_sP_i, qP_sP_a, qP_sR, qP_sJ, qP_sQ, qP_nO_s, qP_nO_a, qP_nA, qR_sI, qR_sP, qR_sR_s, qR_sR_i, qR_sR_a, qR_sJ, qR_sQ, qR_nO, qR_nA_s, qR_nA_a, qJ_sI, qJ_sP, qJ_sR, qJ_sJ_s, qJ_sJ_i, qJ_sJ_a, qJ_sQ, qJ_nO, qJ_nA_s, qJ_nA_a, qQ_sI, qQ_sP, qQ_sR, qQ_sJ, qQ_sQ_s, qQ_sQ_i, qQ_sQ_a, qQ_nO, qQ_nA_s, qQ_nA_a] <;> first | assumption | rfl | omega)) rfl rfl (by decide) rfl rfl ?_
  refine vi_aload_n C dX7_init_52 rfl rfl ?_
  refine vi_iload_n C dX7_init_53 rfl rfl ?_
  refine vi_puti (i := 702) C dX7_init_54 rfl fpX7_43 (by first | assumption | (simp (disch := omega) only [qK_sI, qK_sP, qK_sR, qK_sJ, qK_sQ, qK_nO_s, qK_nO_a, qK_nA_s, qK_nA_a, qN_sI, qN_sP, qN_sR, qN_sJ, qN_sQ, qN_nO, qN_nA_s, qN_nA_a, qI_sI_s, qI_sI_i, qI_sI_a, qI_sP, qI_sR, qI_sJ, qI_sQ, qI_nO_s, qI_nO_a, qI_nA, qP_sI, qP_sP_s, qP_sP_i, qP_sP_a, qP_sR, qP_sJ, qP_sQ, qP_nO_s, qP_nO_a, qP_nA, qR_sI, qR_sP, qR_sR_s, qR_sR_i, qR_sR_a, qR_sJ, qR_sQ, qR_nO, qR_nA_s, qR_nA_a, qJ_sI, qJ_sP, qJ_sR, qJ_sJ_s, qJ_sJ_i, qJ_sJ_a, qJ_sQ, qJ_nO, qJ_nA_s, qJ_nA_a, qQ_sI, qQ_sP, qQ_sR, qQ_sJ, qQ_sQ_s, qQ_sQ_i, qQ_sQ_a, qQ_nO, qQ_nA_s, qQ_nA_a] <;> first | assumption | rfl | omega)) rfl rfl (by decide) rfl rfl ?_
  refine vi_aload_n C dX7_init_57 rfl rfl ?_
  refine vi_aload C dX7_init_58 rfl rfl ?_
  refine vi_putp (i := 703) (o := some (s)) C dX7_init_60 rfl fpX7_46 (by first | assumption | (simp (disch := omega) only [qK_sI, qK_sP, qK_sR, qK_sJ, qK_sQ, qK_nO_s, qK_nO_a, qK_nA_s, qK_nA_a, qN_sI, qN_sP, qN_sR, qN_sJ, qN_sQ, qN_nO, qN_nA_s, qN_nA_a, qI_sI_s, qI_sI_i, qI_sI_a, qI_sP, qI_sR, qI_sJ, qI_sQ, qI_nO_s, qI_nO_a, qI_nA, qP_sI, qP_sP_s, qP_sP_i, qP_sP_a, qP_sR, qP_sJ, qP_sQ, qP_nO_s, qP_nO_a, qP_nA, qR_sI, qR_sP, qR_sR_s, qR_sR_i, qR_sR_a, qR_sJ, qR_sQ, qR_nO, qR_nA_s, qR_nA_a, qJ_sI, qJ_sP, qJ_sR, qJ_sJ_s, qJ_sJ_i, qJ_sJ_a, qJ_sQ, qJ_nO, qJ_nA_s, qJ_nA_a, qQ_sI, qQ_sP, qQ_sR, qQ_sJ, qQ_sQ_s, qQ_sQ_i, qQ_sQ_a, qQ_nO, qQ_nA_s, qQ_nA_a] <;> first | assumption | rfl | omega)) rfl rfl (by decide) ?_
  refine vi_aload_n C dX7_init_63 rfl rfl ?_
  refine vi_aload C dX7_init_64 rfl rfl ?_
  refine vi_putp (i := 704) (o := some (j)) C dX7_init_66 rfl fpX7_50 (by first | assumption | (simp (disch := omega) only [qK_sI, qK_sP, qK_sR, qK_sJ, qK_sQ, qK_nO_s, qK_nO_a, qK_nA_s, qK_nA_a, qN_sI, qN_sP, qN_sR, qN_sJ, qN_sQ, qN_nO, qN_nA_s, qN_nA_a, qI_sI_s, qI_sI_i, qI_sI_a, qI_sP, qI_sR, qI_sJ, qI_sQ, qI_nO_s, qI_nO_a, qI_nA, qP_sI, qP_sP_s, qP_sP_i, qP_sP_a, qP_sR, qP_sJ, qP_sQ, qP_nO_s, qP_nO_a, qP_nA, qR_sI, qR_sP, qR_sR_s, qR_sR_i, qR_sR_a, qR_sJ, qR_sQ, qR_nO, qR_nA_s, qR_nA_a, qJ_sI, qJ_sP, qJ_sR, qJ_sJ_s, qJ_sJ_i, qJ_sJ_a, qJ_sQ, qJ_nO, qJ_nA_s, qJ_nA_a, qQ_sI, qQ_sP, qQ_sR, qQ_sJ, qQ_sQ_s, qQ_sQ_i, qQ_sQ_a, qQ_nO, qQ_nA_s, qQ_nA_a] <;> first | assumption | rfl | omega)) rfl rfl (by decide) ?_
  exact vi_return C dX7_init_69 rfl (by decide) (by decide) (⟨rfl, rfl, rfl⟩)
