set_option maxRecDepth 100000 in
set_option maxHeartbeats 4000000 in
/-- new SnapCluster -/
theorem m_X11_init {E : vE} {S : vS} {sz : Nat} {x n : Nat} {x1 x2 x3 x4 : Int32} (hk : vK S x = 12) (hx : x < sz) (hn : mxI 3 (mnI 9 x1) = nI n) (hn3 : 3 ≤ n) (hn9 : n ≤ 9) : vi_Met E yX11_init cX11_init 12 none 4 (244 + 14 * n) (8998 + 4762 * n) [.ref (x), .int (x1), .int (x2), .int (x3), .int (x4)] S sz (fun r S1 z1 => r = none ∧ z1 = sz + 244 + 14 * n ∧ CB S1 z1 x sz (mxI 1 (mnI 16 x2)) (mxI 1 (mnI 32 x3)) (mxI 2 (mnI 40 x4)) ∧ SEs S1 sz 16 ∧ REs S1 z1 x sz n n (mxI 1 (mnI 16 x2)) (mxI 1 (mnI 32 x3)) (mxI 2 (mnI 40 x4)) ∧ ag S sz S1 (fun b => b = x)) := by
  refine vi_met (by decide) (Nat.le_of_ble_eq_true rfl) ?_
  intro X C
  refine vi_aload_n C dX11_init_0 rfl rfl ?_
  refine vi_objInit C dX11_init_1 rfl oiX11_3 oi_i oi_c (by decide) (Nat.le_of_ble_eq_true rfl) ?_
  refine vi_iconst (v := 3) C dX11_init_4 rfl (by decide) ?_
  refine vi_bipush (v := 9) C dX11_init_5 rfl (by decide) ?_
  refine vi_iload_n C dX11_init_7 rfl rfl ?_
  refine vi_mmin C dX11_init_8 rfl ivX11_9 mlX11_9 (by decide) (Nat.le_of_ble_eq_true rfl) (by omega) (by omega) ?_
  refine vi_mmax C dX11_init_11 rfl ivX11_15 mlX11_15 (by decide) (Nat.le_of_ble_eq_true rfl) (by omega) (by omega) ?_
  rw [hn]
  refine vi_istore C dX11_init_14 rfl (by decide) ?_
  refine vi_aload_n C dX11_init_16 rfl rfl ?_
  refine vi_iconst (v := 1) C dX11_init_17 rfl (by decide) ?_
  refine vi_bipush (v := 16) C dX11_init_18 rfl (by decide) ?_
  refine vi_iload_n C dX11_init_20 rfl rfl ?_
  refine vi_mmin C dX11_init_21 rfl ivX11_9 mlX11_9 (by decide) (Nat.le_of_ble_eq_true rfl) (by omega) (by omega) ?_
  refine vi_mmax C dX11_init_24 rfl ivX11_15 mlX11_15 (by decide) (Nat.le_of_ble_eq_true rfl) (by omega) (by omega) ?_
  refine vi_puti (i := 1100) C dX11_init_27 rfl fpX11_18 (by first | exact hk | (simp (disch := omega) only [qK_sI, qK_sP, qK_sR, qK_sJ, qK_sQ, qK_nO_s, qK_nO_a, qK_nA_s, qK_nA_a, qN_sI, qN_sP, qN_sR, qN_sJ, qN_sQ, qN_nO, qN_nA_s, qN_nA_a, qI_sI_s, qI_sI_i, qI_sI_a, qI_sP, qI_sR, qI_sJ, qI_sQ, qI_nO_s, qI_nO_a, qI_nA, qP_sI, qP_sP_s, qP_sP_i, qP_sP_a, qP_sR, qP_sJ, qP_sQ, qP_nO_s, qP_nO_a, qP_nA, qR_sI, qR_sP, qR_sR_s, qR_sR_i, qR_sR_a, qR_sJ, qR_sQ, qR_nO, qR_nA_s, qR_nA_a, qJ_sI, qJ_sP, qJ_sR, qJ_sJ_s, qJ_sJ_i, qJ_sJ_a, qJ_sQ, qJ_nO, qJ_nA_s, qJ_nA_a, qQ_sI, qQ_sP, qQ_sR, qQ_sJ, qQ_sQ_s, qQ_sQ_i, qQ_sQ_a, qQ_nO, qQ_nA_s, qQ_nA_a]; exact hk)) rfl rfl (by decide) rfl rfl ?_
  refine vi_aload_n C dX11_init_30 rfl rfl ?_
  refine vi_iconst (v := 1) C dX11_init_31 rfl (by decide) ?_
  refine vi_bipush (v := 32) C dX11_init_32 rfl (by decide) ?_
  refine vi_iload_n C dX11_init_34 rfl rfl ?_
  refine vi_mmin C dX11_init_35 rfl ivX11_9 mlX11_9 (by decide) (Nat.le_of_ble_eq_true rfl) (by omega) (by omega) ?_
  refine vi_mmax C dX11_init_38 rfl ivX11_15 mlX11_15 (by decide) (Nat.le_of_ble_eq_true rfl) (by omega) (by omega) ?_
  refine vi_puti (i := 1101) C dX11_init_41 rfl fpX11_22 (by first | exact hk | (simp (disch := omega) only [qK_sI, qK_sP, qK_sR, qK_sJ, qK_sQ, qK_nO_s, qK_nO_a, qK_nA_s, qK_nA_a, qN_sI, qN_sP, qN_sR, qN_sJ, qN_sQ, qN_nO, qN_nA_s, qN_nA_a, qI_sI_s, qI_sI_i, qI_sI_a, qI_sP, qI_sR, qI_sJ, qI_sQ, qI_nO_s, qI_nO_a, qI_nA, qP_sI, qP_sP_s, qP_sP_i, qP_sP_a, qP_sR, qP_sJ, qP_sQ, qP_nO_s, qP_nO_a, qP_nA, qR_sI, qR_sP, qR_sR_s, qR_sR_i, qR_sR_a, qR_sJ, qR_sQ, qR_nO, qR_nA_s, qR_nA_a, qJ_sI, qJ_sP, qJ_sR, qJ_sJ_s, qJ_sJ_i, qJ_sJ_a, qJ_sQ, qJ_nO, qJ_nA_s, qJ_nA_a, qQ_sI, qQ_sP, qQ_sR, qQ_sJ, qQ_sQ_s, qQ_sQ_i, qQ_sQ_a, qQ_nO, qQ_nA_s, qQ_nA_a]; exact hk)) rfl rfl (by decide) rfl rfl ?_
  refine vi_aload_n C dX11_init_44 rfl rfl ?_
  refine vi_iconst (v := 2) C dX11_init_45 rfl (by decide) ?_
  refine vi_bipush (v := 40) C dX11_init_46 rfl (by decide) ?_
  refine vi_iload C dX11_init_48 rfl rfl ?_
  refine vi_mmin C dX11_init_50 rfl ivX11_9 mlX11_9 (by decide) (Nat.le_of_ble_eq_true rfl) (by omega) (by omega) ?_
  refine vi_mmax C dX11_init_53 rfl ivX11_15 mlX11_15 (by decide) (Nat.le_of_ble_eq_true rfl) (by omega) (by omega) ?_
  refine vi_puti (i := 1102) C dX11_init_56 rfl fpX11_25 (by first | exact hk | (simp (disch := omega) only [qK_sI, qK_sP, qK_sR, qK_sJ, qK_sQ, qK_nO_s, qK_nO_a, qK_nA_s, qK_nA_a, qN_sI, qN_sP, qN_sR, qN_sJ, qN_sQ, qN_nO, qN_nA_s, qN_nA_a, qI_sI_s, qI_sI_i, qI_sI_a, qI_sP, qI_sR, qI_sJ, qI_sQ, qI_nO_s, qI_nO_a, qI_nA, qP_sI, qP_sP_s, qP_sP_i, qP_sP_a, qP_sR, qP_sJ, qP_sQ, qP_nO_s, qP_nO_a, qP_nA, qR_sI, qR_sP, qR_sR_s, qR_sR_i, qR_sR_a, qR_sJ, qR_sQ, qR_nO, qR_nA_s, qR_nA_a, qJ_sI, qJ_sP, qJ_sR, qJ_sJ_s, qJ_sJ_i, qJ_sJ_a, qJ_sQ, qJ_nO, qJ_nA_s, qJ_nA_a, qQ_sI, qQ_sP, qQ_sR, qQ_sJ, qQ_sQ_s, qQ_sQ_i, qQ_sQ_a, qQ_nO, qQ_nA_s, qQ_nA_a]; exact hk)) rfl rfl (by decide) rfl rfl ?_
  have hk0 : vK (sI (sI (sI S 1100 (x) ((mxI ((1 : Int32)) ((mnI ((16 : Int32)) (x2)))))) 1101 (x) ((mxI ((1 : Int32)) ((mnI ((32 : Int32)) (x3)))))) 1102 (x) ((mxI ((2 : Int32)) ((mnI ((40 : Int32)) (x4)))))) x = 12 := by simp (disch := omega) only [qK_sI, qK_sP, qK_sR, qK_sJ, qK_sQ, qK_nO_s, qK_nO_a, qK_nA_s, qK_nA_a, qN_sI, qN_sP, qN_sR, qN_sJ, qN_sQ, qN_nO, qN_nA_s, qN_nA_a, qI_sI_s, qI_sI_i, qI_sI_a, qI_sP, qI_sR, qI_sJ, qI_sQ, qI_nO_s, qI_nO_a, qI_nA, qP_sI, qP_sP_s, qP_sP_i, qP_sP_a, qP_sR, qP_sJ, qP_sQ, qP_nO_s, qP_nO_a, qP_nA, qR_sI, qR_sP, qR_sR_s, qR_sR_i, qR_sR_a, qR_sJ, qR_sQ, qR_nO, qR_nA_s, qR_nA_a, qJ_sI, qJ_sP, qJ_sR, qJ_sJ_s, qJ_sJ_i, qJ_sJ_a, qJ_sQ, qJ_nO, qJ_nA_s, qJ_nA_a, qQ_sI, qQ_sP, qQ_sR, qQ_sJ, qQ_sQ_s, qQ_sQ_i, qQ_sQ_a, qQ_nO, qQ_nA_s, qQ_nA_a]; exact hk
  have h00 : vI (sI (sI (sI S 1100 (x) ((mxI ((1 : Int32)) ((mnI ((16 : Int32)) (x2)))))) 1101 (x) ((mxI ((1 : Int32)) ((mnI ((32 : Int32)) (x3)))))) 1102 (x) ((mxI ((2 : Int32)) ((mnI ((40 : Int32)) (x4)))))) 1100 x = (mxI 1 (mnI 16 x2)) := by simp (disch := omega) only [qK_sI, qK_sP, qK_sR, qK_sJ, qK_sQ, qK_nO_s, qK_nO_a, qK_nA_s, qK_nA_a, qN_sI, qN_sP, qN_sR, qN_sJ, qN_sQ, qN_nO, qN_nA_s, qN_nA_a, qI_sI_s, qI_sI_i, qI_sI_a, qI_sP, qI_sR, qI_sJ, qI_sQ, qI_nO_s, qI_nO_a, qI_nA, qP_sI, qP_sP_s, qP_sP_i, qP_sP_a, qP_sR, qP_sJ, qP_sQ, qP_nO_s, qP_nO_a, qP_nA, qR_sI, qR_sP, qR_sR_s, qR_sR_i, qR_sR_a, qR_sJ, qR_sQ, qR_nO, qR_nA_s, qR_nA_a, qJ_sI, qJ_sP, qJ_sR, qJ_sJ_s, qJ_sJ_i, qJ_sJ_a, qJ_sQ, qJ_nO, qJ_nA_s, qJ_nA_a, qQ_sI, qQ_sP, qQ_sR, qQ_sJ, qQ_sQ_s, qQ_sQ_i, qQ_sQ_a, qQ_nO, qQ_nA_s, qQ_nA_a]
  have h01 : vI (sI (sI (sI S 1100 (x) ((mxI ((1 : Int32)) ((mnI ((16 : Int32)) (x2)))))) 1101 (x) ((mxI ((1 : Int32)) ((mnI ((32 : Int32)) (x3)))))) 1102 (x) ((mxI ((2 : Int32)) ((mnI ((40 : Int32)) (x4)))))) 1101 x = (mxI 1 (mnI 32 x3)) := by simp (disch := omega) only [qK_sI, qK_sP, qK_sR, qK_sJ, qK_sQ, qK_nO_s, qK_nO_a, qK_nA_s, qK_nA_a, qN_sI, qN_sP, qN_sR, qN_sJ, qN_sQ, qN_nO, qN_nA_s, qN_nA_a, qI_sI_s, qI_sI_i, qI_sI_a, qI_sP, qI_sR, qI_sJ, qI_sQ, qI_nO_s, qI_nO_a, qI_nA, qP_sI, qP_sP_s, qP_sP_i, qP_sP_a, qP_sR, qP_sJ, qP_sQ, qP_nO_s, qP_nO_a, qP_nA, qR_sI, qR_sP, qR_sR_s, qR_sR_i, qR_sR_a, qR_sJ, qR_sQ, qR_nO, qR_nA_s, qR_nA_a, qJ_sI, qJ_sP, qJ_sR, qJ_sJ_s, qJ_sJ_i, qJ_sJ_a, qJ_sQ, qJ_nO, qJ_nA_s, qJ_nA_a, qQ_sI, qQ_sP, qQ_sR, qQ_sJ, qQ_sQ_s, qQ_sQ_i, qQ_sQ_a, qQ_nO, qQ_nA_s, qQ_nA_a]
  have h02 : vI (sI (sI (sI S 1100 (x) ((mxI ((1 : Int32)) ((mnI ((16 : Int32)) (x2)))))) 1101 (x) ((mxI ((1 : Int32)) ((mnI ((32 : Int32)) (x3)))))) 1102 (x) ((mxI ((2 : Int32)) ((mnI ((40 : Int32)) (x4)))))) 1102 x = (mxI 2 (mnI 40 x4)) := by simp (disch := omega) only [qK_sI, qK_sP, qK_sR, qK_sJ, qK_sQ, qK_nO_s, qK_nO_a, qK_nA_s, qK_nA_a, qN_sI, qN_sP, qN_sR, qN_sJ, qN_sQ, qN_nO, qN_nA_s, qN_nA_a, qI_sI_s, qI_sI_i, qI_sI_a, qI_sP, qI_sR, qI_sJ, qI_sQ, qI_nO_s, qI_nO_a, qI_nA, qP_sI, qP_sP_s, qP_sP_i, qP_sP_a, qP_sR, qP_sJ, qP_sQ, qP_nO_s, qP_nO_a, qP_nA, qR_sI, qR_sP, qR_sR_s, qR_sR_i, qR_sR_a, qR_sJ, qR_sQ, qR_nO, qR_nA_s, qR_nA_a, qJ_sI, qJ_sP, qJ_sR, qJ_sJ_s, qJ_sJ_i, qJ_sJ_a, qJ_sQ, qJ_nO, qJ_nA_s, qJ_nA_a, qQ_sI, qQ_sP, qQ_sR, qQ_sJ, qQ_sQ_s, qQ_sQ_i, qQ_sQ_a, qQ_nO, qQ_nA_s, qQ_nA_a]
  have e0 : ag S sz (sI (sI (sI S 1100 (x) ((mxI ((1 : Int32)) ((mnI ((16 : Int32)) (x2)))))) 1101 (x) ((mxI ((1 : Int32)) ((mnI ((32 : Int32)) (x3)))))) 1102 (x) ((mxI ((2 : Int32)) ((mnI ((40 : Int32)) (x4)))))) (fun b => b = x) := ag.mo (ag.tr (ag.tr (ag.sI (sz := sz)) (ag.sI (sz := sz)) (Nat.le_refl _)) (ag.sI (sz := sz)) (Nat.le_refl _)) (Nat.le_refl _) (fun b hb q => by (try simp only [false_or, or_false] at q); omega)
  generalize (sI (sI (sI S 1100 (x) ((mxI ((1 : Int32)) ((mnI ((16 : Int32)) (x2)))))) 1101 (x) ((mxI ((1 : Int32)) ((mnI ((32 : Int32)) (x3)))))) 1102 (x) ((mxI ((2 : Int32)) ((mnI ((40 : Int32)) (x4)))))) = T0 at hk0 h00 h01 h02 e0 ⊢
  refine vi_aload_n C dX11_init_59 rfl rfl ?_
  refine vi_new C dX11_init_60 rfl nlX11_28 (by omega) (by omega) ?_
  refine vi_dup C dX11_init_63 rfl rfl ?_
  refine vi_sipush (v := 2048) C dX11_init_64 rfl (by decide) ?_
  refine vi_callI C [.int ((2048 : Int32))] [.ref (sz), .ref (x)] dX11_init_67 rfl ivX11_30 iiX0_init (m_X0_init (N := 2048) (qK_nO_s _ _ _) (by omega) (qI_nO_s _ _ _ _) (qI_nO_s _ _ _ _) (by decide)) rfl (Nat.le_of_ble_eq_true rfl) ⟨by decide, by decide⟩ ⟨by omega, by omega⟩ (fun r67 T1 z67 hq67 => ?_)
  obtain ⟨rfl, hzz, B1, g1⟩ := hq67
  obtain rfl : z67 = sz + 2 := by omega
  have e1 : ag T0 sz T1 (fun _ => False) := (ag.nO.tr (A := fun _ => False) g1 (by omega)).mo (Nat.le_refl _) (fun b hb q => q.elim id (fun q => by omega))
  have hk1 : vK T1 x = 12 := (e1 x (by omega)).1.trans hk0
  refine vi_putp (i := 1106) (o := some (sz)) C dX11_init_70 rfl fpX11_33 hk1 rfl rfl (by decide) ?_
  refine vi_aload_n C dX11_init_73 rfl rfl ?_
  refine vi_new C dX11_init_74 rfl nlX11_37 (by omega) (by omega) ?_
  refine vi_dup C dX11_init_77 rfl rfl ?_
  refine vi_callI C [] [.ref ((sz + 2)), .ref (x)] dX11_init_78 rfl ivX11_39 iiX3_init (m_X3_init (qK_nO_s _ _ _) (by omega) (fun i => qI_nO_s _ _ _ _)) rfl (Nat.le_of_ble_eq_true rfl) ⟨by decide, by decide⟩ ⟨by omega, by omega⟩ (fun r78 T2 z78 hq78 => ?_)
  obtain ⟨rfl, hzz2, N2, g2⟩ := hq78
  obtain rfl : z78 = sz + 206 := by omega
  have e2 : ag (sP T1 1106 x (some sz)) (sz + 2) T2 (fun _ => False) := (ag.nO.tr (A := fun _ => False) g2 (by omega)).mo (Nat.le_refl _) (fun b hb q => q.elim id (fun q => by omega))
  have hk2 : vK T2 x = 12 := (e2 x (by omega)).1.trans ((qK_sP _ _ _ _ _).trans hk1)
  refine vi_putp (i := 1105) (o := some ((sz + 2))) C dX11_init_81 rfl fpX11_40 (by first | exact hk2 | (simp (disch := omega) only [qK_sI, qK_sP, qK_sR, qK_sJ, qK_sQ, qK_nO_s, qK_nO_a, qK_nA_s, qK_nA_a, qN_sI, qN_sP, qN_sR, qN_sJ, qN_sQ, qN_nO, qN_nA_s, qN_nA_a, qI_sI_s, qI_sI_i, qI_sI_a, qI_sP, qI_sR, qI_sJ, qI_sQ, qI_nO_s, qI_nO_a, qI_nA, qP_sI, qP_sP_s, qP_sP_i, qP_sP_a, qP_sR, qP_sJ, qP_sQ, qP_nO_s, qP_nO_a, qP_nA, qR_sI, qR_sP, qR_sR_s, qR_sR_i, qR_sR_a, qR_sJ, qR_sQ, qR_nO, qR_nA_s, qR_nA_a, qJ_sI, qJ_sP, qJ_sR, qJ_sJ_s, qJ_sJ_i, qJ_sJ_a, qJ_sQ, qJ_nO, qJ_nA_s, qJ_nA_a, qQ_sI, qQ_sP, qQ_sR, qQ_sJ, qQ_sQ_s, qQ_sQ_i, qQ_sQ_a, qQ_nO, qQ_nA_s, qQ_nA_a]; exact hk2)) rfl rfl (by decide) ?_
  refine vi_aload_n C dX11_init_84 rfl rfl ?_
  refine vi_bipush (v := 16) C dX11_init_85 rfl (by decide) ?_
  refine vi_anewarray (κ := 27) (N := 16) C dX11_init_87 rfl clX11_44 ao_27 rfl (by decide) (by decide) (by decide) rfl (by decide) (by omega) (by omega) ?_
  refine vi_putp (i := 1104) (o := some ((sz + 206))) C dX11_init_90 rfl fpX11_46 (by first | exact hk2 | (simp (disch := omega) only [qK_sI, qK_sP, qK_sR, qK_sJ, qK_sQ, qK_nO_s, qK_nO_a, qK_nA_s, qK_nA_a, qN_sI, qN_sP, qN_sR, qN_sJ, qN_sQ, qN_nO, qN_nA_s, qN_nA_a, qI_sI_s, qI_sI_i, qI_sI_a, qI_sP, qI_sR, qI_sJ, qI_sQ, qI_nO_s, qI_nO_a, qI_nA, qP_sI, qP_sP_s, qP_sP_i, qP_sP_a, qP_sR, qP_sJ, qP_sQ, qP_nO_s, qP_nO_a, qP_nA, qR_sI, qR_sP, qR_sR_s, qR_sR_i, qR_sR_a, qR_sJ, qR_sQ, qR_nO, qR_nA_s, qR_nA_a, qJ_sI, qJ_sP, qJ_sR, qJ_sJ_s, qJ_sJ_i, qJ_sJ_a, qJ_sQ, qJ_nO, qJ_nA_s, qJ_nA_a, qQ_sI, qQ_sP, qQ_sR, qQ_sJ, qQ_sQ_s, qQ_sQ_i, qQ_sQ_a, qQ_nO, qQ_nA_s, qQ_nA_a]; exact hk2)) rfl rfl (by decide) ?_
  refine vi_iconst (v := 0) C dX11_init_93 rfl (by decide) ?_
  refine vi_istore C dX11_init_94 rfl (by decide) ?_
  have e3 : ag T2 (sz + 206) (sP (nA (sP T2 1105 x (some (sz + 2))) (sz + 206) 27 16) 1104 x (some (sz + 206))) (fun b => b = x) := ag.mo (ag.tr (ag.tr (ag.sP (sz := (sz + 206))) (ag.mo (ag.nA (A := fun _ => False)) (show (sz + 206) ≤ (sz + 206) by omega) (fun _ _ q => q)) (Nat.le_refl _)) (ag.sP (sz := (sz + 206))) (Nat.le_refl _)) (Nat.le_refl _) (fun b hb q => by (try simp only [false_or, or_false] at q); omega)
  have e1s : ag T1 (sz + 2) (sP T1 1106 x (some sz)) (fun b => b = x) := ag.sP
  have cl : CL0 (sP (nA (sP T2 1105 x (some (sz + 2))) (sz + 206) 27 16) 1104 x (some (sz + 206))) x sz (mxI 1 (mnI 16 x2)) (mxI 1 (mnI 32 x3)) (mxI 2 (mnI 40 x4)) := by
    obtain ⟨k2, -, r2⟩ := e2 x (by omega)
    obtain ⟨i2, p2, -⟩ := r2 id
    obtain ⟨k1, -, r1⟩ := e1 x (by omega)
    obtain ⟨i1, p1, -⟩ := r1 id
    refine ⟨?_, ?_, ?_, ?_, ?_, ?_, ?_⟩ <;> simp (disch := omega) only [qK_sI, qK_sP, qK_sR, qK_sJ, qK_sQ, qK_nO_s, qK_nO_a, qK_nA_s, qK_nA_a, qN_sI, qN_sP, qN_sR, qN_sJ, qN_sQ, qN_nO, qN_nA_s, qN_nA_a, qI_sI_s, qI_sI_i, qI_sI_a, qI_sP, qI_sR, qI_sJ, qI_sQ, qI_nO_s, qI_nO_a, qI_nA, qP_sI, qP_sP_s, qP_sP_i, qP_sP_a, qP_sR, qP_sJ, qP_sQ, qP_nO_s, qP_nO_a, qP_nA, qR_sI, qR_sP, qR_sR_s, qR_sR_i, qR_sR_a, qR_sJ, qR_sQ, qR_nO, qR_nA_s, qR_nA_a, qJ_sI, qJ_sP, qJ_sR, qJ_sJ_s, qJ_sJ_i, qJ_sJ_a, qJ_sQ, qJ_nO, qJ_nA_s, qJ_nA_a, qQ_sI, qQ_sP, qQ_sR, qQ_sJ, qQ_sQ_s, qQ_sQ_i, qQ_sQ_a, qQ_nO, qQ_nA_s, qQ_nA_a]
    · exact k2.trans ((qK_sP _ _ _ _ _).trans (k1.trans hk0))
    · exact (i2 _).trans ((qI_sP _ _ _ _ _ _).trans ((i1 _).trans h00))
    · exact (i2 _).trans ((qI_sP _ _ _ _ _ _).trans ((i1 _).trans h01))
    · exact (i2 _).trans ((qI_sP _ _ _ _ _ _).trans ((i1 _).trans h02))
    · exact (p2 _).trans (qP_sP_s _ _ _ _)
  have cb : CB (sP (nA (sP T2 1105 x (some (sz + 2))) (sz + 206) 27 16) 1104 x (some (sz + 206))) (sz + 207) x sz (mxI 1 (mnI 16 x2)) (mxI 1 (mnI 32 x3)) (mxI 2 (mnI 40 x4)) := by
    refine ⟨cl, ((B1.fr e1s (Nat.le_refl _) (by omega) (by omega)).fr e2 (show sz + 2 ≤ sz + 206 by omega) id id).fr e3 (show sz + 206 ≤ sz + 207 by omega) (by omega) (by omega), N2.fr e3 (by omega) (by omega) (by omega) (fun j hj => by omega), ?_, ?_⟩ <;> simp (disch := omega) only [qK_sI, qK_sP, qK_sR, qK_sJ, qK_sQ, qK_nO_s, qK_nO_a, qK_nA_s, qK_nA_a, qN_sI, qN_sP, qN_sR, qN_sJ, qN_sQ, qN_nO, qN_nA_s, qN_nA_a, qI_sI_s, qI_sI_i, qI_sI_a, qI_sP, qI_sR, qI_sJ, qI_sQ, qI_nO_s, qI_nO_a, qI_nA, qP_sI, qP_sP_s, qP_sP_i, qP_sP_a, qP_sR, qP_sJ, qP_sQ, qP_nO_s, qP_nO_a, qP_nA, qR_sI, qR_sP, qR_sR_s, qR_sR_i, qR_sR_a, qR_sJ, qR_sQ, qR_nO, qR_nA_s, qR_nA_a, qJ_sI, qJ_sP, qJ_sR, qJ_sJ_s, qJ_sJ_i, qJ_sJ_a, qJ_sQ, qJ_nO, qJ_nA_s, qJ_nA_a, qQ_sI, qQ_sP, qQ_sR, qQ_sJ, qQ_sQ_s, qQ_sQ_i, qQ_sQ_a, qQ_nO, qQ_nA_s, qQ_nA_a]
  have se : ag S sz (sP (nA (sP T2 1105 x (some (sz + 2))) (sz + 206) 27 16) 1104 x (some (sz + 206))) (fun b => b = x) := ((((e0.tr e1 (Nat.le_refl _)).tr e1s (by omega)).tr e2 (by omega)).tr e3 (by omega)).mo (Nat.le_refl _) (fun b hb q => by
    rcases q with (((q | q) | q) | q) | q
    · exact q
    · exact q.elim
    · exact q
    · exact q.elim
    · exact q)
  refine vi_cut [(0, .ref x), (5, .int (nI n)), (6, .int (nI 0))] ⟨rfl, rfl, rfl, trivial⟩ ?_
  refine vi_widen (k' := 207 + 2 * 0) (n' := 4496 + 25 * 0) (by omega) (by omega) ?_
  exact m_X11_init_l1 (x1 := x1) hx hn3 hn9 X C 16 0 (sz + 207) _ (by omega) (by omega) cb (fun q hq => absurd hq (Nat.not_lt_zero _)) se

