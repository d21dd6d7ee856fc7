set_option maxRecDepth 100000 in
set_option maxHeartbeats 8000000 in
/-- the loop over the replicas -/
theorem m_X11_init_l2 {E : vE} {S : vS} {sz : Nat} {x n : Nat} {x1 x2 x3 x4 : Int32} (hx : x < sz) (hn3 : 3 ≤ n) (hn9 : n ≤ 9) (X : vX) (C : vi_C E X yX11_init cX11_init 12 none 4 (244 + 14 * n) (8998 + 4762 * n) (45 * 4)) : ∀ (m i zt : Nat) (T : vS), i + m = n → zt = sz + 244 + 14 * i → CB T zt x sz (mxI 1 (mnI 16 x2)) (mxI 1 (mnI 32 x3)) (mxI 2 (mnI 40 x4)) → SEs T sz 16 → REs T zt x sz n i (mxI 1 (mnI 16 x2)) (mxI 1 (mnI 32 x3)) (mxI 2 (mnI 40 x4)) → ag S sz T (fun b => b = x) → vi_W E X 12 (vi_Z E X (fun r S1 z1 => r = none ∧ z1 = sz + 244 + 14 * n ∧ CB S1 z1 x sz (mxI 1 (mnI 16 x2)) (mxI 1 (mnI 32 x3)) (mxI 2 (mnI 40 x4)) ∧ SEs S1 sz 16 ∧ REs S1 z1 x sz n n (mxI 1 (mnI 16 x2)) (mxI 1 (mnI 32 x3)) (mxI 2 (mnI 40 x4)) ∧ ag S sz S1 (fun b => b = x)) (244 + 14 * n) (8998 + 4762 * n)) 159 [(0, .ref x), (5, .int (nI n)), (6, .ref (sz + 239)), (7, .ref (sz + 241)), (8, .int (nI i))] [] T zt (244 + 14 * i) (8998 + n + 4761 * i) := by
  intro m
  induction m with
  | zero =>
    intro i zt T hi hzt cb ss rr e0
    refine vi_iload C dX11_init_159 rfl rfl ?_
    refine vi_iload C dX11_init_161 rfl rfl ?_
    refine vi_icmp_ge (t' := 245) C dX11_init_163 rfl (by decide) (fun hc163 => ?_) (fun hc163 => ?_)
    · exact vi_return C dX11_init_245 rfl (by omega) (by omega) (by
          have h8 : i = n := by omega
          subst h8
          exact ⟨rfl, hzt, cb, ss, rr, e0⟩)
    · exact absurd (nI_le (a := n) (b := i) (by omega) (by omega)) hc163
  | succ m ih =>
    intro i zt T hi hzt cb ss rr e0
    obtain ⟨rp1, rp2, rp3, rp4, ⟨l, y, Bi⟩, rq⟩ := id rr
    refine vi_iload C dX11_init_159 rfl rfl ?_
    refine vi_iload C dX11_init_161 rfl rfl ?_
    refine vi_icmp_ge (t' := 245) C dX11_init_163 rfl (by decide) (fun hc163 => ?_) (fun hc163 => ?_)
    · exact absurd hc163 (nI_ge (a := i) (b := n) (by omega) (by omega))
    · refine vi_new C dX11_init_166 rfl nlX11_57 (by omega) (by omega) ?_
      refine vi_dup C dX11_init_169 rfl rfl ?_
      refine vi_aload_n C dX11_init_170 rfl rfl ?_
      refine vi_geti (i := 1100) C dX11_init_171 rfl fX11_18 (by first | exact cb.1.1 | (simp (disch := omega) only [qK_sI, qK_sP, qK_sR, qK_sJ, qK_sQ, qK_nO_s, qK_nO_a, qK_nA_s, qK_nA_a, qN_sI, qN_sP, qN_sR, qN_sJ, qN_sQ, qN_nO, qN_nA_s, qN_nA_a, qI_sI_s, qI_sI_i, qI_sI_a, qI_sP, qI_sR, qI_sJ, qI_sQ, qI_nO_s, qI_nO_a, qI_nA, qP_sI, qP_sP_s, qP_sP_i, qP_sP_a, qP_sR, qP_sJ, qP_sQ, qP_nO_s, qP_nO_a, qP_nA, qR_sI, qR_sP, qR_sR_s, qR_sR_i, qR_sR_a, qR_sJ, qR_sQ, qR_nO, qR_nA_s, qR_nA_a, qJ_sI, qJ_sP, qJ_sR, qJ_sJ_s, qJ_sJ_i, qJ_sJ_a, qJ_sQ, qJ_nO, qJ_nA_s, qJ_nA_a, qQ_sI, qQ_sP, qQ_sR, qQ_sJ, qQ_sQ_s, qQ_sQ_i, qQ_sQ_a, qQ_nO, qQ_nA_s, qQ_nA_a] <;> exact cb.1.1)) rfl rfl ?_
      refine vi_aload_n C dX11_init_174 rfl rfl ?_
      refine vi_geti (i := 1101) C dX11_init_175 rfl fX11_22 (by first | exact cb.1.1 | (simp (disch := omega) only [qK_sI, qK_sP, qK_sR, qK_sJ, qK_sQ, qK_nO_s, qK_nO_a, qK_nA_s, qK_nA_a, qN_sI, qN_sP, qN_sR, qN_sJ, qN_sQ, qN_nO, qN_nA_s, qN_nA_a, qI_sI_s, qI_sI_i, qI_sI_a, qI_sP, qI_sR, qI_sJ, qI_sQ, qI_nO_s, qI_nO_a, qI_nA, qP_sI, qP_sP_s, qP_sP_i, qP_sP_a, qP_sR, qP_sJ, qP_sQ, qP_nO_s, qP_nO_a, qP_nA, qR_sI, qR_sP, qR_sR_s, qR_sR_i, qR_sR_a, qR_sJ, qR_sQ, qR_nO, qR_nA_s, qR_nA_a, qJ_sI, qJ_sP, qJ_sR, qJ_sJ_s, qJ_sJ_i, qJ_sJ_a, qJ_sQ, qJ_nO, qJ_nA_s, qJ_nA_a, qQ_sI, qQ_sP, qQ_sR, qQ_sJ, qQ_sQ_s, qQ_sQ_i, qQ_sQ_a, qQ_nO, qQ_nA_s, qQ_nA_a] <;> exact cb.1.1)) rfl rfl ?_
      have hv1 : vI (nO T zt 10) 1100 x = (mxI 1 (mnI 16 x2)) := by simp (disch := omega) only [qK_sI, qK_sP, qK_sR, qK_sJ, qK_sQ, qK_nO_s, qK_nO_a, qK_nA_s, qK_nA_a, qN_sI, qN_sP, qN_sR, qN_sJ, qN_sQ, qN_nO, qN_nA_s, qN_nA_a, qI_sI_s, qI_sI_i, qI_sI_a, qI_sP, qI_sR, qI_sJ, qI_sQ, qI_nO_s, qI_nO_a, qI_nA, qP_sI, qP_sP_s, qP_sP_i, qP_sP_a, qP_sR, qP_sJ, qP_sQ, qP_nO_s, qP_nO_a, qP_nA, qR_sI, qR_sP, qR_sR_s, qR_sR_i, qR_sR_a, qR_sJ, qR_sQ, qR_nO, qR_nA_s, qR_nA_a, qJ_sI, qJ_sP, qJ_sR, qJ_sJ_s, qJ_sJ_i, qJ_sJ_a, qJ_sQ, qJ_nO, qJ_nA_s, qJ_nA_a, qQ_sI, qQ_sP, qQ_sR, qQ_sJ, qQ_sQ_s, qQ_sQ_i, qQ_sQ_a, qQ_nO, qQ_nA_s, qQ_nA_a]; exact cb.1.2.1
      have hv2 : vI (nO T zt 10) 1101 x = (mxI 1 (mnI 32 x3)) := by simp (disch := omega) only [qK_sI, qK_sP, qK_sR, qK_sJ, qK_sQ, qK_nO_s, qK_nO_a, qK_nA_s, qK_nA_a, qN_sI, qN_sP, qN_sR, qN_sJ, qN_sQ, qN_nO, qN_nA_s, qN_nA_a, qI_sI_s, qI_sI_i, qI_sI_a, qI_sP, qI_sR, qI_sJ, qI_sQ, qI_nO_s, qI_nO_a, qI_nA, qP_sI, qP_sP_s, qP_sP_i, qP_sP_a, qP_sR, qP_sJ, qP_sQ, qP_nO_s, qP_nO_a, qP_nA, qR_sI, qR_sP, qR_sR_s, qR_sR_i, qR_sR_a, qR_sJ, qR_sQ, qR_nO, qR_nA_s, qR_nA_a, qJ_sI, qJ_sP, qJ_sR, qJ_sJ_s, qJ_sJ_i, qJ_sJ_a, qJ_sQ, qJ_nO, qJ_nA_s, qJ_nA_a, qQ_sI, qQ_sP, qQ_sR, qQ_sJ, qQ_sQ_s, qQ_sQ_i, qQ_sQ_a, qQ_nO, qQ_nA_s, qQ_nA_a]; exact cb.1.2.2.1
      rw [hv1, hv2]
      refine vi_callI C [.int ((mxI 1 (mnI 16 x2))), .int ((mxI 1 (mnI 32 x3)))] [.ref (zt)] dX11_init_178 rfl ivX11_59 iiX10_init (m_X10_init (qK_nO_s _ _ _) (by omega)) rfl (Nat.le_of_ble_eq_true rfl) ⟨by decide, by decide⟩ ⟨by omega, by omega⟩ (fun r178 S178 z178 hq178 => ?_)
      obtain ⟨rfl, rfl, rfl⟩ := hq178
      refine vi_astore C dX11_init_181 rfl (by decide) ?_
      have ST : ST0 (sI (sI (sP (nA (sP (nA (sP (nA (sP (nA (sP (nA (nO T zt 10) (zt + 1) 21 16) 1002 (zt) (some ((zt + 1)))) ((zt + 1) + 1) 21 16) 1003 (zt) (some (((zt + 1) + 1)))) (((zt + 1) + 1) + 1) 21 16) 1004 (zt) (some ((((zt + 1) + 1) + 1)))) ((((zt + 1) + 1) + 1) + 1) 21 272) 1005 (zt) (some (((((zt + 1) + 1) + 1) + 1)))) (((((zt + 1) + 1) + 1) + 1) + 1) 26 32) 1006 (zt) (some ((((((zt + 1) + 1) + 1) + 1) + 1)))) 1000 (zt) ((mxI 1 (mnI 16 x2)))) 1001 (zt) ((mxI 1 (mnI 32 x3)))) zt (mxI 1 (mnI 16 x2)) (mxI 1 (mnI 32 x3)) := ST0_new
      have e1 : ag T zt (sI (sI (sP (nA (sP (nA (sP (nA (sP (nA (sP (nA (nO T zt 10) (zt + 1) 21 16) 1002 (zt) (some ((zt + 1)))) ((zt + 1) + 1) 21 16) 1003 (zt) (some (((zt + 1) + 1)))) (((zt + 1) + 1) + 1) 21 16) 1004 (zt) (some ((((zt + 1) + 1) + 1)))) ((((zt + 1) + 1) + 1) + 1) 21 272) 1005 (zt) (some (((((zt + 1) + 1) + 1) + 1)))) (((((zt + 1) + 1) + 1) + 1) + 1) 26 32) 1006 (zt) (some ((((((zt + 1) + 1) + 1) + 1) + 1)))) 1000 (zt) ((mxI 1 (mnI 16 x2)))) 1001 (zt) ((mxI 1 (mnI 32 x3)))) (fun _ => False) := ST0_nag
      generalize (sI (sI (sP (nA (sP (nA (sP (nA (sP (nA (sP (nA (nO T zt 10) (zt + 1) 21 16) 1002 (zt) (some ((zt + 1)))) ((zt + 1) + 1) 21 16) 1003 (zt) (some (((zt + 1) + 1)))) (((zt + 1) + 1) + 1) 21 16) 1004 (zt) (some ((((zt + 1) + 1) + 1)))) ((((zt + 1) + 1) + 1) + 1) 21 272) 1005 (zt) (some (((((zt + 1) + 1) + 1) + 1)))) (((((zt + 1) + 1) + 1) + 1) + 1) 26 32) 1006 (zt) (some ((((((zt + 1) + 1) + 1) + 1) + 1)))) 1000 (zt) ((mxI 1 (mnI 16 x2)))) 1001 (zt) ((mxI 1 (mnI 32 x3)))) = T1 at ST e1 ⊢
      refine vi_new C dX11_init_183 rfl nlX11_62 (by omega) (by omega) ?_
      refine vi_dup C dX11_init_186 rfl rfl ?_
      refine vi_aload C dX11_init_187 rfl rfl ?_
      have e2 : ag T1 (zt + 6) (nO T1 (zt + 6) 2) (fun _ => False) := ag.nO
      have Bi2 := (Bi.fr e1 (show zt ≤ zt + 6 by omega) id id).fr e2 (show zt + 6 ≤ zt + 6 + 1 by omega) id id
      refine vi_callI C [.ref (sz + 241)] [.ref ((zt + 6))] dX11_init_189 rfl ivX11_64 iiX2_init (m_X2_init (N := 2048) (qK_nO_s _ _ _) (by omega) (fun i => qI_nO_s _ _ _ _) Bi2 (by decide) (by omega)) rfl (Nat.le_of_ble_eq_true rfl) ⟨by decide, by decide⟩ ⟨by omega, by omega⟩ (fun r189 T3 z189 hq189 => ?_)
      obtain ⟨rfl, rfl, J3, D3, B3, V3, g3⟩ := hq189
      have cb3 := ((cb.fr e1 (show zt ≤ zt + 6 by omega) ⟨by omega, id⟩ (by omega) (fun _ _ => id)).fr e2 (show zt + 6 ≤ zt + 6 + 1 by omega) ⟨by omega, id⟩ (by omega) (fun _ _ => id)).fr g3 (show zt + 6 + 1 ≤ zt + 8 by omega) ⟨by omega, by omega⟩ (by omega) (fun d hd => by omega)
      have e03 : ag T zt T3 (fun b => b = sz + 241 ∨ b = sz + 242) := ((e1.tr e2 (by omega)).tr g3 (by omega)).mo (Nat.le_refl _) (fun b hb q => by
        rcases q with (q | q) | (q | q)
        · exact q.elim
        · exact q.elim
        · omega
        · exact q)
      have hp3 : vP T3 1103 x = some (sz + 243) := ((((e03 x (by omega)).2.2 (by omega)).2.1 1103).trans rp1)
      have hk3 : vK T3 (sz + 243) = 25 := (e03 _ (by omega)).1.trans rp2
      have hn3 : vN T3 (sz + 243) = n := (e03 _ (by omega)).2.1.trans rp3
      have hx3 := cb3.1.1
      have hx31 := cb3.1.2.2.2.2.2.1
      have hx32 := cb3.1.2.2.2.2.1
      refine vi_astore C dX11_init_192 rfl (by decide) ?_
      refine vi_new C dX11_init_194 rfl nlX11_51 (by omega) (by omega) ?_
      refine vi_dup C dX11_init_197 rfl rfl ?_
      refine vi_iload C dX11_init_198 rfl rfl ?_
      refine vi_iload C dX11_init_200 rfl rfl ?_
      refine vi_aload_n C dX11_init_202 rfl rfl ?_
      refine vi_geti (i := 1102) C dX11_init_203 rfl fX11_25 (by first | exact hx3 | (simp (disch := omega) only [qK_sI, qK_sP, qK_sR, qK_sJ, qK_sQ, qK_nO_s, qK_nO_a, qK_nA_s, qK_nA_a, qN_sI, qN_sP, qN_sR, qN_sJ, qN_sQ, qN_nO, qN_nA_s, qN_nA_a, qI_sI_s, qI_sI_i, qI_sI_a, qI_sP, qI_sR, qI_sJ, qI_sQ, qI_nO_s, qI_nO_a, qI_nA, qP_sI, qP_sP_s, qP_sP_i, qP_sP_a, qP_sR, qP_sJ, qP_sQ, qP_nO_s, qP_nO_a, qP_nA, qR_sI, qR_sP, qR_sR_s, qR_sR_i, qR_sR_a, qR_sJ, qR_sQ, qR_nO, qR_nA_s, qR_nA_a, qJ_sI, qJ_sP, qJ_sR, qJ_sJ_s, qJ_sJ_i, qJ_sJ_a, qJ_sQ, qJ_nO, qJ_nA_s, qJ_nA_a, qQ_sI, qQ_sP, qQ_sR, qQ_sJ, qQ_sQ_s, qQ_sQ_i, qQ_sQ_a, qQ_nO, qQ_nA_s, qQ_nA_a] <;> exact hx3)) rfl rfl ?_
      refine vi_aload C dX11_init_206 rfl rfl ?_
      refine vi_aload C dX11_init_208 rfl rfl ?_
      have hv3 : vI (nO T3 (zt + 8) 7) 1102 x = (mxI 2 (mnI 40 x4)) := by simp (disch := omega) only [qK_sI, qK_sP, qK_sR, qK_sJ, qK_sQ, qK_nO_s, qK_nO_a, qK_nA_s, qK_nA_a, qN_sI, qN_sP, qN_sR, qN_sJ, qN_sQ, qN_nO, qN_nA_s, qN_nA_a, qI_sI_s, qI_sI_i, qI_sI_a, qI_sP, qI_sR, qI_sJ, qI_sQ, qI_nO_s, qI_nO_a, qI_nA, qP_sI, qP_sP_s, qP_sP_i, qP_sP_a, qP_sR, qP_sJ, qP_sQ, qP_nO_s, qP_nO_a, qP_nA, qR_sI, qR_sP, qR_sR_s, qR_sR_i, qR_sR_a, qR_sJ, qR_sQ, qR_nO, qR_nA_s, qR_nA_a, qJ_sI, qJ_sP, qJ_sR, qJ_sJ_s, qJ_sJ_i, qJ_sJ_a, qJ_sQ, qJ_nO, qJ_nA_s, qJ_nA_a, qQ_sI, qQ_sP, qQ_sR, qQ_sJ, qQ_sQ_s, qQ_sQ_i, qQ_sQ_a, qQ_nO, qQ_nA_s, qQ_nA_a]; exact cb3.1.2.2.2.1
      rw [hv3]
      refine vi_callI C [.int (nI i), .int (nI n), .int ((mxI 2 (mnI 40 x4))), .ref (zt), .ref ((zt + 6))] [.ref ((zt + 8))] dX11_init_210 rfl ivX11_67 iiX7_init (m_X7_init (qK_nO_s _ _ _) (by omega)) rfl (Nat.le_of_ble_eq_true rfl) ⟨by decide, by decide⟩ ⟨by omega, by omega⟩ (fun r210 S210 z210 hq210 => ?_)
      obtain ⟨rfl, rfl, rfl⟩ := hq210
      refine vi_astore C dX11_init_213 rfl (by decide) ?_
      refine vi_aload C dX11_init_215 rfl rfl ?_
      refine vi_aload_n C dX11_init_217 rfl rfl ?_
      refine vi_getr (i := 1105) C dX11_init_218 rfl fX11_40 (by first | exact hx3 | (simp (disch := omega) only [qK_sI, qK_sP, qK_sR, qK_sJ, qK_sQ, qK_nO_s, qK_nO_a, qK_nA_s, qK_nA_a, qN_sI, qN_sP, qN_sR, qN_sJ, qN_sQ, qN_nO, qN_nA_s, qN_nA_a, qI_sI_s, qI_sI_i, qI_sI_a, qI_sP, qI_sR, qI_sJ, qI_sQ, qI_nO_s, qI_nO_a, qI_nA, qP_sI, qP_sP_s, qP_sP_i, qP_sP_a, qP_sR, qP_sJ, qP_sQ, qP_nO_s, qP_nO_a, qP_nA, qR_sI, qR_sP, qR_sR_s, qR_sR_i, qR_sR_a, qR_sJ, qR_sQ, qR_nO, qR_nA_s, qR_nA_a, qJ_sI, qJ_sP, qJ_sR, qJ_sJ_s, qJ_sJ_i, qJ_sJ_a, qJ_sQ, qJ_nO, qJ_nA_s, qJ_nA_a, qQ_sI, qQ_sP, qQ_sR, qQ_sJ, qQ_sQ_s, qQ_sQ_i, qQ_sQ_a, qQ_nO, qQ_nA_s, qQ_nA_a] <;> exact hx3)) rfl rfl (by simp (disch := omega) only [qK_sI, qK_sP, qK_sR, qK_sJ, qK_sQ, qK_nO_s, qK_nO_a, qK_nA_s, qK_nA_a, qN_sI, qN_sP, qN_sR, qN_sJ, qN_sQ, qN_nO, qN_nA_s, qN_nA_a, qI_sI_s, qI_sI_i, qI_sI_a, qI_sP, qI_sR, qI_sJ, qI_sQ, qI_nO_s, qI_nO_a, qI_nA, qP_sI, qP_sP_s, qP_sP_i, qP_sP_a, qP_sR, qP_sJ, qP_sQ, qP_nO_s, qP_nO_a, qP_nA, qR_sI, qR_sP, qR_sR_s, qR_sR_i, qR_sR_a, qR_sJ, qR_sQ, qR_nO, qR_nA_s, qR_nA_a, qJ_sI, qJ_sP, qJ_sR, qJ_sJ_s, qJ_sJ_i, qJ_sJ_a, qJ_sQ, qJ_nO, qJ_nA_s, qJ_nA_a, qQ_sI, qQ_sP, qQ_sR, qQ_sJ, qQ_sQ_s, qQ_sQ_i, qQ_sQ_a, qQ_nO, qQ_nA_s, qQ_nA_a]; exact hx31) ?_
      refine vi_aload_n C dX11_init_221 rfl rfl ?_
      refine vi_getr (i := 1104) C dX11_init_222 rfl fX11_46 (by first | exact hx3 | (simp (disch := omega) only [qK_sI, qK_sP, qK_sR, qK_sJ, qK_sQ, qK_nO_s, qK_nO_a, qK_nA_s, qK_nA_a, qN_sI, qN_sP, qN_sR, qN_sJ, qN_sQ, qN_nO, qN_nA_s, qN_nA_a, qI_sI_s, qI_sI_i, qI_sI_a, qI_sP, qI_sR, qI_sJ, qI_sQ, qI_nO_s, qI_nO_a, qI_nA, qP_sI, qP_sP_s, qP_sP_i, qP_sP_a, qP_sR, qP_sJ, qP_sQ, qP_nO_s, qP_nO_a, qP_nA, qR_sI, qR_sP, qR_sR_s, qR_sR_i, qR_sR_a, qR_sJ, qR_sQ, qR_nO, qR_nA_s, qR_nA_a, qJ_sI, qJ_sP, qJ_sR, qJ_sJ_s, qJ_sJ_i, qJ_sJ_a, qJ_sQ, qJ_nO, qJ_nA_s, qJ_nA_a, qQ_sI, qQ_sP, qQ_sR, qQ_sJ, qQ_sQ_s, qQ_sQ_i, qQ_sQ_a, qQ_nO, qQ_nA_s, qQ_nA_a] <;> exact hx3)) rfl rfl (by simp (disch := omega) only [qK_sI, qK_sP, qK_sR, qK_sJ, qK_sQ, qK_nO_s, qK_nO_a, qK_nA_s, qK_nA_a, qN_sI, qN_sP, qN_sR, qN_sJ, qN_sQ, qN_nO, qN_nA_s, qN_nA_a, qI_sI_s, qI_sI_i, qI_sI_a, qI_sP, qI_sR, qI_sJ, qI_sQ, qI_nO_s, qI_nO_a, qI_nA, qP_sI, qP_sP_s, qP_sP_i, qP_sP_a, qP_sR, qP_sJ, qP_sQ, qP_nO_s, qP_nO_a, qP_nA, qR_sI, qR_sP, qR_sR_s, qR_sR_i, qR_sR_a, qR_sJ, qR_sQ, qR_nO, qR_nA_s, qR_nA_a, qJ_sI, qJ_sP, qJ_sR, qJ_sJ_s, qJ_sJ_i, qJ_sJ_a, qJ_sQ, qJ_nO, qJ_nA_s, qJ_nA_a, qQ_sI, qQ_sP, qQ_sR, qQ_sJ, qQ_sQ_s, qQ_sQ_i, qQ_sQ_a, qQ_nO, qQ_nA_s, qQ_nA_a]; exact hx32) ?_
      refine vi_aload C dX11_init_225 rfl rfl ?_
      refine vi_callV (c := 7) C [.ref (sz + 2), .ref (sz + 206), .ref (sz + 239)] [] dX11_init_227 rfl ivX11_70 imX7_connect rfl rfl (by simp (disch := omega) only [qK_sI, qK_sP, qK_sR, qK_sJ, qK_sQ, qK_nO_s, qK_nO_a, qK_nA_s, qK_nA_a, qN_sI, qN_sP, qN_sR, qN_sJ, qN_sQ, qN_nO, qN_nA_s, qN_nA_a, qI_sI_s, qI_sI_i, qI_sI_a, qI_sP, qI_sR, qI_sJ, qI_sQ, qI_nO_s, qI_nO_a, qI_nA, qP_sI, qP_sP_s, qP_sP_i, qP_sP_a, qP_sR, qP_sJ, qP_sQ, qP_nO_s, qP_nO_a, qP_nA, qR_sI, qR_sP, qR_sR_s, qR_sR_i, qR_sR_a, qR_sJ, qR_sQ, qR_nO, qR_nA_s, qR_nA_a, qJ_sI, qJ_sP, qJ_sR, qJ_sJ_s, qJ_sJ_i, qJ_sJ_a, qJ_sQ, qJ_nO, qJ_nA_s, qJ_nA_a, qQ_sI, qQ_sP, qQ_sR, qQ_sJ, qQ_sQ_s, qQ_sQ_i, qQ_sQ_a, qQ_nO, qQ_nA_s, qQ_nA_a]) (m_X7_connect (by simp (disch := omega) only [qK_sI, qK_sP, qK_sR, qK_sJ, qK_sQ, qK_nO_s, qK_nO_a, qK_nA_s, qK_nA_a, qN_sI, qN_sP, qN_sR, qN_sJ, qN_sQ, qN_nO, qN_nA_s, qN_nA_a, qI_sI_s, qI_sI_i, qI_sI_a, qI_sP, qI_sR, qI_sJ, qI_sQ, qI_nO_s, qI_nO_a, qI_nA, qP_sI, qP_sP_s, qP_sP_i, qP_sP_a, qP_sR, qP_sJ, qP_sQ, qP_nO_s, qP_nO_a, qP_nA, qR_sI, qR_sP, qR_sR_s, qR_sR_i, qR_sR_a, qR_sJ, qR_sQ, qR_nO, qR_nA_s, qR_nA_a, qJ_sI, qJ_sP, qJ_sR, qJ_sJ_s, qJ_sJ_i, qJ_sJ_a, qJ_sQ, qJ_nO, qJ_nA_s, qJ_nA_a, qQ_sI, qQ_sP, qQ_sR, qQ_sJ, qQ_sQ_s, qQ_sQ_i, qQ_sQ_a, qQ_nO, qQ_nA_s, qQ_nA_a])) rfl (Nat.le_of_ble_eq_true rfl) ⟨by decide, by decide⟩ ⟨by omega, by omega⟩ (fun r227 S227 z227 hq227 => ?_)
      obtain ⟨rfl, rfl, rfl⟩ := hq227
      have RP : RP0 (sP (sP (sP (sP (sP (sI (sI (sI (sI (sP (sI (nO (sP (sI (sP (nA (nO (sP (sP (nA (nO (nO T3 (zt + 8) 7) ((zt + 8) + 1) 6) (((zt + 8) + 1) + 1) 26 8) 600 (((zt + 8) + 1)) (some ((((zt + 8) + 1) + 1)))) 705 ((zt + 8)) (some (((zt + 8) + 1)))) ((((zt + 8) + 1) + 1) + 1) 5) (((((zt + 8) + 1) + 1) + 1) + 1) 20 256) 500 ((((zt + 8) + 1) + 1 + 1)) (some ((((((zt + 8) + 1) + 1) + 1) + 1)))) 501 ((((zt + 8) + 1) + 1 + 1)) ((-1 : Int32))) 706 ((zt + 8)) (some (((((zt + 8) + 1) + 1) + 1)))) ((((((zt + 8) + 1) + 1) + 1) + 1) + 1) 4) 400 ((((zt + 8) + 1) + 1 + 1 + 1 + 1)) ((0 : Int32))) 707 ((zt + 8)) (some (((((((zt + 8) + 1) + 1) + 1) + 1) + 1)))) 711 ((zt + 8)) ((1 : Int32))) 700 ((zt + 8)) ((nI i))) 701 ((zt + 8)) ((nI n))) 702 ((zt + 8)) ((mxI 2 (mnI 40 x4)))) 703 ((zt + 8)) (some (zt))) 704 ((zt + 8)) (some ((zt + 6)))) 708 ((zt + 8)) (some ((sz + 2)))) 709 ((zt + 8)) (some ((sz + 206)))) 710 ((zt + 8)) (some ((sz + 239)))) (zt + 8) zt (zt + 6) (sz + 2) (sz + 206) (sz + 239) (nI i) (nI n) (mxI 2 (mnI 40 x4)) := RP0_new
      have e5 : ag T3 (zt + 8) (sP (sP (sP (sP (sP (sI (sI (sI (sI (sP (sI (nO (sP (sI (sP (nA (nO (sP (sP (nA (nO (nO T3 (zt + 8) 7) ((zt + 8) + 1) 6) (((zt + 8) + 1) + 1) 26 8) 600 (((zt + 8) + 1)) (some ((((zt + 8) + 1) + 1)))) 705 ((zt + 8)) (some (((zt + 8) + 1)))) ((((zt + 8) + 1) + 1) + 1) 5) (((((zt + 8) + 1) + 1) + 1) + 1) 20 256) 500 ((((zt + 8) + 1) + 1 + 1)) (some ((((((zt + 8) + 1) + 1) + 1) + 1)))) 501 ((((zt + 8) + 1) + 1 + 1)) ((-1 : Int32))) 706 ((zt + 8)) (some (((((zt + 8) + 1) + 1) + 1)))) ((((((zt + 8) + 1) + 1) + 1) + 1) + 1) 4) 400 ((((zt + 8) + 1) + 1 + 1 + 1 + 1)) ((0 : Int32))) 707 ((zt + 8)) (some (((((((zt + 8) + 1) + 1) + 1) + 1) + 1)))) 711 ((zt + 8)) ((1 : Int32))) 700 ((zt + 8)) ((nI i))) 701 ((zt + 8)) ((nI n))) 702 ((zt + 8)) ((mxI 2 (mnI 40 x4)))) 703 ((zt + 8)) (some (zt))) 704 ((zt + 8)) (some ((zt + 6)))) 708 ((zt + 8)) (some ((sz + 2)))) 709 ((zt + 8)) (some ((sz + 206)))) 710 ((zt + 8)) (some ((sz + 239)))) (fun _ => False) := RP0_nag
      generalize (sP (sP (sP (sP (sP (sI (sI (sI (sI (sP (sI (nO (sP (sI (sP (nA (nO (sP (sP (nA (nO (nO T3 (zt + 8) 7) ((zt + 8) + 1) 6) (((zt + 8) + 1) + 1) 26 8) 600 (((zt + 8) + 1)) (some ((((zt + 8) + 1) + 1)))) 705 ((zt + 8)) (some (((zt + 8) + 1)))) ((((zt + 8) + 1) + 1) + 1) 5) (((((zt + 8) + 1) + 1) + 1) + 1) 20 256) 500 ((((zt + 8) + 1) + 1 + 1)) (some ((((((zt + 8) + 1) + 1) + 1) + 1)))) 501 ((((zt + 8) + 1) + 1 + 1)) ((-1 : Int32))) 706 ((zt + 8)) (some (((((zt + 8) + 1) + 1) + 1)))) ((((((zt + 8) + 1) + 1) + 1) + 1) + 1) 4) 400 ((((zt + 8) + 1) + 1 + 1 + 1 + 1)) ((0 : Int32))) 707 ((zt + 8)) (some (((((((zt + 8) + 1) + 1) + 1) + 1) + 1)))) 711 ((zt + 8)) ((1 : Int32))) 700 ((zt + 8)) ((nI i))) 701 ((zt + 8)) ((nI n))) 702 ((zt + 8)) ((mxI 2 (mnI 40 x4)))) 703 ((zt + 8)) (some (zt))) 704 ((zt + 8)) (some ((zt + 6)))) 708 ((zt + 8)) (some ((sz + 2)))) 709 ((zt + 8)) (some ((sz + 206)))) 710 ((zt + 8)) (some ((sz + 239)))) = T5 at RP e5 ⊢
      have cb5 := cb3.fr e5 (show zt + 8 ≤ zt + 14 by omega) ⟨by omega, id⟩ (by omega) (fun _ _ => id)
      have hp5 : vP T5 1103 x = some (sz + 243) := ((((e5 x (by omega)).2.2 id).2.1 1103).trans hp3)
      have hk5 : vK T5 (sz + 243) = 25 := (e5 _ (by omega)).1.trans hk3
      have hn5 : vN T5 (sz + 243) = n := (e5 _ (by omega)).2.1.trans hn3
      have hr5 : vK T5 (zt + 8) = 8 := RP.1
      refine vi_aload_n C dX11_init_230 rfl rfl ?_
      refine vi_getr (i := 1103) C dX11_init_231 rfl fX11_53 cb5.1.1 rfl rfl hp5 ?_
      refine vi_iload C dX11_init_234 rfl rfl ?_
      refine vi_aload C dX11_init_236 rfl rfl ?_
      refine vi_aastore (o := some ((zt + 8))) C dX11_init_238 rfl (c := 7) (by rw [hk5]; decide) (by rw [hk5]; decide) rfl (by rw [hk5]; rfl) (fun v e => by cases e; exact hr5) (by rw [hn5]; exact vp_in_nI (by omega) (by omega)) ?_
      refine vi_iinc C dX11_init_239 rfl rfl (by decide) ?_
      refine vi_goto (t' := 159) C dX11_init_242 (by decide) ?_
      rw [nI_clamp (by omega)]
      have e6 : ag T5 (zt + 14) (sQ T5 (sz + 243) i (some (zt + 8))) (fun b => b = sz + 243) := ag.sQ
      have e35 : ag T3 (zt + 8) (sQ T5 (sz + 243) i (some (zt + 8))) (fun b => b = sz + 243) := (e5.tr e6 (by omega)).mo (Nat.le_refl _) (fun b hb q => q.elim False.elim id)
      have e06 : ag T zt (sQ T5 (sz + 243) i (some (zt + 8))) (fun b => b = sz + 241 ∨ b = sz + 242 ∨ b = sz + 243) := (((e1.tr e2 (by omega)).tr g3 (by omega)).tr e35 (by omega)).mo (Nat.le_refl _) (fun b hb q => by
        rcases q with ((q | q) | (q | q)) | q
        · exact q.elim
        · exact q.elim
        · omega
        · exact q.elim Or.inl (fun q => Or.inr (Or.inl q))
        · exact Or.inr (Or.inr q))
      have cb6 := cb.fr e06 (show zt ≤ zt + 14 by omega) ⟨by omega, by omega⟩ (by omega) (fun d hd => by omega)
      have ss6 := ss.fr e06 (by omega) (fun d hd => by omega)
      have se6 := (e0.tr e06 (by omega)).mo (Nat.le_refl _) (fun b hb q => q.elim id (fun q => by omega))
      have rr6 : REs (sQ T5 (sz + 243) i (some (zt + 8))) (zt + 14) x sz n (i + 1) (mxI 1 (mnI 16 x2)) (mxI 1 (mnI 32 x3)) (mxI 2 (mnI 40 x4)) := by
        refine ⟨(qP_sQ _ _ _ _ _ _).trans hp5, (qK_sQ _ _ _ _ _).trans hk5, (qN_sQ _ _ _ _ _).trans hn5, rp4.fr e06 (show zt ≤ zt + 14 by omega) (by omega) (by omega), ⟨_, _, B3.fr e35 (show zt + 8 ≤ zt + 14 by omega) (by omega) (by omega)⟩, fun q hq => ?_⟩
        by_cases c : q = i
        · subst c
          unfold RE0
          rw [← hzt]
          refine ⟨qQ_sQ_s _ _ _ _, ((ST.fr e2 ⟨by omega, id⟩ ⟨by omega, id⟩ ⟨by omega, id⟩ ⟨by omega, id⟩ ⟨by omega, id⟩ ⟨by omega, id⟩).fr g3 ⟨by omega, by omega⟩ ⟨by omega, by omega⟩ ⟨by omega, by omega⟩ ⟨by omega, by omega⟩ ⟨by omega, by omega⟩ ⟨by omega, by omega⟩).fr e35 ⟨by omega, by omega⟩ ⟨by omega, by omega⟩ ⟨by omega, by omega⟩ ⟨by omega, by omega⟩ ⟨by omega, by omega⟩ ⟨by omega, by omega⟩, J3.fr e35 (by omega) (by omega), D3.fr e35 (by omega) (by omega), V3.fr e35 (by omega) (by omega), RP.fr e6 ⟨by omega, by omega⟩ ⟨by omega, by omega⟩ ⟨by omega, by omega⟩ ⟨by omega, by omega⟩ ⟨by omega, by omega⟩ ⟨by omega, by omega⟩⟩
        · obtain ⟨w1, w2⟩ := rq q (by omega)
          refine ⟨?_, w2.fr e06 (by omega) (by omega) (fun d hd => by omega)⟩
          rw [qQ_sQ_i _ _ _ _ _ _ c]
          have e05 : ag T zt T5 (fun b => b = sz + 241 ∨ b = sz + 242) := (((e1.tr e2 (by omega)).tr g3 (by omega)).tr e5 (by omega)).mo (Nat.le_refl _) (fun b hb q => by
            rcases q with ((q | q) | (q | q)) | q
            · exact q.elim
            · exact q.elim
            · omega
            · exact q
            · exact q.elim)
          obtain ⟨-, -, r9⟩ := e05 (sz + 243) (by omega)
          obtain ⟨-, -, -, -, q9⟩ := r9 (by omega)
          rw [q9]; exact w1
      refine vi_cut [(0, .ref x), (5, .int (nI n)), (6, .ref (sz + 239)), (7, .ref (sz + 241)), (8, .int (nI (i + 1)))] ⟨rfl, rfl, rfl, rfl, by rw [← nI_1]; rfl, trivial⟩ ?_
      have hgo := ih (i + 1) (zt + 14) _ (by omega) (by omega) cb6 ss6 rr6 se6
      refine vi_widen (k' := 244 + 14 * (i + 1)) (n' := 8998 + n + 4761 * (i + 1)) (by omega) (by omega) ?_
      exact hgo
