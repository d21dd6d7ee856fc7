set_option maxRecDepth 100000 in
set_option maxHeartbeats 8000000 in
/-- the loop over the sessions, and what is behind it -/
theorem m_X11_init_l1 {E : vE} {S : vS} {sz : Nat} {x n : Nat} {x1 x2 x3 x4 : Int32} (hx : x < sz) (hn3 : 3 ≤ n) (hn9 : n ≤ 9) (X : vX) (C : vi_C E X yX11_init cX11_init 12 none 4 (244 + 14 * n) (8998 + 4762 * n) (45 * 4)) : ∀ (m i zt : Nat) (T : vS), i + m = 16 → zt = sz + 207 + 2 * i → CB T zt x sz (mxI 1 (mnI 16 x2)) (mxI 1 (mnI 32 x3)) (mxI 2 (mnI 40 x4)) → SEs T sz i → ag S sz T (fun b => b = x) → vi_W E X 12 (vi_Z E X (fun r S1 z1 => r = none ∧ z1 = sz + 244 + 14 * n ∧ CB S1 z1 x sz (mxI 1 (mnI 16 x2)) (mxI 1 (mnI 32 x3)) (mxI 2 (mnI 40 x4)) ∧ SEs S1 sz 16 ∧ REs S1 z1 x sz n n (mxI 1 (mnI 16 x2)) (mxI 1 (mnI 32 x3)) (mxI 2 (mnI 40 x4)) ∧ ag S sz S1 (fun b => b = x)) (244 + 14 * n) (8998 + 4762 * n)) 96 [(0, .ref x), (5, .int (nI n)), (6, .int (nI i))] [] T zt (207 + 2 * i) (4496 + 25 * i) := by
  intro m
  induction m with
  | zero =>
    intro i zt T hi hzt cb ss e0
    obtain rfl : i = 16 := by omega
    obtain rfl : zt = sz + 239 := by omega
    refine vi_iload C dX11_init_96 rfl rfl ?_
    refine vi_bipush (v := 16) C dX11_init_98 rfl (by decide) ?_
    refine vi_icmp_ge (t' := 123) C dX11_init_100 rfl (by decide) (fun hc100 => ?_) (fun hc100 => ?_)
    · refine vi_new C dX11_init_123 rfl nlX11_28 (by omega) (by omega) ?_
      refine vi_dup C dX11_init_126 rfl rfl ?_
      refine vi_sipush (v := 2048) C dX11_init_127 rfl (by decide) ?_
      refine vi_callI C [.int ((2048 : Int32))] [.ref ((sz + 239))] dX11_init_130 rfl ivX11_30 iiX0_init (m_X0_init (N := 2048) (qK_nO_s _ _ _) (by omega) (qI_nO_s _ _ _ _) (qI_nO_s _ _ _ _) (by decide)) rfl (Nat.le_of_ble_eq_true rfl) ⟨by decide, by decide⟩ ⟨by omega, by omega⟩ (fun r130 T1 z130 hq130 => ?_)
      obtain ⟨rfl, rfl, B1, g1⟩ := hq130
      have e1 : ag T (sz + 239) T1 (fun _ => False) := (ag.nO.tr (A := fun _ => False) g1 (by omega)).mo (Nat.le_refl _) (fun b hb q => q.elim id (fun q => by omega))
      refine vi_astore C dX11_init_133 rfl (by decide) ?_
      refine vi_new C dX11_init_135 rfl nlX11_28 (by omega) (by omega) ?_
      refine vi_dup C dX11_init_138 rfl rfl ?_
      refine vi_sipush (v := 2048) C dX11_init_139 rfl (by decide) ?_
      refine vi_callI C [.int ((2048 : Int32))] [.ref ((sz + 241))] dX11_init_142 rfl ivX11_30 iiX0_init (m_X0_init (N := 2048) (qK_nO_s _ _ _) (by omega) (qI_nO_s _ _ _ _) (qI_nO_s _ _ _ _) (by decide)) rfl (Nat.le_of_ble_eq_true rfl) ⟨by decide, by decide⟩ ⟨by omega, by omega⟩ (fun r142 T2 z142 hq142 => ?_)
      obtain ⟨rfl, rfl, B2, g2⟩ := hq142
      have e2 : ag T1 (sz + 241) T2 (fun _ => False) := (ag.nO.tr (A := fun _ => False) g2 (by omega)).mo (Nat.le_refl _) (fun b hb q => q.elim id (fun q => by omega))
      have e12 : ag T (sz + 239) T2 (fun _ => False) := (e1.tr e2 (by omega)).mo (Nat.le_refl _) (fun b hb q => q.elim id id)
      refine vi_astore C dX11_init_145 rfl (by decide) ?_
      refine vi_aload_n C dX11_init_147 rfl rfl ?_
      refine vi_iload C dX11_init_148 rfl rfl ?_
      refine vi_anewarray (κ := 25) (N := n) C dX11_init_150 rfl clX11_51 ao_25 rfl (by decide) (by decide) (nI_pos (by omega)) (nI_clamp (by omega)) (by omega) (by omega) (by omega) ?_
      refine vi_putp (i := 1103) (o := some ((sz + 243))) C dX11_init_153 rfl fpX11_53 (by simp (disch := omega) only [qK_sI, qK_sP, qK_sR, qK_sJ, qK_sQ, qK_nO_s, qK_nO_a, qK_nA_s, qK_nA_a, qN_sI, qN_sP, qN_sR, qN_sJ, qN_sQ, qN_nO, qN_nA_s, qN_nA_a, qI_sI_s, qI_sI_i, qI_sI_a, qI_sP, qI_sR, qI_sJ, qI_sQ, qI_nO_s, qI_nO_a, qI_nA, qP_sI, qP_sP_s, qP_sP_i, qP_sP_a, qP_sR, qP_sJ, qP_sQ, qP_nO_s, qP_nO_a, qP_nA, qR_sI, qR_sP, qR_sR_s, qR_sR_i, qR_sR_a, qR_sJ, qR_sQ, qR_nO, qR_nA_s, qR_nA_a, qJ_sI, qJ_sP, qJ_sR, qJ_sJ_s, qJ_sJ_i, qJ_sJ_a, qJ_sQ, qJ_nO, qJ_nA_s, qJ_nA_a, qQ_sI, qQ_sP, qQ_sR, qQ_sJ, qQ_sQ_s, qQ_sQ_i, qQ_sQ_a, qQ_nO, qQ_nA_s, qQ_nA_a]; exact (e12 x (by omega)).1.trans cb.1.1) rfl rfl (by decide) ?_
      refine vi_iconst (v := 0) C dX11_init_156 rfl (by decide) ?_
      refine vi_istore C dX11_init_157 rfl (by decide) ?_
      have e3 : ag T2 (sz + 243) (sP (nA T2 (sz + 243) 25 n) 1103 x (some (sz + 243))) (fun b => b = x) := (ag.nA.tr (A := fun _ => False) (ag.sP (sz := sz + 243)) (Nat.le_refl _)).mo (Nat.le_refl _) (fun b hb q => q.elim False.elim id)
      have e123 : ag T (sz + 239) (sP (nA T2 (sz + 243) 25 n) 1103 x (some (sz + 243))) (fun b => b = x) := (e12.tr e3 (by omega)).mo (Nat.le_refl _) (fun b hb q => q.elim False.elim id)
      have cbx : CL0 (sP (nA T2 (sz + 243) 25 n) 1103 x (some (sz + 243))) x sz (mxI 1 (mnI 16 x2)) (mxI 1 (mnI 32 x3)) (mxI 2 (mnI 40 x4)) := by
        obtain ⟨w1, w2, w3, w4, w5, w6, w7⟩ := cb.1
        obtain ⟨k9, -, r9⟩ := e12 x (by omega)
        obtain ⟨i9, p9, -⟩ := r9 id
        refine ⟨?_, ?_, ?_, ?_, ?_, ?_, ?_⟩ <;> simp (disch := omega) only [qK_sI, qK_sP, qK_sR, qK_sJ, qK_sQ, qK_nO_s, qK_nO_a, qK_nA_s, qK_nA_a, qN_sI, qN_sP, qN_sR, qN_sJ, qN_sQ, qN_nO, qN_nA_s, qN_nA_a, qI_sI_s, qI_sI_i, qI_sI_a, qI_sP, qI_sR, qI_sJ, qI_sQ, qI_nO_s, qI_nO_a, qI_nA, qP_sI, qP_sP_s, qP_sP_i, qP_sP_a, qP_sR, qP_sJ, qP_sQ, qP_nO_s, qP_nO_a, qP_nA, qR_sI, qR_sP, qR_sR_s, qR_sR_i, qR_sR_a, qR_sJ, qR_sQ, qR_nO, qR_nA_s, qR_nA_a, qJ_sI, qJ_sP, qJ_sR, qJ_sJ_s, qJ_sJ_i, qJ_sJ_a, qJ_sQ, qJ_nO, qJ_nA_s, qJ_nA_a, qQ_sI, qQ_sP, qQ_sR, qQ_sJ, qQ_sQ_s, qQ_sQ_i, qQ_sQ_a, qQ_nO, qQ_nA_s, qQ_nA_a]
        · exact k9.trans w1
        · exact (i9 _).trans w2
        · exact (i9 _).trans w3
        · exact (i9 _).trans w4
        · exact (p9 _).trans w5
        · exact (p9 _).trans w6
        · exact (p9 _).trans w7
      have cb3 : CB (sP (nA T2 (sz + 243) 25 n) 1103 x (some (sz + 243))) (sz + 244) x sz (mxI 1 (mnI 16 x2)) (mxI 1 (mnI 32 x3)) (mxI 2 (mnI 40 x4)) := by
        obtain ⟨-, f2, f3, f4, f5⟩ := cb
        exact ⟨cbx, f2.fr e123 (by omega) (by omega) (by omega), f3.fr e123 (by omega) (by omega) (by omega) (fun j hj => by omega), (e123 _ (by omega)).1.trans f4, (e123 _ (by omega)).2.1.trans f5⟩
      have ss3 := ss.fr e123 (by omega) (fun d hd => by omega)
      have se3 := (e0.tr e123 (by omega)).mo (Nat.le_refl _) (fun b hb q => q.elim id id)
      have rr3 : REs (sP (nA T2 (sz + 243) 25 n) 1103 x (some (sz + 243))) (sz + 244) x sz n 0 (mxI 1 (mnI 16 x2)) (mxI 1 (mnI 32 x3)) (mxI 2 (mnI 40 x4)) := by
        refine ⟨?_, ?_, ?_, (B1.fr e2 (show sz + 241 ≤ sz + 243 by omega) id id).fr e3 (by omega) (by omega) (by omega), ⟨_, _, B2.fr e3 (by omega) (by omega) (by omega)⟩, fun q hq => absurd hq (Nat.not_lt_zero _)⟩ <;> simp (disch := omega) only [qK_sI, qK_sP, qK_sR, qK_sJ, qK_sQ, qK_nO_s, qK_nO_a, qK_nA_s, qK_nA_a, qN_sI, qN_sP, qN_sR, qN_sJ, qN_sQ, qN_nO, qN_nA_s, qN_nA_a, qI_sI_s, qI_sI_i, qI_sI_a, qI_sP, qI_sR, qI_sJ, qI_sQ, qI_nO_s, qI_nO_a, qI_nA, qP_sI, qP_sP_s, qP_sP_i, qP_sP_a, qP_sR, qP_sJ, qP_sQ, qP_nO_s, qP_nO_a, qP_nA, qR_sI, qR_sP, qR_sR_s, qR_sR_i, qR_sR_a, qR_sJ, qR_sQ, qR_nO, qR_nA_s, qR_nA_a, qJ_sI, qJ_sP, qJ_sR, qJ_sJ_s, qJ_sJ_i, qJ_sJ_a, qJ_sQ, qJ_nO, qJ_nA_s, qJ_nA_a, qQ_sI, qQ_sP, qQ_sR, qQ_sJ, qQ_sQ_s, qQ_sQ_i, qQ_sQ_a, qQ_nO, qQ_nA_s, qQ_nA_a]
      refine vi_cut [(0, .ref x), (5, .int (nI n)), (6, .ref (sz + 239)), (7, .ref (sz + 241)), (8, .int (nI 0))] ⟨rfl, rfl, rfl, rfl, rfl, trivial⟩ ?_
      refine vi_widen (k' := 244 + 14 * 0) (n' := 8998 + n + 4761 * 0) (by omega) (by omega) ?_
      exact m_X11_init_l2 (x1 := x1) hx hn3 hn9 X C n 0 (sz + 244) _ (by omega) (by omega) cb3 ss3 rr3 se3
    · exact absurd (nI_le (a := 16) (b := 16) (by omega) (by omega)) hc100
  | succ m ih =>
    intro i zt T hi hzt cb ss e0
    refine vi_iload C dX11_init_96 rfl rfl ?_
    refine vi_bipush (v := 16) C dX11_init_98 rfl (by decide) ?_
    refine vi_icmp_ge (t' := 123) C dX11_init_100 rfl (by decide) (fun hc100 => ?_) (fun hc100 => ?_)
    · exact absurd hc100 (nI_ge (a := i) (b := 16) (by omega) (by omega))
    · refine vi_aload_n C dX11_init_103 rfl rfl ?_
      refine vi_getr (i := 1104) C dX11_init_104 rfl fX11_46 (by first | exact cb.1.1 | (simp (disch := omega) only [qK_sI, qK_sP, qK_sR, qK_sJ, qK_sQ, qK_nO_s, qK_nO_a, qK_nA_s, qK_nA_a, qN_sI, qN_sP, qN_sR, qN_sJ, qN_sQ, qN_nO, qN_nA_s, qN_nA_a, qI_sI_s, qI_sI_i, qI_sI_a, qI_sP, qI_sR, qI_sJ, qI_sQ, qI_nO_s, qI_nO_a, qI_nA, qP_sI, qP_sP_s, qP_sP_i, qP_sP_a, qP_sR, qP_sJ, qP_sQ, qP_nO_s, qP_nO_a, qP_nA, qR_sI, qR_sP, qR_sR_s, qR_sR_i, qR_sR_a, qR_sJ, qR_sQ, qR_nO, qR_nA_s, qR_nA_a, qJ_sI, qJ_sP, qJ_sR, qJ_sJ_s, qJ_sJ_i, qJ_sJ_a, qJ_sQ, qJ_nO, qJ_nA_s, qJ_nA_a, qQ_sI, qQ_sP, qQ_sR, qQ_sJ, qQ_sQ_s, qQ_sQ_i, qQ_sQ_a, qQ_nO, qQ_nA_s, qQ_nA_a] <;> exact cb.1.1)) rfl rfl cb.1.2.2.2.2.1 ?_
      refine vi_iload C dX11_init_107 rfl rfl ?_
      refine vi_new C dX11_init_109 rfl nlX11_44 (by omega) (by omega) ?_
      refine vi_dup C dX11_init_112 rfl rfl ?_
      refine vi_callI C [] [.ref (zt), .int (nI i), .ref (sz + 206)] dX11_init_113 rfl ivX11_50 iiX9_init (m_X9_init (qK_nO_s _ _ _) (by omega)) rfl (Nat.le_of_ble_eq_true rfl) ⟨by decide, by decide⟩ ⟨by omega, by omega⟩ (fun r113 S113 z113 hq113 => ?_)
      obtain ⟨rfl, rfl, rfl⟩ := hq113
      have SE : SE0 (sI (sI (sI (sP (nA (nO T zt 9) (zt + 1) 21 16) 900 (zt) (some ((zt + 1)))) 901 (zt) ((0 : Int32))) 903 (zt) ((-1 : Int32))) 904 (zt) ((-1 : Int32))) zt := SE0_new
      have e1 : ag T zt (sI (sI (sI (sP (nA (nO T zt 9) (zt + 1) 21 16) 900 (zt) (some ((zt + 1)))) 901 (zt) ((0 : Int32))) 903 (zt) ((-1 : Int32))) 904 (zt) ((-1 : Int32))) (fun _ => False) := SE0_nag
      generalize (sI (sI (sI (sP (nA (nO T zt 9) (zt + 1) 21 16) 900 (zt) (some ((zt + 1)))) 901 (zt) ((0 : Int32))) 903 (zt) ((-1 : Int32))) 904 (zt) ((-1 : Int32))) = T1 at SE e1 ⊢
      have hk9 : vK T1 (sz + 206) = 27 := (e1 _ (by omega)).1.trans cb.2.2.2.1
      have hn9x : vN T1 (sz + 206) = 16 := (e1 _ (by omega)).2.1.trans cb.2.2.2.2
      have hs9 : vK T1 zt = 10 := SE.1
      refine vi_aastore (o := some (zt)) C dX11_init_116 rfl (c := 9) (by rw [hk9]; decide) (by rw [hk9]; decide) rfl (by rw [hk9]; rfl) (fun v e => by cases e; exact hs9) (by rw [hn9x]; exact vp_in_nI (by omega) (by omega)) ?_
      refine vi_iinc C dX11_init_117 rfl rfl (by decide) ?_
      refine vi_goto (t' := 96) C dX11_init_120 (by decide) ?_
      rw [nI_clamp (by omega)]
      have e2 : ag T1 (zt + 2) (sQ T1 (sz + 206) i (some zt)) (fun b => b = sz + 206) := ag.sQ
      have e02 : ag T zt (sQ T1 (sz + 206) i (some zt)) (fun b => b = sz + 206) := (e1.tr e2 (by omega)).mo (Nat.le_refl _) (fun b hb q => q.elim False.elim id)
      have cb2 := cb.fr e02 (show zt ≤ zt + 2 by omega) ⟨by omega, by omega⟩ (by omega) (fun d hd => by omega)
      have se2 := (e0.tr e02 (by omega)).mo (Nat.le_refl _) (fun b hb q => q.elim id (fun q => by omega))
      have ss2 : SEs (sQ T1 (sz + 206) i (some zt)) sz (i + 1) := fun q hq => by
        by_cases c : q = i
        · subst c
          rw [← hzt]
          exact ⟨qQ_sQ_s _ _ _ _, SE.fr e2 ⟨by omega, by omega⟩ ⟨by omega, by omega⟩⟩
        · obtain ⟨w1, w2⟩ := ss q (by omega)
          refine ⟨?_, w2.fr e02 ⟨by omega, by omega⟩ ⟨by omega, by omega⟩⟩
          rw [qQ_sQ_i _ _ _ _ _ _ c]
          obtain ⟨-, -, r9⟩ := e1 (sz + 206) (by omega)
          obtain ⟨-, -, -, -, q9⟩ := r9 id
          rw [q9]; exact w1
      refine vi_cut [(0, .ref x), (5, .int (nI n)), (6, .int (nI (i + 1)))] ⟨rfl, rfl, by rw [← nI_1]; rfl, trivial⟩ ?_
      refine vi_widen (k' := 207 + 2 * (i + 1)) (n' := 4496 + 25 * (i + 1)) (by omega) (by omega) ?_
      exact ih (i + 1) (zt + 2) _ (by omega) (by omega) cb2 ss2 se2
