theorem mtab_lt {f : Nat} {x : Nat × Nat × Nat} (h : mtab f = some x) : f < 68 := by
  unfold mtab at h
  split at h <;> first | omega | cases h
theorem mtab_in0 : ∀ f, f < 68 → ∀ g, g < 68 → (mtab f).isSome = true → (mtab f).map (fun x => x.1) = (mtab g).map (fun x => x.1) → f = g := by decide +kernel
theorem mtab_in {f g j k n k' n' : Nat} (h : mtab f = some (j, k, n)) (h' : mtab g = some (j, k', n')) : g = f := (mtab_in0 f (mtab_lt h) g (mtab_lt h') (by rw [h]; rfl) (by rw [h, h']; rfl)).symm
/-- the first i arrays of the reference are made -/
def MI (S : vS) (m b i : Nat) : Prop := m < b ∧ vK S m = 13 ∧ (∀ f, f ≠ 1204 → vI S f m = 0) ∧ vI S 1204 m = 1 ∧ (∀ f j k n, mtab f = some (j, k, n) → j < i → vP S (1200 + f) m = some (b + j) ∧ vK S (b + j) = k ∧ vN S (b + j) = n) ∧ ∀ a, b ≤ a → a < b + i → ∀ j, vR S a j = 0
theorem MI.st {T : vS} {m b i f k n : Nat} (M : MI T m b i) (h : mtab f = some (i, k, n)) : MI (sP (nA T (b + i) k n) (1200 + f) m (some (b + i))) m b (i + 1) ∧ ag T (b + i) (sP (nA T (b + i) k n) (1200 + f) m (some (b + i))) (fun c => c = m) := by
  obtain ⟨h1, h2, h3, h4, h5, h6⟩ := M
  refine ⟨⟨h1, ?_, fun g hg => ?_, ?_, fun g j k' n' hg hj => ?_, fun a ha hb j => ?_⟩, ((ag.nA (A := fun _ => False)).tr (ag.sP (sz := b + i)) (Nat.le_refl _)).mo (Nat.le_refl _) (fun c _ q => q.elim False.elim id)⟩
  · rw [qK_sP, qK_nA_a _ _ _ _ _ (by omega)]; exact h2
  · rw [qI_sP, qI_nA]; exact h3 g hg
  · rw [qI_sP, qI_nA]; exact h4
  · by_cases c : j = i
    · subst c
      have e := mtab_in h hg
      subst e
      have e2 : k' = k ∧ n' = n := by
        rw [h] at hg
        cases hg
        exact ⟨rfl, rfl⟩
      obtain ⟨rfl, rfl⟩ := e2
      exact ⟨qP_sP_s _ _ _ _, by rw [qK_sP]; exact qK_nA_s _ _ _ _, by rw [qN_sP]; exact qN_nA_s _ _ _ _⟩
    · have hgf : 1200 + g ≠ 1200 + f := fun e => by
        have e2 : g = f := by omega
        subst e2
        rw [h] at hg
        cases hg
        exact c rfl
      obtain ⟨g1, g2, g3⟩ := h5 g j k' n' hg (by omega)
      exact ⟨by rw [qP_sP_i _ _ _ _ _ _ hgf, qP_nA]; exact g1, by rw [qK_sP, qK_nA_a _ _ _ _ _ (by omega)]; exact g2, by rw [qN_sP, qN_nA_a _ _ _ _ _ (by omega)]; exact g3⟩
  · rw [qR_sP]
    by_cases c : a = b + i
    · subst c; exact qR_nA_s _ _ _ _ _
    · rw [qR_nA_a _ _ _ _ _ _ c]; exact h6 a ha (by omega) j

set_option maxRecDepth 100000 in
set_option maxHeartbeats 16000000 in
/-- new reference, up to its arrays -/
theorem m_X12_init_a {E : vE} {S : vS} {sz m : Nat} {x1 x2 x3 x4 : Int32} {mc ms : Nat} {Z : State → Prop} (hk : vK S m = 13) (hm : m < sz) (hz : ∀ f, vI S f m = 0) (hmc : 55 ≤ mc) (hms : 475365 ≤ ms) (X : vX) (C : vi_C E X yX12_init cX12_init 6 none 3 mc ms (45 * 3)) (go : ∀ T : vS, MI T m sz 55 → ag S sz T (fun c => c = m) → vi_W E X 6 Z 466 [(0, .ref m), (1, .int x1), (2, .int x2), (3, .int x3), (4, .int x4)] [] T (sz + 55) 55 475365) : vi_W E X 6 Z 0 [(0, .ref m), (1, .int x1), (2, .int x2), (3, .int x3), (4, .int x4)] [] S sz 0 0 := by
  refine vi_aload_n C dX12_init_0 rfl rfl ?_
  refine vi_objInit C dX12_init_1 rfl oiX12_1 oi_i oi_c (by decide) (Nat.le_of_ble_eq_true rfl) ?_
  refine vi_aload_n C dX12_init_4 rfl rfl ?_
  refine vi_iconst (v := 1) C dX12_init_5 rfl (by decide) ?_
  refine vi_puti (i := 1204) C dX12_init_6 rfl (fpX12_7 _) hk rfl rfl (by decide) rfl rfl ?_
  have M0 : MI (sI S 1204 (m) ((1 : Int32))) m sz 0 := ⟨hm, by rw [qK_sI]; exact hk, fun f hf => by rw [qI_sI_i _ _ _ _ _ _ hf]; exact hz f, qI_sI_s _ _ _ _, fun f j k n _ hj => absurd hj (Nat.not_lt_zero _), fun a ha hb => absurd hb (by omega)⟩
  have e0 : ag S sz (sI S 1204 (m) ((1 : Int32))) (fun c => c = m) := ag.sI
  generalize (sI S 1204 (m) ((1 : Int32))) = T0 at M0 e0 ⊢
  refine vi_aload_n C dX12_init_9 rfl rfl ?_
  refine vi_sipush (v := 4200) C dX12_init_10 rfl (by decide) ?_
  refine vi_newarray (κ := 21) (N := 4200) C dX12_init_13 rfl ac_int rfl (by decide) (by decide) (by decide) rfl (by decide) (by omega) (by omega) ?_
  refine vi_putp (i := 1205) (o := some (sz)) C dX12_init_15 rfl fpX12_13 ((qK_nA_a _ _ _ _ _ (by omega)).trans M0.2.1) rfl rfl (by decide) ?_
  have hs0 := M0.st (f := 5) (k := 21) (n := 4200) rfl
  have M1 : MI (sP (nA T0 (sz + 0) 21 4200) 1205 m (some (sz + 0))) m sz 1 := hs0.1
  have e1 : ag S sz (sP (nA T0 (sz + 0) 21 4200) 1205 m (some (sz + 0))) (fun c => c = m) := (e0.tr hs0.2 (by omega)).mo (Nat.le_refl _) (fun c _ q => q.elim id id)
  clear hs0 M0 e0
  generalize (sP (nA T0 (sz + 0) 21 4200) 1205 m (some (sz + 0))) = T1 at M1 e1 ⊢
  clear T0
  show vi_W E X 6 Z _ _ _ T1 (sz + 1) _ _
  refine vi_aload_n C dX12_init_18 rfl rfl ?_
  refine vi_sipush (v := 4200) C dX12_init_19 rfl (by decide) ?_
  refine vi_newarray (κ := 21) (N := 4200) C dX12_init_22 rfl ac_int rfl (by decide) (by decide) (by decide) rfl (by decide) (by omega) (by omega) ?_
  refine vi_putp (i := 1206) (o := some ((sz + 1))) C dX12_init_24 rfl fpX12_17 ((qK_nA_a _ _ _ _ _ (by omega)).trans M1.2.1) rfl rfl (by decide) ?_
  have hs1 := M1.st (f := 6) (k := 21) (n := 4200) rfl
  have M2 : MI (sP (nA T1 (sz + 1) 21 4200) 1206 m (some (sz + 1))) m sz 2 := hs1.1
  have e2 : ag S sz (sP (nA T1 (sz + 1) 21 4200) 1206 m (some (sz + 1))) (fun c => c = m) := (e1.tr hs1.2 (by omega)).mo (Nat.le_refl _) (fun c _ q => q.elim id id)
  clear hs1 M1 e1
  generalize (sP (nA T1 (sz + 1) 21 4200) 1206 m (some (sz + 1))) = T2 at M2 e2 ⊢
  clear T1
  show vi_W E X 6 Z _ _ _ T2 (sz + 2) _ _
  refine vi_aload_n C dX12_init_27 rfl rfl ?_
  refine vi_sipush (v := 4200) C dX12_init_28 rfl (by decide) ?_
  refine vi_newarray (κ := 21) (N := 4200) C dX12_init_31 rfl ac_int rfl (by decide) (by decide) (by decide) rfl (by decide) (by omega) (by omega) ?_
  refine vi_putp (i := 1207) (o := some ((sz + 2))) C dX12_init_33 rfl fpX12_20 ((qK_nA_a _ _ _ _ _ (by omega)).trans M2.2.1) rfl rfl (by decide) ?_
  have hs2 := M2.st (f := 7) (k := 21) (n := 4200) rfl
  have M3 : MI (sP (nA T2 (sz + 2) 21 4200) 1207 m (some (sz + 2))) m sz 3 := hs2.1
  have e3 : ag S sz (sP (nA T2 (sz + 2) 21 4200) 1207 m (some (sz + 2))) (fun c => c = m) := (e2.tr hs2.2 (by omega)).mo (Nat.le_refl _) (fun c _ q => q.elim id id)
  clear hs2 M2 e2
  generalize (sP (nA T2 (sz + 2) 21 4200) 1207 m (some (sz + 2))) = T3 at M3 e3 ⊢
  clear T2
  show vi_W E X 6 Z _ _ _ T3 (sz + 3) _ _
  refine vi_aload_n C dX12_init_36 rfl rfl ?_
  refine vi_sipush (v := 4200) C dX12_init_37 rfl (by decide) ?_
  refine vi_newarray (κ := 21) (N := 4200) C dX12_init_40 rfl ac_int rfl (by decide) (by decide) (by decide) rfl (by decide) (by omega) (by omega) ?_
  refine vi_putp (i := 1208) (o := some ((sz + 3))) C dX12_init_42 rfl fpX12_23 ((qK_nA_a _ _ _ _ _ (by omega)).trans M3.2.1) rfl rfl (by decide) ?_
  have hs3 := M3.st (f := 8) (k := 21) (n := 4200) rfl
  have M4 : MI (sP (nA T3 (sz + 3) 21 4200) 1208 m (some (sz + 3))) m sz 4 := hs3.1
  have e4 : ag S sz (sP (nA T3 (sz + 3) 21 4200) 1208 m (some (sz + 3))) (fun c => c = m) := (e3.tr hs3.2 (by omega)).mo (Nat.le_refl _) (fun c _ q => q.elim id id)
  clear hs3 M3 e3
  generalize (sP (nA T3 (sz + 3) 21 4200) 1208 m (some (sz + 3))) = T4 at M4 e4 ⊢
  clear T3
  show vi_W E X 6 Z _ _ _ T4 (sz + 4) _ _
  refine vi_aload_n C dX12_init_45 rfl rfl ?_
  refine vi_sipush (v := 4200) C dX12_init_46 rfl (by decide) ?_
  refine vi_newarray (κ := 21) (N := 4200) C dX12_init_49 rfl ac_int rfl (by decide) (by decide) (by decide) rfl (by decide) (by omega) (by omega) ?_
  refine vi_putp (i := 1209) (o := some ((sz + 4))) C dX12_init_51 rfl fpX12_26 ((qK_nA_a _ _ _ _ _ (by omega)).trans M4.2.1) rfl rfl (by decide) ?_
  have hs4 := M4.st (f := 9) (k := 21) (n := 4200) rfl
  have M5 : MI (sP (nA T4 (sz + 4) 21 4200) 1209 m (some (sz + 4))) m sz 5 := hs4.1
  have e5 : ag S sz (sP (nA T4 (sz + 4) 21 4200) 1209 m (some (sz + 4))) (fun c => c = m) := (e4.tr hs4.2 (by omega)).mo (Nat.le_refl _) (fun c _ q => q.elim id id)
  clear hs4 M4 e4
  generalize (sP (nA T4 (sz + 4) 21 4200) 1209 m (some (sz + 4))) = T5 at M5 e5 ⊢
  clear T4
  show vi_W E X 6 Z _ _ _ T5 (sz + 5) _ _
  refine vi_aload_n C dX12_init_54 rfl rfl ?_
  refine vi_ldc C dX12_init_55 rfl kX12_29 ?_
  refine vi_newarray (κ := 21) (N := 67200) C dX12_init_57 rfl ac_int rfl (by decide) (by decide) (by decide) rfl (by decide) (by omega) (by omega) ?_
  refine vi_putp (i := 1210) (o := some ((sz + 5))) C dX12_init_59 rfl fpX12_30 ((qK_nA_a _ _ _ _ _ (by omega)).trans M5.2.1) rfl rfl (by decide) ?_
  have hs5 := M5.st (f := 10) (k := 21) (n := 67200) rfl
  have M6 : MI (sP (nA T5 (sz + 5) 21 67200) 1210 m (some (sz + 5))) m sz 6 := hs5.1
  have e6 : ag S sz (sP (nA T5 (sz + 5) 21 67200) 1210 m (some (sz + 5))) (fun c => c = m) := (e5.tr hs5.2 (by omega)).mo (Nat.le_refl _) (fun c _ q => q.elim id id)
  clear hs5 M5 e5
  generalize (sP (nA T5 (sz + 5) 21 67200) 1210 m (some (sz + 5))) = T6 at M6 e6 ⊢
  clear T5
  show vi_W E X 6 Z _ _ _ T6 (sz + 6) _ _
  refine vi_aload_n C dX12_init_62 rfl rfl ?_
  refine vi_bipush (v := 9) C dX12_init_63 rfl (by decide) ?_
  refine vi_newarray (κ := 23) (N := 9) C dX12_init_65 rfl ac_boolean rfl (by decide) (by decide) (by decide) rfl (by decide) (by omega) (by omega) ?_
  refine vi_putp (i := 1212) (o := some ((sz + 6))) C dX12_init_67 rfl fpX12_33 ((qK_nA_a _ _ _ _ _ (by omega)).trans M6.2.1) rfl rfl (by decide) ?_
  have hs6 := M6.st (f := 12) (k := 23) (n := 9) rfl
  have M7 : MI (sP (nA T6 (sz + 6) 23 9) 1212 m (some (sz + 6))) m sz 7 := hs6.1
  have e7 : ag S sz (sP (nA T6 (sz + 6) 23 9) 1212 m (some (sz + 6))) (fun c => c = m) := (e6.tr hs6.2 (by omega)).mo (Nat.le_refl _) (fun c _ q => q.elim id id)
  clear hs6 M6 e6
  generalize (sP (nA T6 (sz + 6) 23 9) 1212 m (some (sz + 6))) = T7 at M7 e7 ⊢
  clear T6
  show vi_W E X 6 Z _ _ _ T7 (sz + 7) _ _
  refine vi_aload_n C dX12_init_70 rfl rfl ?_
  refine vi_bipush (v := 9) C dX12_init_71 rfl (by decide) ?_
  refine vi_newarray (κ := 21) (N := 9) C dX12_init_73 rfl ac_int rfl (by decide) (by decide) (by decide) rfl (by decide) (by omega) (by omega) ?_
  refine vi_putp (i := 1213) (o := some ((sz + 7))) C dX12_init_75 rfl fpX12_37 ((qK_nA_a _ _ _ _ _ (by omega)).trans M7.2.1) rfl rfl (by decide) ?_
  have hs7 := M7.st (f := 13) (k := 21) (n := 9) rfl
  have M8 : MI (sP (nA T7 (sz + 7) 21 9) 1213 m (some (sz + 7))) m sz 8 := hs7.1
  have e8 : ag S sz (sP (nA T7 (sz + 7) 21 9) 1213 m (some (sz + 7))) (fun c => c = m) := (e7.tr hs7.2 (by omega)).mo (Nat.le_refl _) (fun c _ q => q.elim id id)
  clear hs7 M7 e7
  generalize (sP (nA T7 (sz + 7) 21 9) 1213 m (some (sz + 7))) = T8 at M8 e8 ⊢
  clear T7
  show vi_W E X 6 Z _ _ _ T8 (sz + 8) _ _
  refine vi_aload_n C dX12_init_78 rfl rfl ?_
  refine vi_bipush (v := 9) C dX12_init_79 rfl (by decide) ?_
  refine vi_newarray (κ := 21) (N := 9) C dX12_init_81 rfl ac_int rfl (by decide) (by decide) (by decide) rfl (by decide) (by omega) (by omega) ?_
  refine vi_putp (i := 1214) (o := some ((sz + 8))) C dX12_init_83 rfl fpX12_40 ((qK_nA_a _ _ _ _ _ (by omega)).trans M8.2.1) rfl rfl (by decide) ?_
  have hs8 := M8.st (f := 14) (k := 21) (n := 9) rfl
  have M9 : MI (sP (nA T8 (sz + 8) 21 9) 1214 m (some (sz + 8))) m sz 9 := hs8.1
  have e9 : ag S sz (sP (nA T8 (sz + 8) 21 9) 1214 m (some (sz + 8))) (fun c => c = m) := (e8.tr hs8.2 (by omega)).mo (Nat.le_refl _) (fun c _ q => q.elim id id)
  clear hs8 M8 e8
  generalize (sP (nA T8 (sz + 8) 21 9) 1214 m (some (sz + 8))) = T9 at M9 e9 ⊢
  clear T8
  show vi_W E X 6 Z _ _ _ T9 (sz + 9) _ _
  refine vi_aload_n C dX12_init_86 rfl rfl ?_
  refine vi_bipush (v := 9) C dX12_init_87 rfl (by decide) ?_
  refine vi_newarray (κ := 21) (N := 9) C dX12_init_89 rfl ac_int rfl (by decide) (by decide) (by decide) rfl (by decide) (by omega) (by omega) ?_
  refine vi_putp (i := 1215) (o := some ((sz + 9))) C dX12_init_91 rfl fpX12_43 ((qK_nA_a _ _ _ _ _ (by omega)).trans M9.2.1) rfl rfl (by decide) ?_
  have hs9 := M9.st (f := 15) (k := 21) (n := 9) rfl
  have M10 : MI (sP (nA T9 (sz + 9) 21 9) 1215 m (some (sz + 9))) m sz 10 := hs9.1
  have e10 : ag S sz (sP (nA T9 (sz + 9) 21 9) 1215 m (some (sz + 9))) (fun c => c = m) := (e9.tr hs9.2 (by omega)).mo (Nat.le_refl _) (fun c _ q => q.elim id id)
  clear hs9 M9 e9
  generalize (sP (nA T9 (sz + 9) 21 9) 1215 m (some (sz + 9))) = T10 at M10 e10 ⊢
  clear T9
  show vi_W E X 6 Z _ _ _ T10 (sz + 10) _ _
  refine vi_aload_n C dX12_init_94 rfl rfl ?_
  refine vi_bipush (v := 9) C dX12_init_95 rfl (by decide) ?_
  refine vi_newarray (κ := 21) (N := 9) C dX12_init_97 rfl ac_int rfl (by decide) (by decide) (by decide) rfl (by decide) (by omega) (by omega) ?_
  refine vi_putp (i := 1216) (o := some ((sz + 10))) C dX12_init_99 rfl fpX12_46 ((qK_nA_a _ _ _ _ _ (by omega)).trans M10.2.1) rfl rfl (by decide) ?_
  have hs10 := M10.st (f := 16) (k := 21) (n := 9) rfl
  have M11 : MI (sP (nA T10 (sz + 10) 21 9) 1216 m (some (sz + 10))) m sz 11 := hs10.1
  have e11 : ag S sz (sP (nA T10 (sz + 10) 21 9) 1216 m (some (sz + 10))) (fun c => c = m) := (e10.tr hs10.2 (by omega)).mo (Nat.le_refl _) (fun c _ q => q.elim id id)
  clear hs10 M10 e10
  generalize (sP (nA T10 (sz + 10) 21 9) 1216 m (some (sz + 10))) = T11 at M11 e11 ⊢
  clear T10
  show vi_W E X 6 Z _ _ _ T11 (sz + 11) _ _
  refine vi_aload_n C dX12_init_102 rfl rfl ?_
  refine vi_bipush (v := 9) C dX12_init_103 rfl (by decide) ?_
  refine vi_newarray (κ := 21) (N := 9) C dX12_init_105 rfl ac_int rfl (by decide) (by decide) (by decide) rfl (by decide) (by omega) (by omega) ?_
  refine vi_putp (i := 1217) (o := some ((sz + 11))) C dX12_init_107 rfl fpX12_49 ((qK_nA_a _ _ _ _ _ (by omega)).trans M11.2.1) rfl rfl (by decide) ?_
  have hs11 := M11.st (f := 17) (k := 21) (n := 9) rfl
  have M12 : MI (sP (nA T11 (sz + 11) 21 9) 1217 m (some (sz + 11))) m sz 12 := hs11.1
  have e12 : ag S sz (sP (nA T11 (sz + 11) 21 9) 1217 m (some (sz + 11))) (fun c => c = m) := (e11.tr hs11.2 (by omega)).mo (Nat.le_refl _) (fun c _ q => q.elim id id)
  clear hs11 M11 e11
  generalize (sP (nA T11 (sz + 11) 21 9) 1217 m (some (sz + 11))) = T12 at M12 e12 ⊢
  clear T11
  show vi_W E X 6 Z _ _ _ T12 (sz + 12) _ _
  refine vi_aload_n C dX12_init_110 rfl rfl ?_
  refine vi_bipush (v := 9) C dX12_init_111 rfl (by decide) ?_
  refine vi_newarray (κ := 21) (N := 9) C dX12_init_113 rfl ac_int rfl (by decide) (by decide) (by decide) rfl (by decide) (by omega) (by omega) ?_
  refine vi_putp (i := 1218) (o := some ((sz + 12))) C dX12_init_115 rfl fpX12_52 ((qK_nA_a _ _ _ _ _ (by omega)).trans M12.2.1) rfl rfl (by decide) ?_
  have hs12 := M12.st (f := 18) (k := 21) (n := 9) rfl
  have M13 : MI (sP (nA T12 (sz + 12) 21 9) 1218 m (some (sz + 12))) m sz 13 := hs12.1
  have e13 : ag S sz (sP (nA T12 (sz + 12) 21 9) 1218 m (some (sz + 12))) (fun c => c = m) := (e12.tr hs12.2 (by omega)).mo (Nat.le_refl _) (fun c _ q => q.elim id id)
  clear hs12 M12 e12
  generalize (sP (nA T12 (sz + 12) 21 9) 1218 m (some (sz + 12))) = T13 at M13 e13 ⊢
  clear T12
  show vi_W E X 6 Z _ _ _ T13 (sz + 13) _ _
  refine vi_aload_n C dX12_init_118 rfl rfl ?_
  refine vi_bipush (v := 9) C dX12_init_119 rfl (by decide) ?_
  refine vi_newarray (κ := 21) (N := 9) C dX12_init_121 rfl ac_int rfl (by decide) (by decide) (by decide) rfl (by decide) (by omega) (by omega) ?_
  refine vi_putp (i := 1219) (o := some ((sz + 13))) C dX12_init_123 rfl fpX12_55 ((qK_nA_a _ _ _ _ _ (by omega)).trans M13.2.1) rfl rfl (by decide) ?_
  have hs13 := M13.st (f := 19) (k := 21) (n := 9) rfl
  have M14 : MI (sP (nA T13 (sz + 13) 21 9) 1219 m (some (sz + 13))) m sz 14 := hs13.1
  have e14 : ag S sz (sP (nA T13 (sz + 13) 21 9) 1219 m (some (sz + 13))) (fun c => c = m) := (e13.tr hs13.2 (by omega)).mo (Nat.le_refl _) (fun c _ q => q.elim id id)
  clear hs13 M13 e13
  generalize (sP (nA T13 (sz + 13) 21 9) 1219 m (some (sz + 13))) = T14 at M14 e14 ⊢
  clear T13
  show vi_W E X 6 Z _ _ _ T14 (sz + 14) _ _
  refine vi_aload_n C dX12_init_126 rfl rfl ?_
  refine vi_sipush (v := 5760) C dX12_init_127 rfl (by decide) ?_
  refine vi_newarray (κ := 21) (N := 5760) C dX12_init_130 rfl ac_int rfl (by decide) (by decide) (by decide) rfl (by decide) (by omega) (by omega) ?_
  refine vi_putp (i := 1220) (o := some ((sz + 14))) C dX12_init_132 rfl fpX12_58 ((qK_nA_a _ _ _ _ _ (by omega)).trans M14.2.1) rfl rfl (by decide) ?_
  have hs14 := M14.st (f := 20) (k := 21) (n := 5760) rfl
  have M15 : MI (sP (nA T14 (sz + 14) 21 5760) 1220 m (some (sz + 14))) m sz 15 := hs14.1
  have e15 : ag S sz (sP (nA T14 (sz + 14) 21 5760) 1220 m (some (sz + 14))) (fun c => c = m) := (e14.tr hs14.2 (by omega)).mo (Nat.le_refl _) (fun c _ q => q.elim id id)
  clear hs14 M14 e14
  generalize (sP (nA T14 (sz + 14) 21 5760) 1220 m (some (sz + 14))) = T15 at M15 e15 ⊢
  clear T14
  show vi_W E X 6 Z _ _ _ T15 (sz + 15) _ _
  refine vi_aload_n C dX12_init_135 rfl rfl ?_
  refine vi_sipush (v := 360) C dX12_init_136 rfl (by decide) ?_
  refine vi_newarray (κ := 21) (N := 360) C dX12_init_139 rfl ac_int rfl (by decide) (by decide) (by decide) rfl (by decide) (by omega) (by omega) ?_
  refine vi_putp (i := 1221) (o := some ((sz + 15))) C dX12_init_141 rfl fpX12_61 ((qK_nA_a _ _ _ _ _ (by omega)).trans M15.2.1) rfl rfl (by decide) ?_
  have hs15 := M15.st (f := 21) (k := 21) (n := 360) rfl
  have M16 : MI (sP (nA T15 (sz + 15) 21 360) 1221 m (some (sz + 15))) m sz 16 := hs15.1
  have e16 : ag S sz (sP (nA T15 (sz + 15) 21 360) 1221 m (some (sz + 15))) (fun c => c = m) := (e15.tr hs15.2 (by omega)).mo (Nat.le_refl _) (fun c _ q => q.elim id id)
  clear hs15 M15 e15
  generalize (sP (nA T15 (sz + 15) 21 360) 1221 m (some (sz + 15))) = T16 at M16 e16 ⊢
  clear T15
  show vi_W E X 6 Z _ _ _ T16 (sz + 16) _ _
  refine vi_aload_n C dX12_init_144 rfl rfl ?_
  refine vi_sipush (v := 360) C dX12_init_145 rfl (by decide) ?_
  refine vi_newarray (κ := 21) (N := 360) C dX12_init_148 rfl ac_int rfl (by decide) (by decide) (by decide) rfl (by decide) (by omega) (by omega) ?_
  refine vi_putp (i := 1222) (o := some ((sz + 16))) C dX12_init_150 rfl fpX12_64 ((qK_nA_a _ _ _ _ _ (by omega)).trans M16.2.1) rfl rfl (by decide) ?_
  have hs16 := M16.st (f := 22) (k := 21) (n := 360) rfl
  have M17 : MI (sP (nA T16 (sz + 16) 21 360) 1222 m (some (sz + 16))) m sz 17 := hs16.1
  have e17 : ag S sz (sP (nA T16 (sz + 16) 21 360) 1222 m (some (sz + 16))) (fun c => c = m) := (e16.tr hs16.2 (by omega)).mo (Nat.le_refl _) (fun c _ q => q.elim id id)
  clear hs16 M16 e16
  generalize (sP (nA T16 (sz + 16) 21 360) 1222 m (some (sz + 16))) = T17 at M17 e17 ⊢
  clear T16
  show vi_W E X 6 Z _ _ _ T17 (sz + 17) _ _
  refine vi_aload_n C dX12_init_153 rfl rfl ?_
  refine vi_sipush (v := 144) C dX12_init_154 rfl (by decide) ?_
  refine vi_newarray (κ := 21) (N := 144) C dX12_init_157 rfl ac_int rfl (by decide) (by decide) (by decide) rfl (by decide) (by omega) (by omega) ?_
  refine vi_putp (i := 1223) (o := some ((sz + 17))) C dX12_init_159 rfl fpX12_67 ((qK_nA_a _ _ _ _ _ (by omega)).trans M17.2.1) rfl rfl (by decide) ?_
  have hs17 := M17.st (f := 23) (k := 21) (n := 144) rfl
  have M18 : MI (sP (nA T17 (sz + 17) 21 144) 1223 m (some (sz + 17))) m sz 18 := hs17.1
  have e18 : ag S sz (sP (nA T17 (sz + 17) 21 144) 1223 m (some (sz + 17))) (fun c => c = m) := (e17.tr hs17.2 (by omega)).mo (Nat.le_refl _) (fun c _ q => q.elim id id)
  clear hs17 M17 e17
  generalize (sP (nA T17 (sz + 17) 21 144) 1223 m (some (sz + 17))) = T18 at M18 e18 ⊢
  clear T17
  show vi_W E X 6 Z _ _ _ T18 (sz + 18) _ _
  refine vi_aload_n C dX12_init_162 rfl rfl ?_
  refine vi_sipush (v := 144) C dX12_init_163 rfl (by decide) ?_
  refine vi_newarray (κ := 21) (N := 144) C dX12_init_166 rfl ac_int rfl (by decide) (by decide) (by decide) rfl (by decide) (by omega) (by omega) ?_
  refine vi_putp (i := 1224) (o := some ((sz + 18))) C dX12_init_168 rfl fpX12_70 ((qK_nA_a _ _ _ _ _ (by omega)).trans M18.2.1) rfl rfl (by decide) ?_
  have hs18 := M18.st (f := 24) (k := 21) (n := 144) rfl
  have M19 : MI (sP (nA T18 (sz + 18) 21 144) 1224 m (some (sz + 18))) m sz 19 := hs18.1
  have e19 : ag S sz (sP (nA T18 (sz + 18) 21 144) 1224 m (some (sz + 18))) (fun c => c = m) := (e18.tr hs18.2 (by omega)).mo (Nat.le_refl _) (fun c _ q => q.elim id id)
  clear hs18 M18 e18
  generalize (sP (nA T18 (sz + 18) 21 144) 1224 m (some (sz + 18))) = T19 at M19 e19 ⊢
  clear T18
  show vi_W E X 6 Z _ _ _ T19 (sz + 19) _ _
  refine vi_aload_n C dX12_init_171 rfl rfl ?_
  refine vi_bipush (v := 9) C dX12_init_172 rfl (by decide) ?_
  refine vi_newarray (κ := 21) (N := 9) C dX12_init_174 rfl ac_int rfl (by decide) (by decide) (by decide) rfl (by decide) (by omega) (by omega) ?_
  refine vi_putp (i := 1225) (o := some ((sz + 19))) C dX12_init_176 rfl fpX12_73 ((qK_nA_a _ _ _ _ _ (by omega)).trans M19.2.1) rfl rfl (by decide) ?_
  have hs19 := M19.st (f := 25) (k := 21) (n := 9) rfl
  have M20 : MI (sP (nA T19 (sz + 19) 21 9) 1225 m (some (sz + 19))) m sz 20 := hs19.1
  have e20 : ag S sz (sP (nA T19 (sz + 19) 21 9) 1225 m (some (sz + 19))) (fun c => c = m) := (e19.tr hs19.2 (by omega)).mo (Nat.le_refl _) (fun c _ q => q.elim id id)
  clear hs19 M19 e19
  generalize (sP (nA T19 (sz + 19) 21 9) 1225 m (some (sz + 19))) = T20 at M20 e20 ⊢
  clear T19
  show vi_W E X 6 Z _ _ _ T20 (sz + 20) _ _
  refine vi_aload_n C dX12_init_179 rfl rfl ?_
  refine vi_bipush (v := 9) C dX12_init_180 rfl (by decide) ?_
  refine vi_newarray (κ := 21) (N := 9) C dX12_init_182 rfl ac_int rfl (by decide) (by decide) (by decide) rfl (by decide) (by omega) (by omega) ?_
  refine vi_putp (i := 1226) (o := some ((sz + 20))) C dX12_init_184 rfl fpX12_76 ((qK_nA_a _ _ _ _ _ (by omega)).trans M20.2.1) rfl rfl (by decide) ?_
  have hs20 := M20.st (f := 26) (k := 21) (n := 9) rfl
  have M21 : MI (sP (nA T20 (sz + 20) 21 9) 1226 m (some (sz + 20))) m sz 21 := hs20.1
  have e21 : ag S sz (sP (nA T20 (sz + 20) 21 9) 1226 m (some (sz + 20))) (fun c => c = m) := (e20.tr hs20.2 (by omega)).mo (Nat.le_refl _) (fun c _ q => q.elim id id)
  clear hs20 M20 e20
  generalize (sP (nA T20 (sz + 20) 21 9) 1226 m (some (sz + 20))) = T21 at M21 e21 ⊢
  clear T20
  show vi_W E X 6 Z _ _ _ T21 (sz + 21) _ _
  refine vi_aload_n C dX12_init_187 rfl rfl ?_
  refine vi_bipush (v := 9) C dX12_init_188 rfl (by decide) ?_
  refine vi_newarray (κ := 21) (N := 9) C dX12_init_190 rfl ac_int rfl (by decide) (by decide) (by decide) rfl (by decide) (by omega) (by omega) ?_
  refine vi_putp (i := 1227) (o := some ((sz + 21))) C dX12_init_192 rfl fpX12_79 ((qK_nA_a _ _ _ _ _ (by omega)).trans M21.2.1) rfl rfl (by decide) ?_
  have hs21 := M21.st (f := 27) (k := 21) (n := 9) rfl
  have M22 : MI (sP (nA T21 (sz + 21) 21 9) 1227 m (some (sz + 21))) m sz 22 := hs21.1
  have e22 : ag S sz (sP (nA T21 (sz + 21) 21 9) 1227 m (some (sz + 21))) (fun c => c = m) := (e21.tr hs21.2 (by omega)).mo (Nat.le_refl _) (fun c _ q => q.elim id id)
  clear hs21 M21 e21
  generalize (sP (nA T21 (sz + 21) 21 9) 1227 m (some (sz + 21))) = T22 at M22 e22 ⊢
  clear T21
  show vi_W E X 6 Z _ _ _ T22 (sz + 22) _ _
  refine vi_aload_n C dX12_init_195 rfl rfl ?_
  refine vi_bipush (v := 9) C dX12_init_196 rfl (by decide) ?_
  refine vi_newarray (κ := 21) (N := 9) C dX12_init_198 rfl ac_int rfl (by decide) (by decide) (by decide) rfl (by decide) (by omega) (by omega) ?_
  refine vi_putp (i := 1228) (o := some ((sz + 22))) C dX12_init_200 rfl fpX12_82 ((qK_nA_a _ _ _ _ _ (by omega)).trans M22.2.1) rfl rfl (by decide) ?_
  have hs22 := M22.st (f := 28) (k := 21) (n := 9) rfl
  have M23 : MI (sP (nA T22 (sz + 22) 21 9) 1228 m (some (sz + 22))) m sz 23 := hs22.1
  have e23 : ag S sz (sP (nA T22 (sz + 22) 21 9) 1228 m (some (sz + 22))) (fun c => c = m) := (e22.tr hs22.2 (by omega)).mo (Nat.le_refl _) (fun c _ q => q.elim id id)
  clear hs22 M22 e22
  generalize (sP (nA T22 (sz + 22) 21 9) 1228 m (some (sz + 22))) = T23 at M23 e23 ⊢
  clear T22
  show vi_W E X 6 Z _ _ _ T23 (sz + 23) _ _
  refine vi_aload_n C dX12_init_203 rfl rfl ?_
  refine vi_bipush (v := 9) C dX12_init_204 rfl (by decide) ?_
  refine vi_newarray (κ := 21) (N := 9) C dX12_init_206 rfl ac_int rfl (by decide) (by decide) (by decide) rfl (by decide) (by omega) (by omega) ?_
  refine vi_putp (i := 1229) (o := some ((sz + 23))) C dX12_init_208 rfl fpX12_85 ((qK_nA_a _ _ _ _ _ (by omega)).trans M23.2.1) rfl rfl (by decide) ?_
  have hs23 := M23.st (f := 29) (k := 21) (n := 9) rfl
  have M24 : MI (sP (nA T23 (sz + 23) 21 9) 1229 m (some (sz + 23))) m sz 24 := hs23.1
  have e24 : ag S sz (sP (nA T23 (sz + 23) 21 9) 1229 m (some (sz + 23))) (fun c => c = m) := (e23.tr hs23.2 (by omega)).mo (Nat.le_refl _) (fun c _ q => q.elim id id)
  clear hs23 M23 e23
  generalize (sP (nA T23 (sz + 23) 21 9) 1229 m (some (sz + 23))) = T24 at M24 e24 ⊢
  clear T23
  show vi_W E X 6 Z _ _ _ T24 (sz + 24) _ _
  refine vi_aload_n C dX12_init_211 rfl rfl ?_
  refine vi_bipush (v := 9) C dX12_init_212 rfl (by decide) ?_
  refine vi_newarray (κ := 21) (N := 9) C dX12_init_214 rfl ac_int rfl (by decide) (by decide) (by decide) rfl (by decide) (by omega) (by omega) ?_
  refine vi_putp (i := 1230) (o := some ((sz + 24))) C dX12_init_216 rfl fpX12_88 ((qK_nA_a _ _ _ _ _ (by omega)).trans M24.2.1) rfl rfl (by decide) ?_
  have hs24 := M24.st (f := 30) (k := 21) (n := 9) rfl
  have M25 : MI (sP (nA T24 (sz + 24) 21 9) 1230 m (some (sz + 24))) m sz 25 := hs24.1
  have e25 : ag S sz (sP (nA T24 (sz + 24) 21 9) 1230 m (some (sz + 24))) (fun c => c = m) := (e24.tr hs24.2 (by omega)).mo (Nat.le_refl _) (fun c _ q => q.elim id id)
  clear hs24 M24 e24
  generalize (sP (nA T24 (sz + 24) 21 9) 1230 m (some (sz + 24))) = T25 at M25 e25 ⊢
  clear T24
  show vi_W E X 6 Z _ _ _ T25 (sz + 25) _ _
  refine vi_aload_n C dX12_init_219 rfl rfl ?_
  refine vi_bipush (v := 9) C dX12_init_220 rfl (by decide) ?_
  refine vi_newarray (κ := 21) (N := 9) C dX12_init_222 rfl ac_int rfl (by decide) (by decide) (by decide) rfl (by decide) (by omega) (by omega) ?_
  refine vi_putp (i := 1231) (o := some ((sz + 25))) C dX12_init_224 rfl fpX12_91 ((qK_nA_a _ _ _ _ _ (by omega)).trans M25.2.1) rfl rfl (by decide) ?_
  have hs25 := M25.st (f := 31) (k := 21) (n := 9) rfl
  have M26 : MI (sP (nA T25 (sz + 25) 21 9) 1231 m (some (sz + 25))) m sz 26 := hs25.1
  have e26 : ag S sz (sP (nA T25 (sz + 25) 21 9) 1231 m (some (sz + 25))) (fun c => c = m) := (e25.tr hs25.2 (by omega)).mo (Nat.le_refl _) (fun c _ q => q.elim id id)
  clear hs25 M25 e25
  generalize (sP (nA T25 (sz + 25) 21 9) 1231 m (some (sz + 25))) = T26 at M26 e26 ⊢
  clear T25
  show vi_W E X 6 Z _ _ _ T26 (sz + 26) _ _
  refine vi_aload_n C dX12_init_227 rfl rfl ?_
  refine vi_bipush (v := 72) C dX12_init_228 rfl (by decide) ?_
  refine vi_newarray (κ := 21) (N := 72) C dX12_init_230 rfl ac_int rfl (by decide) (by decide) (by decide) rfl (by decide) (by omega) (by omega) ?_
  refine vi_putp (i := 1232) (o := some ((sz + 26))) C dX12_init_232 rfl fpX12_94 ((qK_nA_a _ _ _ _ _ (by omega)).trans M26.2.1) rfl rfl (by decide) ?_
  have hs26 := M26.st (f := 32) (k := 21) (n := 72) rfl
  have M27 : MI (sP (nA T26 (sz + 26) 21 72) 1232 m (some (sz + 26))) m sz 27 := hs26.1
  have e27 : ag S sz (sP (nA T26 (sz + 26) 21 72) 1232 m (some (sz + 26))) (fun c => c = m) := (e26.tr hs26.2 (by omega)).mo (Nat.le_refl _) (fun c _ q => q.elim id id)
  clear hs26 M26 e26
  generalize (sP (nA T26 (sz + 26) 21 72) 1232 m (some (sz + 26))) = T27 at M27 e27 ⊢
  clear T26
  show vi_W E X 6 Z _ _ _ T27 (sz + 27) _ _
  refine vi_aload_n C dX12_init_235 rfl rfl ?_
  refine vi_bipush (v := 9) C dX12_init_236 rfl (by decide) ?_
  refine vi_newarray (κ := 21) (N := 9) C dX12_init_238 rfl ac_int rfl (by decide) (by decide) (by decide) rfl (by decide) (by omega) (by omega) ?_
  refine vi_putp (i := 1233) (o := some ((sz + 27))) C dX12_init_240 rfl fpX12_97 ((qK_nA_a _ _ _ _ _ (by omega)).trans M27.2.1) rfl rfl (by decide) ?_
  have hs27 := M27.st (f := 33) (k := 21) (n := 9) rfl
  have M28 : MI (sP (nA T27 (sz + 27) 21 9) 1233 m (some (sz + 27))) m sz 28 := hs27.1
  have e28 : ag S sz (sP (nA T27 (sz + 27) 21 9) 1233 m (some (sz + 27))) (fun c => c = m) := (e27.tr hs27.2 (by omega)).mo (Nat.le_refl _) (fun c _ q => q.elim id id)
  clear hs27 M27 e27
  generalize (sP (nA T27 (sz + 27) 21 9) 1233 m (some (sz + 27))) = T28 at M28 e28 ⊢
  clear T27
  show vi_W E X 6 Z _ _ _ T28 (sz + 28) _ _
  refine vi_aload_n C dX12_init_243 rfl rfl ?_
  refine vi_sipush (v := 2304) C dX12_init_244 rfl (by decide) ?_
  refine vi_newarray (κ := 21) (N := 2304) C dX12_init_247 rfl ac_int rfl (by decide) (by decide) (by decide) rfl (by decide) (by omega) (by omega) ?_
  refine vi_putp (i := 1234) (o := some ((sz + 28))) C dX12_init_249 rfl fpX12_100 ((qK_nA_a _ _ _ _ _ (by omega)).trans M28.2.1) rfl rfl (by decide) ?_
  have hs28 := M28.st (f := 34) (k := 21) (n := 2304) rfl
  have M29 : MI (sP (nA T28 (sz + 28) 21 2304) 1234 m (some (sz + 28))) m sz 29 := hs28.1
  have e29 : ag S sz (sP (nA T28 (sz + 28) 21 2304) 1234 m (some (sz + 28))) (fun c => c = m) := (e28.tr hs28.2 (by omega)).mo (Nat.le_refl _) (fun c _ q => q.elim id id)
  clear hs28 M28 e28
  generalize (sP (nA T28 (sz + 28) 21 2304) 1234 m (some (sz + 28))) = T29 at M29 e29 ⊢
  clear T28
  show vi_W E X 6 Z _ _ _ T29 (sz + 29) _ _
  refine vi_aload_n C dX12_init_252 rfl rfl ?_
  refine vi_ldc C dX12_init_253 rfl kX12_103 ?_
  refine vi_newarray (κ := 21) (N := 57600) C dX12_init_255 rfl ac_int rfl (by decide) (by decide) (by decide) rfl (by decide) (by omega) (by omega) ?_
  refine vi_putp (i := 1235) (o := some ((sz + 29))) C dX12_init_257 rfl fpX12_104 ((qK_nA_a _ _ _ _ _ (by omega)).trans M29.2.1) rfl rfl (by decide) ?_
  have hs29 := M29.st (f := 35) (k := 21) (n := 57600) rfl
  have M30 : MI (sP (nA T29 (sz + 29) 21 57600) 1235 m (some (sz + 29))) m sz 30 := hs29.1
  have e30 : ag S sz (sP (nA T29 (sz + 29) 21 57600) 1235 m (some (sz + 29))) (fun c => c = m) := (e29.tr hs29.2 (by omega)).mo (Nat.le_refl _) (fun c _ q => q.elim id id)
  clear hs29 M29 e29
  generalize (sP (nA T29 (sz + 29) 21 57600) 1235 m (some (sz + 29))) = T30 at M30 e30 ⊢
  clear T29
  show vi_W E X 6 Z _ _ _ T30 (sz + 30) _ _
  refine vi_aload_n C dX12_init_260 rfl rfl ?_
  refine vi_bipush (v := 9) C dX12_init_261 rfl (by decide) ?_
  refine vi_newarray (κ := 21) (N := 9) C dX12_init_263 rfl ac_int rfl (by decide) (by decide) (by decide) rfl (by decide) (by omega) (by omega) ?_
  refine vi_putp (i := 1236) (o := some ((sz + 30))) C dX12_init_265 rfl fpX12_107 ((qK_nA_a _ _ _ _ _ (by omega)).trans M30.2.1) rfl rfl (by decide) ?_
  have hs30 := M30.st (f := 36) (k := 21) (n := 9) rfl
  have M31 : MI (sP (nA T30 (sz + 30) 21 9) 1236 m (some (sz + 30))) m sz 31 := hs30.1
  have e31 : ag S sz (sP (nA T30 (sz + 30) 21 9) 1236 m (some (sz + 30))) (fun c => c = m) := (e30.tr hs30.2 (by omega)).mo (Nat.le_refl _) (fun c _ q => q.elim id id)
  clear hs30 M30 e30
  generalize (sP (nA T30 (sz + 30) 21 9) 1236 m (some (sz + 30))) = T31 at M31 e31 ⊢
  clear T30
  show vi_W E X 6 Z _ _ _ T31 (sz + 31) _ _
  refine vi_aload_n C dX12_init_268 rfl rfl ?_
  refine vi_bipush (v := 9) C dX12_init_269 rfl (by decide) ?_
  refine vi_newarray (κ := 21) (N := 9) C dX12_init_271 rfl ac_int rfl (by decide) (by decide) (by decide) rfl (by decide) (by omega) (by omega) ?_
  refine vi_putp (i := 1237) (o := some ((sz + 31))) C dX12_init_273 rfl fpX12_110 ((qK_nA_a _ _ _ _ _ (by omega)).trans M31.2.1) rfl rfl (by decide) ?_
  have hs31 := M31.st (f := 37) (k := 21) (n := 9) rfl
  have M32 : MI (sP (nA T31 (sz + 31) 21 9) 1237 m (some (sz + 31))) m sz 32 := hs31.1
  have e32 : ag S sz (sP (nA T31 (sz + 31) 21 9) 1237 m (some (sz + 31))) (fun c => c = m) := (e31.tr hs31.2 (by omega)).mo (Nat.le_refl _) (fun c _ q => q.elim id id)
  clear hs31 M31 e31
  generalize (sP (nA T31 (sz + 31) 21 9) 1237 m (some (sz + 31))) = T32 at M32 e32 ⊢
  clear T31
  show vi_W E X 6 Z _ _ _ T32 (sz + 32) _ _
  refine vi_aload_n C dX12_init_276 rfl rfl ?_
  refine vi_bipush (v := 9) C dX12_init_277 rfl (by decide) ?_
  refine vi_newarray (κ := 21) (N := 9) C dX12_init_279 rfl ac_int rfl (by decide) (by decide) (by decide) rfl (by decide) (by omega) (by omega) ?_
  refine vi_putp (i := 1238) (o := some ((sz + 32))) C dX12_init_281 rfl fpX12_113 ((qK_nA_a _ _ _ _ _ (by omega)).trans M32.2.1) rfl rfl (by decide) ?_
  have hs32 := M32.st (f := 38) (k := 21) (n := 9) rfl
  have M33 : MI (sP (nA T32 (sz + 32) 21 9) 1238 m (some (sz + 32))) m sz 33 := hs32.1
  have e33 : ag S sz (sP (nA T32 (sz + 32) 21 9) 1238 m (some (sz + 32))) (fun c => c = m) := (e32.tr hs32.2 (by omega)).mo (Nat.le_refl _) (fun c _ q => q.elim id id)
  clear hs32 M32 e32
  generalize (sP (nA T32 (sz + 32) 21 9) 1238 m (some (sz + 32))) = T33 at M33 e33 ⊢
  clear T32
  show vi_W E X 6 Z _ _ _ T33 (sz + 33) _ _
  refine vi_aload_n C dX12_init_284 rfl rfl ?_
  refine vi_bipush (v := 9) C dX12_init_285 rfl (by decide) ?_
  refine vi_newarray (κ := 21) (N := 9) C dX12_init_287 rfl ac_int rfl (by decide) (by decide) (by decide) rfl (by decide) (by omega) (by omega) ?_
  refine vi_putp (i := 1239) (o := some ((sz + 33))) C dX12_init_289 rfl fpX12_116 ((qK_nA_a _ _ _ _ _ (by omega)).trans M33.2.1) rfl rfl (by decide) ?_
  have hs33 := M33.st (f := 39) (k := 21) (n := 9) rfl
  have M34 : MI (sP (nA T33 (sz + 33) 21 9) 1239 m (some (sz + 33))) m sz 34 := hs33.1
  have e34 : ag S sz (sP (nA T33 (sz + 33) 21 9) 1239 m (some (sz + 33))) (fun c => c = m) := (e33.tr hs33.2 (by omega)).mo (Nat.le_refl _) (fun c _ q => q.elim id id)
  clear hs33 M33 e33
  generalize (sP (nA T33 (sz + 33) 21 9) 1239 m (some (sz + 33))) = T34 at M34 e34 ⊢
  clear T33
  show vi_W E X 6 Z _ _ _ T34 (sz + 34) _ _
  refine vi_aload_n C dX12_init_292 rfl rfl ?_
  refine vi_bipush (v := 9) C dX12_init_293 rfl (by decide) ?_
  refine vi_newarray (κ := 21) (N := 9) C dX12_init_295 rfl ac_int rfl (by decide) (by decide) (by decide) rfl (by decide) (by omega) (by omega) ?_
  refine vi_putp (i := 1240) (o := some ((sz + 34))) C dX12_init_297 rfl fpX12_119 ((qK_nA_a _ _ _ _ _ (by omega)).trans M34.2.1) rfl rfl (by decide) ?_
  have hs34 := M34.st (f := 40) (k := 21) (n := 9) rfl
  have M35 : MI (sP (nA T34 (sz + 34) 21 9) 1240 m (some (sz + 34))) m sz 35 := hs34.1
  have e35 : ag S sz (sP (nA T34 (sz + 34) 21 9) 1240 m (some (sz + 34))) (fun c => c = m) := (e34.tr hs34.2 (by omega)).mo (Nat.le_refl _) (fun c _ q => q.elim id id)
  clear hs34 M34 e34
  generalize (sP (nA T34 (sz + 34) 21 9) 1240 m (some (sz + 34))) = T35 at M35 e35 ⊢
  clear T34
  show vi_W E X 6 Z _ _ _ T35 (sz + 35) _ _
  refine vi_aload_n C dX12_init_300 rfl rfl ?_
  refine vi_bipush (v := 9) C dX12_init_301 rfl (by decide) ?_
  refine vi_newarray (κ := 21) (N := 9) C dX12_init_303 rfl ac_int rfl (by decide) (by decide) (by decide) rfl (by decide) (by omega) (by omega) ?_
  refine vi_putp (i := 1241) (o := some ((sz + 35))) C dX12_init_305 rfl fpX12_122 ((qK_nA_a _ _ _ _ _ (by omega)).trans M35.2.1) rfl rfl (by decide) ?_
  have hs35 := M35.st (f := 41) (k := 21) (n := 9) rfl
  have M36 : MI (sP (nA T35 (sz + 35) 21 9) 1241 m (some (sz + 35))) m sz 36 := hs35.1
  have e36 : ag S sz (sP (nA T35 (sz + 35) 21 9) 1241 m (some (sz + 35))) (fun c => c = m) := (e35.tr hs35.2 (by omega)).mo (Nat.le_refl _) (fun c _ q => q.elim id id)
  clear hs35 M35 e35
  generalize (sP (nA T35 (sz + 35) 21 9) 1241 m (some (sz + 35))) = T36 at M36 e36 ⊢
  clear T35
  show vi_W E X 6 Z _ _ _ T36 (sz + 36) _ _
  refine vi_aload_n C dX12_init_308 rfl rfl ?_
  refine vi_ldc C dX12_init_309 rfl kX12_125 ?_
  refine vi_newarray (κ := 20) (N := 294912) C dX12_init_311 rfl ac_byte rfl (by decide) (by decide) (by decide) rfl (by decide) (by omega) (by omega) ?_
  refine vi_putp (i := 1242) (o := some ((sz + 36))) C dX12_init_313 rfl fpX12_126 ((qK_nA_a _ _ _ _ _ (by omega)).trans M36.2.1) rfl rfl (by decide) ?_
  have hs36 := M36.st (f := 42) (k := 20) (n := 294912) rfl
  have M37 : MI (sP (nA T36 (sz + 36) 20 294912) 1242 m (some (sz + 36))) m sz 37 := hs36.1
  have e37 : ag S sz (sP (nA T36 (sz + 36) 20 294912) 1242 m (some (sz + 36))) (fun c => c = m) := (e36.tr hs36.2 (by omega)).mo (Nat.le_refl _) (fun c _ q => q.elim id id)
  clear hs36 M36 e36
  generalize (sP (nA T36 (sz + 36) 20 294912) 1242 m (some (sz + 36))) = T37 at M37 e37 ⊢
  clear T36
  show vi_W E X 6 Z _ _ _ T37 (sz + 37) _ _
  refine vi_aload_n C dX12_init_316 rfl rfl ?_
  refine vi_bipush (v := 100) C dX12_init_317 rfl (by decide) ?_
  refine vi_newarray (κ := 21) (N := 100) C dX12_init_319 rfl ac_int rfl (by decide) (by decide) (by decide) rfl (by decide) (by omega) (by omega) ?_
  refine vi_putp (i := 1243) (o := some ((sz + 37))) C dX12_init_321 rfl fpX12_130 ((qK_nA_a _ _ _ _ _ (by omega)).trans M37.2.1) rfl rfl (by decide) ?_
  have hs37 := M37.st (f := 43) (k := 21) (n := 100) rfl
  have M38 : MI (sP (nA T37 (sz + 37) 21 100) 1243 m (some (sz + 37))) m sz 38 := hs37.1
  have e38 : ag S sz (sP (nA T37 (sz + 37) 21 100) 1243 m (some (sz + 37))) (fun c => c = m) := (e37.tr hs37.2 (by omega)).mo (Nat.le_refl _) (fun c _ q => q.elim id id)
  clear hs37 M37 e37
  generalize (sP (nA T37 (sz + 37) 21 100) 1243 m (some (sz + 37))) = T38 at M38 e38 ⊢
  clear T37
  show vi_W E X 6 Z _ _ _ T38 (sz + 38) _ _
  refine vi_aload_n C dX12_init_324 rfl rfl ?_
  refine vi_sipush (v := 2400) C dX12_init_325 rfl (by decide) ?_
  refine vi_newarray (κ := 21) (N := 2400) C dX12_init_328 rfl ac_int rfl (by decide) (by decide) (by decide) rfl (by decide) (by omega) (by omega) ?_
  refine vi_putp (i := 1244) (o := some ((sz + 38))) C dX12_init_330 rfl fpX12_133 ((qK_nA_a _ _ _ _ _ (by omega)).trans M38.2.1) rfl rfl (by decide) ?_
  have hs38 := M38.st (f := 44) (k := 21) (n := 2400) rfl
  have M39 : MI (sP (nA T38 (sz + 38) 21 2400) 1244 m (some (sz + 38))) m sz 39 := hs38.1
  have e39 : ag S sz (sP (nA T38 (sz + 38) 21 2400) 1244 m (some (sz + 38))) (fun c => c = m) := (e38.tr hs38.2 (by omega)).mo (Nat.le_refl _) (fun c _ q => q.elim id id)
  clear hs38 M38 e38
  generalize (sP (nA T38 (sz + 38) 21 2400) 1244 m (some (sz + 38))) = T39 at M39 e39 ⊢
  clear T38
  show vi_W E X 6 Z _ _ _ T39 (sz + 39) _ _
  refine vi_aload_n C dX12_init_333 rfl rfl ?_
  refine vi_sipush (v := 1608) C dX12_init_334 rfl (by decide) ?_
  refine vi_newarray (κ := 21) (N := 1608) C dX12_init_337 rfl ac_int rfl (by decide) (by decide) (by decide) rfl (by decide) (by omega) (by omega) ?_
  refine vi_putp (i := 1246) (o := some ((sz + 39))) C dX12_init_339 rfl fpX12_136 ((qK_nA_a _ _ _ _ _ (by omega)).trans M39.2.1) rfl rfl (by decide) ?_
  have hs39 := M39.st (f := 46) (k := 21) (n := 1608) rfl
  have M40 : MI (sP (nA T39 (sz + 39) 21 1608) 1246 m (some (sz + 39))) m sz 40 := hs39.1
  have e40 : ag S sz (sP (nA T39 (sz + 39) 21 1608) 1246 m (some (sz + 39))) (fun c => c = m) := (e39.tr hs39.2 (by omega)).mo (Nat.le_refl _) (fun c _ q => q.elim id id)
  clear hs39 M39 e39
  generalize (sP (nA T39 (sz + 39) 21 1608) 1246 m (some (sz + 39))) = T40 at M40 e40 ⊢
  clear T39
  show vi_W E X 6 Z _ _ _ T40 (sz + 40) _ _
  refine vi_aload_n C dX12_init_342 rfl rfl ?_
  refine vi_sipush (v := 20100) C dX12_init_343 rfl (by decide) ?_
  refine vi_newarray (κ := 21) (N := 20100) C dX12_init_346 rfl ac_int rfl (by decide) (by decide) (by decide) rfl (by decide) (by omega) (by omega) ?_
  refine vi_putp (i := 1247) (o := some ((sz + 40))) C dX12_init_348 rfl fpX12_139 ((qK_nA_a _ _ _ _ _ (by omega)).trans M40.2.1) rfl rfl (by decide) ?_
  have hs40 := M40.st (f := 47) (k := 21) (n := 20100) rfl
  have M41 : MI (sP (nA T40 (sz + 40) 21 20100) 1247 m (some (sz + 40))) m sz 41 := hs40.1
  have e41 : ag S sz (sP (nA T40 (sz + 40) 21 20100) 1247 m (some (sz + 40))) (fun c => c = m) := (e40.tr hs40.2 (by omega)).mo (Nat.le_refl _) (fun c _ q => q.elim id id)
  clear hs40 M40 e40
  generalize (sP (nA T40 (sz + 40) 21 20100) 1247 m (some (sz + 40))) = T41 at M41 e41 ⊢
  clear T40
  show vi_W E X 6 Z _ _ _ T41 (sz + 41) _ _
  refine vi_aload_n C dX12_init_351 rfl rfl ?_
  refine vi_sipush (v := 201) C dX12_init_352 rfl (by decide) ?_
  refine vi_newarray (κ := 21) (N := 201) C dX12_init_355 rfl ac_int rfl (by decide) (by decide) (by decide) rfl (by decide) (by omega) (by omega) ?_
  refine vi_putp (i := 1248) (o := some ((sz + 41))) C dX12_init_357 rfl fpX12_142 ((qK_nA_a _ _ _ _ _ (by omega)).trans M41.2.1) rfl rfl (by decide) ?_
  have hs41 := M41.st (f := 48) (k := 21) (n := 201) rfl
  have M42 : MI (sP (nA T41 (sz + 41) 21 201) 1248 m (some (sz + 41))) m sz 42 := hs41.1
  have e42 : ag S sz (sP (nA T41 (sz + 41) 21 201) 1248 m (some (sz + 41))) (fun c => c = m) := (e41.tr hs41.2 (by omega)).mo (Nat.le_refl _) (fun c _ q => q.elim id id)
  clear hs41 M41 e41
  generalize (sP (nA T41 (sz + 41) 21 201) 1248 m (some (sz + 41))) = T42 at M42 e42 ⊢
  clear T41
  show vi_W E X 6 Z _ _ _ T42 (sz + 42) _ _
  refine vi_aload_n C dX12_init_360 rfl rfl ?_
  refine vi_sipush (v := 400) C dX12_init_361 rfl (by decide) ?_
  refine vi_newarray (κ := 21) (N := 400) C dX12_init_364 rfl ac_int rfl (by decide) (by decide) (by decide) rfl (by decide) (by omega) (by omega) ?_
  refine vi_putp (i := 1249) (o := some ((sz + 42))) C dX12_init_366 rfl fpX12_145 ((qK_nA_a _ _ _ _ _ (by omega)).trans M42.2.1) rfl rfl (by decide) ?_
  have hs42 := M42.st (f := 49) (k := 21) (n := 400) rfl
  have M43 : MI (sP (nA T42 (sz + 42) 21 400) 1249 m (some (sz + 42))) m sz 43 := hs42.1
  have e43 : ag S sz (sP (nA T42 (sz + 42) 21 400) 1249 m (some (sz + 42))) (fun c => c = m) := (e42.tr hs42.2 (by omega)).mo (Nat.le_refl _) (fun c _ q => q.elim id id)
  clear hs42 M42 e42
  generalize (sP (nA T42 (sz + 42) 21 400) 1249 m (some (sz + 42))) = T43 at M43 e43 ⊢
  clear T42
  show vi_W E X 6 Z _ _ _ T43 (sz + 43) _ _
  refine vi_aload_n C dX12_init_369 rfl rfl ?_
  refine vi_bipush (v := 9) C dX12_init_370 rfl (by decide) ?_
  refine vi_newarray (κ := 21) (N := 9) C dX12_init_372 rfl ac_int rfl (by decide) (by decide) (by decide) rfl (by decide) (by omega) (by omega) ?_
  refine vi_putp (i := 1251) (o := some ((sz + 43))) C dX12_init_374 rfl fpX12_148 ((qK_nA_a _ _ _ _ _ (by omega)).trans M43.2.1) rfl rfl (by decide) ?_
  have hs43 := M43.st (f := 51) (k := 21) (n := 9) rfl
  have M44 : MI (sP (nA T43 (sz + 43) 21 9) 1251 m (some (sz + 43))) m sz 44 := hs43.1
  have e44 : ag S sz (sP (nA T43 (sz + 43) 21 9) 1251 m (some (sz + 43))) (fun c => c = m) := (e43.tr hs43.2 (by omega)).mo (Nat.le_refl _) (fun c _ q => q.elim id id)
  clear hs43 M43 e43
  generalize (sP (nA T43 (sz + 43) 21 9) 1251 m (some (sz + 43))) = T44 at M44 e44 ⊢
  clear T43
  show vi_W E X 6 Z _ _ _ T44 (sz + 44) _ _
  refine vi_aload_n C dX12_init_377 rfl rfl ?_
  refine vi_bipush (v := 9) C dX12_init_378 rfl (by decide) ?_
  refine vi_newarray (κ := 21) (N := 9) C dX12_init_380 rfl ac_int rfl (by decide) (by decide) (by decide) rfl (by decide) (by omega) (by omega) ?_
  refine vi_putp (i := 1252) (o := some ((sz + 44))) C dX12_init_382 rfl fpX12_151 ((qK_nA_a _ _ _ _ _ (by omega)).trans M44.2.1) rfl rfl (by decide) ?_
  have hs44 := M44.st (f := 52) (k := 21) (n := 9) rfl
  have M45 : MI (sP (nA T44 (sz + 44) 21 9) 1252 m (some (sz + 44))) m sz 45 := hs44.1
  have e45 : ag S sz (sP (nA T44 (sz + 44) 21 9) 1252 m (some (sz + 44))) (fun c => c = m) := (e44.tr hs44.2 (by omega)).mo (Nat.le_refl _) (fun c _ q => q.elim id id)
  clear hs44 M44 e44
  generalize (sP (nA T44 (sz + 44) 21 9) 1252 m (some (sz + 44))) = T45 at M45 e45 ⊢
  clear T44
  show vi_W E X 6 Z _ _ _ T45 (sz + 45) _ _
  refine vi_aload_n C dX12_init_385 rfl rfl ?_
  refine vi_bipush (v := 100) C dX12_init_386 rfl (by decide) ?_
  refine vi_newarray (κ := 21) (N := 100) C dX12_init_388 rfl ac_int rfl (by decide) (by decide) (by decide) rfl (by decide) (by omega) (by omega) ?_
  refine vi_putp (i := 1257) (o := some ((sz + 45))) C dX12_init_390 rfl fpX12_154 ((qK_nA_a _ _ _ _ _ (by omega)).trans M45.2.1) rfl rfl (by decide) ?_
  have hs45 := M45.st (f := 57) (k := 21) (n := 100) rfl
  have M46 : MI (sP (nA T45 (sz + 45) 21 100) 1257 m (some (sz + 45))) m sz 46 := hs45.1
  have e46 : ag S sz (sP (nA T45 (sz + 45) 21 100) 1257 m (some (sz + 45))) (fun c => c = m) := (e45.tr hs45.2 (by omega)).mo (Nat.le_refl _) (fun c _ q => q.elim id id)
  clear hs45 M45 e45
  generalize (sP (nA T45 (sz + 45) 21 100) 1257 m (some (sz + 45))) = T46 at M46 e46 ⊢
  clear T45
  show vi_W E X 6 Z _ _ _ T46 (sz + 46) _ _
  refine vi_aload_n C dX12_init_393 rfl rfl ?_
  refine vi_bipush (v := 16) C dX12_init_394 rfl (by decide) ?_
  refine vi_newarray (κ := 21) (N := 16) C dX12_init_396 rfl ac_int rfl (by decide) (by decide) (by decide) rfl (by decide) (by omega) (by omega) ?_
  refine vi_putp (i := 1259) (o := some ((sz + 46))) C dX12_init_398 rfl fpX12_157 ((qK_nA_a _ _ _ _ _ (by omega)).trans M46.2.1) rfl rfl (by decide) ?_
  have hs46 := M46.st (f := 59) (k := 21) (n := 16) rfl
  have M47 : MI (sP (nA T46 (sz + 46) 21 16) 1259 m (some (sz + 46))) m sz 47 := hs46.1
  have e47 : ag S sz (sP (nA T46 (sz + 46) 21 16) 1259 m (some (sz + 46))) (fun c => c = m) := (e46.tr hs46.2 (by omega)).mo (Nat.le_refl _) (fun c _ q => q.elim id id)
  clear hs46 M46 e46
  generalize (sP (nA T46 (sz + 46) 21 16) 1259 m (some (sz + 46))) = T47 at M47 e47 ⊢
  clear T46
  show vi_W E X 6 Z _ _ _ T47 (sz + 47) _ _
  refine vi_aload_n C dX12_init_401 rfl rfl ?_
  refine vi_bipush (v := 16) C dX12_init_402 rfl (by decide) ?_
  refine vi_newarray (κ := 21) (N := 16) C dX12_init_404 rfl ac_int rfl (by decide) (by decide) (by decide) rfl (by decide) (by omega) (by omega) ?_
  refine vi_putp (i := 1260) (o := some ((sz + 47))) C dX12_init_406 rfl fpX12_160 ((qK_nA_a _ _ _ _ _ (by omega)).trans M47.2.1) rfl rfl (by decide) ?_
  have hs47 := M47.st (f := 60) (k := 21) (n := 16) rfl
  have M48 : MI (sP (nA T47 (sz + 47) 21 16) 1260 m (some (sz + 47))) m sz 48 := hs47.1
  have e48 : ag S sz (sP (nA T47 (sz + 47) 21 16) 1260 m (some (sz + 47))) (fun c => c = m) := (e47.tr hs47.2 (by omega)).mo (Nat.le_refl _) (fun c _ q => q.elim id id)
  clear hs47 M47 e47
  generalize (sP (nA T47 (sz + 47) 21 16) 1260 m (some (sz + 47))) = T48 at M48 e48 ⊢
  clear T47
  show vi_W E X 6 Z _ _ _ T48 (sz + 48) _ _
  refine vi_aload_n C dX12_init_409 rfl rfl ?_
  refine vi_bipush (v := 16) C dX12_init_410 rfl (by decide) ?_
  refine vi_newarray (κ := 21) (N := 16) C dX12_init_412 rfl ac_int rfl (by decide) (by decide) (by decide) rfl (by decide) (by omega) (by omega) ?_
  refine vi_putp (i := 1261) (o := some ((sz + 48))) C dX12_init_414 rfl fpX12_163 ((qK_nA_a _ _ _ _ _ (by omega)).trans M48.2.1) rfl rfl (by decide) ?_
  have hs48 := M48.st (f := 61) (k := 21) (n := 16) rfl
  have M49 : MI (sP (nA T48 (sz + 48) 21 16) 1261 m (some (sz + 48))) m sz 49 := hs48.1
  have e49 : ag S sz (sP (nA T48 (sz + 48) 21 16) 1261 m (some (sz + 48))) (fun c => c = m) := (e48.tr hs48.2 (by omega)).mo (Nat.le_refl _) (fun c _ q => q.elim id id)
  clear hs48 M48 e48
  generalize (sP (nA T48 (sz + 48) 21 16) 1261 m (some (sz + 48))) = T49 at M49 e49 ⊢
  clear T48
  show vi_W E X 6 Z _ _ _ T49 (sz + 49) _ _
  refine vi_aload_n C dX12_init_417 rfl rfl ?_
  refine vi_bipush (v := 16) C dX12_init_418 rfl (by decide) ?_
  refine vi_newarray (κ := 21) (N := 16) C dX12_init_420 rfl ac_int rfl (by decide) (by decide) (by decide) rfl (by decide) (by omega) (by omega) ?_
  refine vi_putp (i := 1262) (o := some ((sz + 49))) C dX12_init_422 rfl fpX12_166 ((qK_nA_a _ _ _ _ _ (by omega)).trans M49.2.1) rfl rfl (by decide) ?_
  have hs49 := M49.st (f := 62) (k := 21) (n := 16) rfl
  have M50 : MI (sP (nA T49 (sz + 49) 21 16) 1262 m (some (sz + 49))) m sz 50 := hs49.1
  have e50 : ag S sz (sP (nA T49 (sz + 49) 21 16) 1262 m (some (sz + 49))) (fun c => c = m) := (e49.tr hs49.2 (by omega)).mo (Nat.le_refl _) (fun c _ q => q.elim id id)
  clear hs49 M49 e49
  generalize (sP (nA T49 (sz + 49) 21 16) 1262 m (some (sz + 49))) = T50 at M50 e50 ⊢
  clear T49
  show vi_W E X 6 Z _ _ _ T50 (sz + 50) _ _
  refine vi_aload_n C dX12_init_425 rfl rfl ?_
  refine vi_bipush (v := 16) C dX12_init_426 rfl (by decide) ?_
  refine vi_newarray (κ := 21) (N := 16) C dX12_init_428 rfl ac_int rfl (by decide) (by decide) (by decide) rfl (by decide) (by omega) (by omega) ?_
  refine vi_putp (i := 1263) (o := some ((sz + 50))) C dX12_init_430 rfl fpX12_169 ((qK_nA_a _ _ _ _ _ (by omega)).trans M50.2.1) rfl rfl (by decide) ?_
  have hs50 := M50.st (f := 63) (k := 21) (n := 16) rfl
  have M51 : MI (sP (nA T50 (sz + 50) 21 16) 1263 m (some (sz + 50))) m sz 51 := hs50.1
  have e51 : ag S sz (sP (nA T50 (sz + 50) 21 16) 1263 m (some (sz + 50))) (fun c => c = m) := (e50.tr hs50.2 (by omega)).mo (Nat.le_refl _) (fun c _ q => q.elim id id)
  clear hs50 M50 e50
  generalize (sP (nA T50 (sz + 50) 21 16) 1263 m (some (sz + 50))) = T51 at M51 e51 ⊢
  clear T50
  show vi_W E X 6 Z _ _ _ T51 (sz + 51) _ _
  refine vi_aload_n C dX12_init_433 rfl rfl ?_
  refine vi_bipush (v := 16) C dX12_init_434 rfl (by decide) ?_
  refine vi_newarray (κ := 21) (N := 16) C dX12_init_436 rfl ac_int rfl (by decide) (by decide) (by decide) rfl (by decide) (by omega) (by omega) ?_
  refine vi_putp (i := 1264) (o := some ((sz + 51))) C dX12_init_438 rfl fpX12_172 ((qK_nA_a _ _ _ _ _ (by omega)).trans M51.2.1) rfl rfl (by decide) ?_
  have hs51 := M51.st (f := 64) (k := 21) (n := 16) rfl
  have M52 : MI (sP (nA T51 (sz + 51) 21 16) 1264 m (some (sz + 51))) m sz 52 := hs51.1
  have e52 : ag S sz (sP (nA T51 (sz + 51) 21 16) 1264 m (some (sz + 51))) (fun c => c = m) := (e51.tr hs51.2 (by omega)).mo (Nat.le_refl _) (fun c _ q => q.elim id id)
  clear hs51 M51 e51
  generalize (sP (nA T51 (sz + 51) 21 16) 1264 m (some (sz + 51))) = T52 at M52 e52 ⊢
  clear T51
  show vi_W E X 6 Z _ _ _ T52 (sz + 52) _ _
  refine vi_aload_n C dX12_init_441 rfl rfl ?_
  refine vi_bipush (v := 16) C dX12_init_442 rfl (by decide) ?_
  refine vi_newarray (κ := 23) (N := 16) C dX12_init_444 rfl ac_boolean rfl (by decide) (by decide) (by decide) rfl (by decide) (by omega) (by omega) ?_
  refine vi_putp (i := 1265) (o := some ((sz + 52))) C dX12_init_446 rfl fpX12_175 ((qK_nA_a _ _ _ _ _ (by omega)).trans M52.2.1) rfl rfl (by decide) ?_
  have hs52 := M52.st (f := 65) (k := 23) (n := 16) rfl
  have M53 : MI (sP (nA T52 (sz + 52) 23 16) 1265 m (some (sz + 52))) m sz 53 := hs52.1
  have e53 : ag S sz (sP (nA T52 (sz + 52) 23 16) 1265 m (some (sz + 52))) (fun c => c = m) := (e52.tr hs52.2 (by omega)).mo (Nat.le_refl _) (fun c _ q => q.elim id id)
  clear hs52 M52 e52
  generalize (sP (nA T52 (sz + 52) 23 16) 1265 m (some (sz + 52))) = T53 at M53 e53 ⊢
  clear T52
  show vi_W E X 6 Z _ _ _ T53 (sz + 53) _ _
  refine vi_aload_n C dX12_init_449 rfl rfl ?_
  refine vi_bipush (v := 16) C dX12_init_450 rfl (by decide) ?_
  refine vi_newarray (κ := 21) (N := 16) C dX12_init_452 rfl ac_int rfl (by decide) (by decide) (by decide) rfl (by decide) (by omega) (by omega) ?_
  refine vi_putp (i := 1266) (o := some ((sz + 53))) C dX12_init_454 rfl fpX12_178 ((qK_nA_a _ _ _ _ _ (by omega)).trans M53.2.1) rfl rfl (by decide) ?_
  have hs53 := M53.st (f := 66) (k := 21) (n := 16) rfl
  have M54 : MI (sP (nA T53 (sz + 53) 21 16) 1266 m (some (sz + 53))) m sz 54 := hs53.1
  have e54 : ag S sz (sP (nA T53 (sz + 53) 21 16) 1266 m (some (sz + 53))) (fun c => c = m) := (e53.tr hs53.2 (by omega)).mo (Nat.le_refl _) (fun c _ q => q.elim id id)
  clear hs53 M53 e53
  generalize (sP (nA T53 (sz + 53) 21 16) 1266 m (some (sz + 53))) = T54 at M54 e54 ⊢
  clear T53
  show vi_W E X 6 Z _ _ _ T54 (sz + 54) _ _
  refine vi_aload_n C dX12_init_457 rfl rfl ?_
  refine vi_sipush (v := 256) C dX12_init_458 rfl (by decide) ?_
  refine vi_newarray (κ := 21) (N := 256) C dX12_init_461 rfl ac_int rfl (by decide) (by decide) (by decide) rfl (by decide) (by omega) (by omega) ?_
  refine vi_putp (i := 1267) (o := some ((sz + 54))) C dX12_init_463 rfl fpX12_181 ((qK_nA_a _ _ _ _ _ (by omega)).trans M54.2.1) rfl rfl (by decide) ?_
  have hs54 := M54.st (f := 67) (k := 21) (n := 256) rfl
  have M55 : MI (sP (nA T54 (sz + 54) 21 256) 1267 m (some (sz + 54))) m sz 55 := hs54.1
  have e55 : ag S sz (sP (nA T54 (sz + 54) 21 256) 1267 m (some (sz + 54))) (fun c => c = m) := (e54.tr hs54.2 (by omega)).mo (Nat.le_refl _) (fun c _ q => q.elim id id)
  clear hs54 M54 e54
  generalize (sP (nA T54 (sz + 54) 21 256) 1267 m (some (sz + 54))) = T55 at M55 e55 ⊢
  clear T54
  show vi_W E X 6 Z _ _ _ T55 (sz + 55) _ _
  exact vi_cut [(0, .ref m), (1, .int x1), (2, .int x2), (3, .int x3), (4, .int x4)] ⟨rfl, rfl, rfl, rfl, rfl, trivial⟩ (vi_widen (by omega) (by omega) (go T55 M55 e55))
