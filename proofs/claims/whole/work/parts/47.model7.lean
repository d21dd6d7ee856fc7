/-- a new reference: its numbers, its replicas, its sessions; all else 0 -/
def M0 (S : vS) (sz m b N : Nat) (V L P : Int32) : Prop := MO S sz m b ∧ MR S b N ∧ (vI S 1201 m = nI N ∧ vI S 1202 m = V ∧ vI S 1203 m = L ∧ vI S 1204 m = 1 ∧ vI S 1211 m = P) ∧ (∀ f, f ≠ 1201 → f ≠ 1202 → f ≠ 1203 → f ≠ 1204 → f ≠ 1211 → f ≠ 1245 → vI S f m = 0) ∧ (∀ j, vR S (b + 49) j = if j < 16 then -1 else 0) ∧ ∀ a, b ≤ a → a < b + 55 → a ≠ b + 6 → a ≠ b + 35 → a ≠ b + 32 → a ≠ b + 36 → a ≠ b + 38 → a ≠ b + 34 → a ≠ b + 49 → ∀ j, vR S a j = 0
theorem MR.fr {S S1 : vS} {b N : Nat} (R : MR S b N) (h : ∀ a, a ≠ b + 49 → vR S1 a = vR S a) : MR S1 b N := by
  obtain ⟨r1, r2, r3, r4, r5⟩ := R
  exact ⟨fun r => by rw [h _ (by omega)]; exact r1 r, fun r => by rw [h _ (by omega)]; exact r2 r, fun r => by rw [h _ (by omega)]; exact r3 r, fun r => by rw [h _ (by omega)]; exact r4 r, fun p => by rw [h _ (by omega)]; exact r5 p⟩

theorem mtab_j0 : ∀ f, f < 68 → ∀ x, mtab f = some x → x.1 < 55 := by
  intro f hf x h
  have h2 : ∀ f, f < 68 → ((mtab f).map (fun x => decide (x.1 < 55))).getD true = true := by decide +kernel
  have h3 := h2 f hf
  rw [h] at h3
  simpa using h3
theorem mtab_j {f j k n : Nat} (h : mtab f = some (j, k, n)) : j < 55 := mtab_j0 f (mtab_lt h) _ h

set_option maxRecDepth 100000 in
set_option maxHeartbeats 8000000 in
/-- new reference, the loop over its sessions -/
theorem m_X12_init_d {E : vE} {S : vS} {sz m N : Nat} {x2 x3 x4 : Int32} (hm : m < sz) (X : vX) (C : vi_C E X yX12_init cX12_init 6 none 3 55 475365 (45 * 3)) : ∀ (n i : Nat) (T : vS), i + n = 16 → MO T (sz + 55) m sz → MR T sz N → (vI T 1201 m = nI N ∧ vI T 1202 m = (clI 1 16 x2) ∧ vI T 1203 m = (clI 1 32 x3) ∧ vI T 1204 m = 1 ∧ vI T 1211 m = (clI 2 40 x4)) ∧ (∀ f, f ≠ 1201 → f ≠ 1202 → f ≠ 1203 → f ≠ 1204 → f ≠ 1211 → f ≠ 1245 → vI T f m = 0) → (∀ a, sz ≤ a → a < sz + 55 → a ≠ sz + 6 → a ≠ sz + 35 → a ≠ sz + 32 → a ≠ sz + 36 → a ≠ sz + 38 → a ≠ sz + 34 → a ≠ sz + 49 → ∀ j, vR T a j = 0) → (∀ j, vR T (sz + 49) j = if j < i then -1 else 0) → ag S sz T (fun c => c = m) → vi_W E X 6 (vi_Z E X (fun r S1 z1 => r = none ∧ z1 = sz + 55 ∧ M0 S1 (sz + 55) m sz N (clI 1 16 x2) (clI 1 32 x3) (clI 2 40 x4) ∧ ag S sz S1 (fun c => c = m)) 55 475365) 637 [(0, .ref m), (5, .int (nI i))] [] T (sz + 55) 55 475365 := by
  intro n
  induction n with
  | zero =>
    intro i T hi M R I Zr hs e
    refine vi_iload C dX12_init_637 rfl rfl ?_
    refine vi_bipush (v := 16) C dX12_init_639 rfl (by decide) ?_
    refine vi_icmp_ge (t' := 658) C dX12_init_641 rfl (by decide) (fun hc641 => ?_) (fun hc641 => ?_)
    · exact vi_return C dX12_init_658 rfl (by omega) (by omega) (by
          obtain rfl : i = 16 := by omega
          exact ⟨rfl, rfl, ⟨M, R, I.1, I.2, hs, Zr⟩, e⟩)
    · exact absurd (nI_le (a := 16) (b := i) (by omega) (by omega)) hc641
  | succ n ih =>
    intro i T hi M R I Zr hs e
    refine vi_iload C dX12_init_637 rfl rfl ?_
    refine vi_bipush (v := 16) C dX12_init_639 rfl (by decide) ?_
    refine vi_icmp_ge (t' := 658) C dX12_init_641 rfl (by decide) (fun hc641 => ?_) (fun hc641 => ?_)
    · exact absurd hc641 (nI_ge (a := i) (b := 16) (by omega) (by omega))
    · refine vi_aload_n C dX12_init_644 rfl rfl ?_
      refine vi_getr (i := 1262) C dX12_init_645 rfl fX12_166 M.2.1 rfl rfl (M.2.2 62 49 21 16 rfl).1 ?_
      refine vi_iload C dX12_init_648 rfl rfl ?_
      refine vi_iconst (v := -1) C dX12_init_650 rfl (by decide) ?_
      refine vi_iastore C dX12_init_651 rfl (M.2.2 62 49 21 16 rfl).2.1 (by rw [(M.2.2 62 49 21 16 rfl).2.2.1]; exact vp_in_nI (show i < 16 by omega) (by omega)) ?_
      refine vi_iinc C dX12_init_652 rfl rfl (by decide) ?_
      refine vi_goto (t' := 637) C dX12_init_655 (by decide) ?_
      rw [nI_clamp (show i < 2 ^ 31 by omega)]
      have e1 : ag T (sz + 55) (sR T (sz + 49) i (-1)) (fun c => c = sz + 49) := ag.sR
      have r1 : ∀ a, a ≠ sz + 49 → vR (sR T (sz + 49) i (-1)) a = vR T a := fun a h => funext fun j => qR_sR_a _ _ _ _ _ _ h
      refine vi_cut [(0, .ref m), (5, .int (nI (i + 1)))] ⟨rfl, by rw [← nI_1]; rfl, trivial⟩ (ih (i + 1) _ (by omega) (M.fr e1 (Nat.le_refl _) (fun f => qP_sR _ _ _ _ _ _)) (R.fr r1) ⟨⟨(qI_sR _ _ _ _ _ _).trans I.1.1, (qI_sR _ _ _ _ _ _).trans I.1.2.1, (qI_sR _ _ _ _ _ _).trans I.1.2.2.1, (qI_sR _ _ _ _ _ _).trans I.1.2.2.2.1, (qI_sR _ _ _ _ _ _).trans I.1.2.2.2.2⟩, fun f h1 h2 h3 h4 h5 h6 => (qI_sR _ _ _ _ _ _).trans (I.2 f h1 h2 h3 h4 h5 h6)⟩ (fun a h1 h2 h3 h4 h5 h6 h7 h8 h9 j => by rw [r1 a h9]; exact Zr a h1 h2 h3 h4 h5 h6 h7 h8 h9 j) (fun j => ?_) ((e.tr e1 (by omega)).mo (Nat.le_refl _) (fun c hc q => by omega)))
      by_cases c : j = i
      · subst c; rw [qR_sR_s, if_pos (by omega)]
      · rw [qR_sR_i _ _ _ _ _ _ c, hs]
        by_cases d : j < i
        · rw [if_pos d, if_pos (by omega)]
        · rw [if_neg d, if_neg (by omega)]
set_option maxRecDepth 100000 in
set_option maxHeartbeats 8000000 in
/-- new reference -/
theorem m_X12_init {E : vE} {S : vS} {sz m N : Nat} {x1 x2 x3 x4 : Int32} (hk : vK S m = 13) (hm : m < sz) (hz : ∀ f, vI S f m = 0) (hN : clI 3 9 x1 = nI N) (hN9 : N ≤ 9) : vi_Met E yX12_init cX12_init 6 none 3 55 475365 [.ref m, .int x1, .int x2, .int x3, .int x4] S sz (fun r S1 z1 => r = none ∧ z1 = sz + 55 ∧ M0 S1 (sz + 55) m sz N (clI 1 16 x2) (clI 1 32 x3) (clI 2 40 x4) ∧ ag S sz S1 (fun c => c = m)) := by
  refine vi_met (by decide) (Nat.le_of_ble_eq_true rfl) ?_
  intro X C
  refine m_X12_init_a hk hm hz (Nat.le_refl _) (Nat.le_refl _) X C (fun T MT eT => ?_)
  obtain ⟨q1, q2, q3, q4, q5, q6⟩ := MT
  refine m_X12_init_b q2 X C ?_
  have e1 : ag T sz (sI (sI (sI (sI T 1201 m (clI 3 9 x1)) 1211 m (clI 2 40 x4)) 1202 m (clI 1 16 x2)) 1203 m (clI 1 32 x3)) (fun c => c = m) := ((((ag.sI (sz := sz)).tr (ag.sI (sz := sz)) (Nat.le_refl _)).tr (ag.sI (sz := sz)) (Nat.le_refl _)).tr (ag.sI (sz := sz)) (Nat.le_refl _)).mo (Nat.le_refl _) (fun c _ q => by omega)
  have rr : ∀ a j, vR (sI (sI (sI (sI T 1201 m (clI 3 9 x1)) 1211 m (clI 2 40 x4)) 1202 m (clI 1 16 x2)) 1203 m (clI 1 32 x3)) a j = vR T a j := fun a j => by rw [qR_sI, qR_sI, qR_sI, qR_sI]
  have MT4 : MO (sI (sI (sI (sI T 1201 m (clI 3 9 x1)) 1211 m (clI 2 40 x4)) 1202 m (clI 1 16 x2)) 1203 m (clI 1 32 x3)) (sz + 55) m sz := by
    refine ⟨⟨by omega, hm, Nat.le_refl _⟩, by rw [qK_sI, qK_sI, qK_sI, qK_sI]; exact q2, fun f j k n h => ?_⟩
    have hj : j < 55 := mtab_j h
    obtain ⟨g1, g2, g3⟩ := q5 f j k n h hj
    exact ⟨by rw [qP_sI, qP_sI, qP_sI, qP_sI]; exact g1, by rw [qK_sI, qK_sI, qK_sI, qK_sI]; exact g2, by rw [qN_sI, qN_sI, qN_sI, qN_sI]; exact g3, hj⟩
  have R0 : MR (sI (sI (sI (sI T 1201 m (clI 3 9 x1)) 1211 m (clI 2 40 x4)) 1202 m (clI 1 16 x2)) 1203 m (clI 1 32 x3)) sz 0 := by
    refine ⟨fun r => ?_, fun r => ?_, fun r => ?_, fun r => ?_, fun p => ?_⟩ <;> rw [rr, q6 _ (by omega) (by omega)] <;> simp
  have Z0 : MZ (sI (sI (sI (sI T 1201 m (clI 3 9 x1)) 1211 m (clI 2 40 x4)) 1202 m (clI 1 16 x2)) 1203 m (clI 1 32 x3)) sz := fun a h1 h2 _ _ _ _ _ _ j => by rw [rr]; exact q6 a h1 h2 j
  have i1 : vI (sI (sI (sI (sI T 1201 m (clI 3 9 x1)) 1211 m (clI 2 40 x4)) 1202 m (clI 1 16 x2)) 1203 m (clI 1 32 x3)) 1201 m = nI N := by rw [qI_sI_i _ _ _ _ _ _ (by decide), qI_sI_i _ _ _ _ _ _ (by decide), qI_sI_i _ _ _ _ _ _ (by decide), qI_sI_s]; exact hN
  have i2 : vI (sI (sI (sI (sI T 1201 m (clI 3 9 x1)) 1211 m (clI 2 40 x4)) 1202 m (clI 1 16 x2)) 1203 m (clI 1 32 x3)) 1202 m = clI 1 16 x2 := by rw [qI_sI_i _ _ _ _ _ _ (by decide), qI_sI_s]
  have i3 : vI (sI (sI (sI (sI T 1201 m (clI 3 9 x1)) 1211 m (clI 2 40 x4)) 1202 m (clI 1 16 x2)) 1203 m (clI 1 32 x3)) 1203 m = clI 1 32 x3 := by rw [qI_sI_s]
  have i4 : vI (sI (sI (sI (sI T 1201 m (clI 3 9 x1)) 1211 m (clI 2 40 x4)) 1202 m (clI 1 16 x2)) 1203 m (clI 1 32 x3)) 1204 m = 1 := by rw [qI_sI_i _ _ _ _ _ _ (by decide), qI_sI_i _ _ _ _ _ _ (by decide), qI_sI_i _ _ _ _ _ _ (by decide), qI_sI_i _ _ _ _ _ _ (by decide)]; exact q4
  have i5 : vI (sI (sI (sI (sI T 1201 m (clI 3 9 x1)) 1211 m (clI 2 40 x4)) 1202 m (clI 1 16 x2)) 1203 m (clI 1 32 x3)) 1211 m = clI 2 40 x4 := by rw [qI_sI_i _ _ _ _ _ _ (by decide), qI_sI_i _ _ _ _ _ _ (by decide), qI_sI_s]
  have i6 : ∀ f, f ≠ 1201 → f ≠ 1202 → f ≠ 1203 → f ≠ 1204 → f ≠ 1211 → vI (sI (sI (sI (sI T 1201 m (clI 3 9 x1)) 1211 m (clI 2 40 x4)) 1202 m (clI 1 16 x2)) 1203 m (clI 1 32 x3)) f m = 0 := fun f h1 h2 h3 h4 h5 => by rw [qI_sI_i _ _ _ _ _ _ h3, qI_sI_i _ _ _ _ _ _ h2, qI_sI_i _ _ _ _ _ _ h5, qI_sI_i _ _ _ _ _ _ h1]; exact q3 f h4
  have e4 : ag S sz (sI (sI (sI (sI T 1201 m (clI 3 9 x1)) 1211 m (clI 2 40 x4)) 1202 m (clI 1 16 x2)) 1203 m (clI 1 32 x3)) (fun c => c = m) := (eT.tr e1 (Nat.le_refl _)).mo (Nat.le_refl _) (fun c _ q => q.elim id id)
  generalize (sI (sI (sI (sI T 1201 m (clI 3 9 x1)) 1211 m (clI 2 40 x4)) 1202 m (clI 1 16 x2)) 1203 m (clI 1 32 x3)) = T4 at e1 rr MT4 R0 Z0 i1 i2 i3 i4 i5 i6 e4 ⊢
  refine vi_iconst (v := 0) C dX12_init_569 rfl (by decide) ?_
  refine vi_istore C dX12_init_570 rfl (by decide) ?_
  refine vi_cut [(0, .ref m), (5, .int (nI 0))] ⟨rfl, rfl, trivial⟩ ?_
  refine m_X12_init_c (T0 := T4) (N := N) hm i1 hN9 (Nat.le_refl _) (Nat.le_refl _) X C (fun T5 M5 R5 I5 Z5 e5 => ?_) N 0 T4 (by omega) MT4 R0 (fun _ _ => rfl) Z0 e4
  refine vi_iconst (v := 0) C dX12_init_634 rfl (by decide) ?_
  refine vi_istore C dX12_init_635 rfl (by decide) ?_
  refine vi_cut [(0, .ref m), (5, .int (nI 0))] ⟨rfl, rfl, trivial⟩ ?_
  exact m_X12_init_d hm X C 16 0 T5 rfl M5 R5 ⟨⟨(I5 _ (by decide)).trans i1, (I5 _ (by decide)).trans i2, (I5 _ (by decide)).trans i3, (I5 _ (by decide)).trans i4, (I5 _ (by decide)).trans i5⟩, fun f h1 h2 h3 h4 h5 h6 => (I5 f h6).trans (i6 f h1 h2 h3 h4 h5)⟩ (fun a h1 h2 h3 h4 h5 h6 h7 h8 _ j => Z5 a h1 h2 h3 h4 h5 h6 h7 h8 j) (fun j => by rw [Z5 _ (by omega) (by omega) (by omega) (by omega) (by omega) (by omega) (by omega) (by omega) j]; simp) e5

