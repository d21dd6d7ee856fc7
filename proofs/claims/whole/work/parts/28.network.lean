/-- a new Frame -/
def FR0 (S : vS) (f : Nat) : Prop := vK S f = 2 ∧ vI S 108 f = -1 ∧ vI S 109 f = -1 ∧ (∀ i, i ≠ 108 → i ≠ 109 → vI S i f = 0) ∧ ∀ i, vP S i f = none
theorem FR0.fr {S S1 : vS} {sz f : Nat} {A : Nat → Prop} (F : FR0 S f) (e : ag S sz S1 A) (hf : f < sz) (hq : ¬ A f) : FR0 S1 f := by
  obtain ⟨a1, a2, a3, a4, a5⟩ := F
  obtain ⟨b1, b2, b3⟩ := e f hf
  obtain ⟨b4, b5, -⟩ := b3 hq
  exact ⟨b1.trans a1, (b4 _).trans a2, (b4 _).trans a3, fun i h1 h2 => (b4 i).trans (a4 i h1 h2), fun i => (b5 i).trans (a5 i)⟩
theorem FR0.new {S : vS} {f : Nat} : FR0 (sI (sI (nO S f 1) 108 f (-1)) 109 f (-1)) f := by
  refine ⟨?_, ?_, ?_, fun i h1 h2 => ?_, fun i => ?_⟩
  · exact qK_nO_s _ _ _
  · rw [qI_sI_i _ _ _ _ _ _ (by decide)]; exact qI_sI_s _ _ _ _
  · exact qI_sI_s _ _ _ _
  · rw [qI_sI_i _ _ _ _ _ _ h2, qI_sI_i _ _ _ _ _ _ h1]; exact qI_nO_s _ _ _ _
  · exact qP_nO_s S f 1 i
/-- a new Network whose first i frames in reserve are made: fl is the row -/
def NI (S : vS) (h fl i : Nat) : Prop := vK S h = 4 ∧ vP S 300 h = some fl ∧ vP S 301 h = some (fl + 1) ∧ vP S 302 h = some (fl + 2) ∧ (vI S 303 h = 0 ∧ vI S 304 h = 0 ∧ vI S 305 h = 0 ∧ vI S 306 h = 0) ∧ vK S fl = 24 ∧ vN S fl = 200 ∧ (∀ j, j < i → vQ S fl j = some (fl + 3 + j)) ∧ ∀ j, j < 2 + i → FR0 S (fl + 1 + j)
theorem NI.fr {S S1 : vS} {sz h fl i : Nat} {A : Nat → Prop} (N : NI S h fl i) (e : ag S sz S1 A) (hh : h < sz) (hz : fl + 3 + i ≤ sz) (h1 : ¬ A h) (h2 : ∀ j, j < 3 + i → ¬ A (fl + j)) : NI S1 h fl i := by
  obtain ⟨a1, a2, a3, a4, ⟨a5, a6, a7, a8⟩, a9, a10, a11, a12⟩ := N
  obtain ⟨b1, b2, b3⟩ := e h hh
  obtain ⟨b4, b5, -⟩ := b3 h1
  obtain ⟨c1, c2, c3⟩ := e fl (by omega)
  obtain ⟨-, -, -, -, c8⟩ := c3 (h2 0 (by omega))
  exact ⟨b1.trans a1, (b5 _).trans a2, (b5 _).trans a3, (b5 _).trans a4, ⟨(b4 _).trans a5, (b4 _).trans a6, (b4 _).trans a7, (b4 _).trans a8⟩, c1.trans a9, c2.trans a10, fun j hj => by rw [c8]; exact a11 j hj, fun j hj => (a12 j hj).fr e (by omega) (by have := h2 (1 + j) (by omega); rwa [← Nat.add_assoc] at this)⟩
theorem NI.st {S : vS} {h fl i : Nat} (N : NI S h fl i) (hh : h < fl) : NI (sQ (sI (sI (nO S (fl + 3 + i) 1) 108 (fl + 3 + i) (-1)) 109 (fl + 3 + i) (-1)) fl i (some (fl + 3 + i))) h fl (i + 1) ∧ ag S (fl + 3 + i) (sQ (sI (sI (nO S (fl + 3 + i) 1) 108 (fl + 3 + i) (-1)) 109 (fl + 3 + i) (-1)) fl i (some (fl + 3 + i))) (fun b => b = fl) := by
  have e1 : ag S (fl + 3 + i) (sI (sI (nO S (fl + 3 + i) 1) 108 (fl + 3 + i) (-1)) 109 (fl + 3 + i) (-1)) (fun _ => False) := (((ag.nO (A := fun _ => False)).tr (ag.sI (sz := fl + 3 + i)) (Nat.le_refl _)).tr (ag.sI (sz := fl + 3 + i)) (Nat.le_refl _)).mo (Nat.le_refl _) (fun b hb q => by rcases q with (q | q) | q <;> first | exact q | omega)
  have N1 := N.fr e1 (by omega) (Nat.le_refl _) id (fun _ _ => id)
  have F1 : FR0 (sI (sI (nO S (fl + 3 + i) 1) 108 (fl + 3 + i) (-1)) 109 (fl + 3 + i) (-1)) (fl + 3 + i) := FR0.new
  refine ⟨?_, (e1.tr (ag.sQ (sz := fl + 3 + i)) (Nat.le_refl _)).mo (Nat.le_refl _) (fun b _ q => q.elim False.elim id)⟩
  generalize sI (sI (nO S (fl + 3 + i) 1) 108 (fl + 3 + i) (-1)) 109 (fl + 3 + i) (-1) = T at N1 F1 ⊢
  obtain ⟨a1, a2, a3, a4, a5, a9, a10, a11, a12⟩ := N1
  refine ⟨a1, a2, a3, a4, a5, a9, a10, fun j hj => ?_, fun j hj => ?_⟩
  · by_cases c : j = i
    · subst c; exact qQ_sQ_s _ _ _ _
    · rw [qQ_sQ_i _ _ _ _ _ _ c]; exact a11 j (by omega)
  · by_cases c : j = 2 + i
    · subst c
      rw [show fl + 1 + (2 + i) = fl + 3 + i by omega]
      exact F1
    · exact a12 j (by omega)

set_option maxRecDepth 100000 in
set_option maxHeartbeats 4000000 in
/-- new Network -/
theorem m_X3_init {E : vE} {S : vS} {sz : Nat} {h : Nat} (hk : vK S h = 4) (hh : h < sz) (hz : ∀ i, vI S i h = 0) : vi_Met E yX3_init cX3_init 2 none 2 203 2422 [.ref (h)] S sz (fun r S1 z1 => r = none ∧ z1 = sz + 203 ∧ NI S1 h sz 200 ∧ ag S sz S1 (fun b => b = h)) := by
  refine vi_met (by decide) (Nat.le_of_ble_eq_true rfl) ?_
  intro X C
  have loop : ∀ (n i : Nat) (T : vS), i + n = 200 → NI T h sz i → ag S sz T (fun b => b = h) → vi_W E X 2 (vi_Z E X (fun r S1 z1 => r = none ∧ z1 = sz + 203 ∧ NI S1 h sz 200 ∧ ag S sz S1 (fun b => b = h)) 203 2422) 38 [(0, .ref h), (1, .int (nI i))] [] T (sz + 3 + i) (3 + i) (222 + 11 * i) := by
    intro n
    induction n with
    | zero =>
      intro i T hi N e1
      refine vi_iload_n C dX3_init_38 rfl rfl ?_
      refine vi_sipush (v := 200) C dX3_init_39 rfl (by decide) ?_
      refine vi_icmp_ge (t' := 64) C dX3_init_42 rfl (by decide) (fun hc42 => ?_) (fun hc42 => ?_)
      · exact vi_return C dX3_init_64 rfl (by omega) (by omega) (by
            have : i = 200 := by omega
            subst this
            exact ⟨rfl, rfl, N, e1⟩)
      · exact absurd (nI_le (a := 200) (b := i) (by omega) (by omega)) hc42
    | succ n ih =>
      intro i T hi N e1
      refine vi_iload_n C dX3_init_38 rfl rfl ?_
      refine vi_sipush (v := 200) C dX3_init_39 rfl (by decide) ?_
      refine vi_icmp_ge (t' := 64) C dX3_init_42 rfl (by decide) (fun hc42 => ?_) (fun hc42 => ?_)
      · exact absurd hc42 (nI_ge (a := i) (b := 200) (by omega) (by omega))
      · refine vi_aload_n C dX3_init_45 rfl rfl ?_
        refine vi_getr (i := 300) C dX3_init_46 rfl fX3_11 N.1 rfl rfl N.2.1 ?_
        refine vi_iload_n C dX3_init_49 rfl rfl ?_
        refine vi_new C dX3_init_50 rfl nlX3_9 (by omega) (by omega) ?_
        refine vi_dup C dX3_init_53 rfl rfl ?_
        refine vi_callI C [] [.ref ((sz + 3 + i)), .int (nI i), .ref (sz)] dX3_init_54 rfl ivX3_17 iiX1_init (m_X1_init (qK_nO_s _ _ _)) rfl (Nat.le_of_ble_eq_true rfl) ⟨by decide, by decide⟩ ⟨by omega, by omega⟩ (fun r54 S54 z54 hq54 => ?_)
        obtain ⟨rfl, rfl, rfl⟩ := hq54
        have hK9 : vK (sI (sI (nO T (sz + 3 + i) 1) 108 ((sz + 3 + i)) ((-1 : Int32))) 109 ((sz + 3 + i)) ((-1 : Int32))) sz = 24 := by simp (disch := omega) only [qK_sI, qK_sP, qK_sR, qK_sJ, qK_sQ, qK_nO_s, qK_nO_a, qK_nA_s, qK_nA_a, qN_sI, qN_sP, qN_sR, qN_sJ, qN_sQ, qN_nO, qN_nA_s, qN_nA_a, qI_sI_s, qI_sI_i, qI_sI_a, qI_sP, qI_sR, qI_sJ, qI_sQ, qI_nO_s, qI_nO_a, qI_nA, qP_sI, qP_sP_s, qP_sP_i, qP_sP_a, qP_sR, qP_sJ, qP_sQ, qP_nO_s, qP_nO_a, qP_nA, qR_sI, qR_sP, qR_sR_s, qR_sR_i, qR_sR_a, qR_sJ, qR_sQ, qR_nO, qR_nA_s, qR_nA_a, qJ_sI, qJ_sP, qJ_sR, qJ_sJ_s, qJ_sJ_i, qJ_sJ_a, qJ_sQ, qJ_nO, qJ_nA_s, qJ_nA_a, qQ_sI, qQ_sP, qQ_sR, qQ_sJ, qQ_sQ_s, qQ_sQ_i, qQ_sQ_a, qQ_nO, qQ_nA_s, qQ_nA_a]; exact N.2.2.2.2.2.1
        have hN9 : vN (sI (sI (nO T (sz + 3 + i) 1) 108 ((sz + 3 + i)) ((-1 : Int32))) 109 ((sz + 3 + i)) ((-1 : Int32))) sz = 200 := N.2.2.2.2.2.2.1
        have hF9 : vK (sI (sI (nO T (sz + 3 + i) 1) 108 ((sz + 3 + i)) ((-1 : Int32))) 109 ((sz + 3 + i)) ((-1 : Int32))) (sz + 3 + i) = 2 := by simp (disch := omega) only [qK_sI, qK_sP, qK_sR, qK_sJ, qK_sQ, qK_nO_s, qK_nO_a, qK_nA_s, qK_nA_a, qN_sI, qN_sP, qN_sR, qN_sJ, qN_sQ, qN_nO, qN_nA_s, qN_nA_a, qI_sI_s, qI_sI_i, qI_sI_a, qI_sP, qI_sR, qI_sJ, qI_sQ, qI_nO_s, qI_nO_a, qI_nA, qP_sI, qP_sP_s, qP_sP_i, qP_sP_a, qP_sR, qP_sJ, qP_sQ, qP_nO_s, qP_nO_a, qP_nA, qR_sI, qR_sP, qR_sR_s, qR_sR_i, qR_sR_a, qR_sJ, qR_sQ, qR_nO, qR_nA_s, qR_nA_a, qJ_sI, qJ_sP, qJ_sR, qJ_sJ_s, qJ_sJ_i, qJ_sJ_a, qJ_sQ, qJ_nO, qJ_nA_s, qJ_nA_a, qQ_sI, qQ_sP, qQ_sR, qQ_sJ, qQ_sQ_s, qQ_sQ_i, qQ_sQ_a, qQ_nO, qQ_nA_s, qQ_nA_a]
        refine vi_aastore (o := some ((sz + 3 + i))) C dX3_init_57 rfl (c := 1) (by rw [hK9]; decide) (by rw [hK9]; decide) rfl (by rw [hK9]; rfl) (fun v e => by cases e; exact hF9) (by rw [hN9]; exact vp_in_nI (by omega) (by omega)) ?_
        refine vi_iinc C dX3_init_58 rfl rfl (by decide) ?_
        refine vi_goto (t' := 38) C dX3_init_61 (by decide) ?_
        rw [nI_clamp (by omega)]
        have hst := N.st (by omega)
        refine vi_cut [(0, .ref h), (1, .int (nI (i + 1)))] ⟨rfl, by rw [← nI_1]; rfl, trivial⟩ ?_
        have := ih (i + 1) _ (by omega) hst.1 ((e1.tr hst.2 (by omega)).mo (Nat.le_refl _) (fun b hb q => q.elim id (fun q => by omega)))
        rw [show sz + 3 + (i + 1) = sz + 3 + i + 1 by omega, show 3 + (i + 1) = 3 + i + 1 by omega, show 222 + 11 * (i + 1) = 222 + 11 * i + 11 by omega] at this
        exact this
  refine vi_aload_n C dX3_init_0 rfl rfl ?_
  refine vi_objInit C dX3_init_1 rfl oiX3_3 oi_i oi_c (by decide) (Nat.le_of_ble_eq_true rfl) ?_
  refine vi_aload_n C dX3_init_4 rfl rfl ?_
  refine vi_sipush (v := 200) C dX3_init_5 rfl (by decide) ?_
  refine vi_anewarray (κ := 24) (N := 200) C dX3_init_8 rfl clX3_9 ao_24 rfl (by decide) (by decide) (by decide) rfl (by decide) (by decide) (by decide) ?_
  refine vi_putp (i := 300) (o := some (sz)) C dX3_init_11 rfl fpX3_11 (by first | assumption | (simp (disch := omega) only [qK_sI, qK_sP, qK_sR, qK_sJ, qK_sQ, qK_nO_s, qK_nO_a, qK_nA_s, qK_nA_a, qN_sI, qN_sP, qN_sR, qN_sJ, qN_sQ, qN_nO, qN_nA_s, qN_nA_a, qI_sI_s, qI_sI_i, qI_sI_a, qI_sP, qI_sR, qI_sJ, qI_sQ, qI_nO_s, qI_nO_a, qI_nA, qP_sI, qP_sP_s, qP_sP_i, qP_sP_a, qP_sR, qP_sJ, qP_sQ, qP_nO_s, qP_nO_a, qP_nA, qR_sI, qR_sP, qR_sR_s, qR_sR_i, qR_sR_a, qR_sJ, qR_sQ, qR_nO, qR_nA_s, qR_nA_a, qJ_sI, qJ_sP, qJ_sR, qJ_sJ_s, qJ_sJ_i, qJ_sJ_a, qJ_sQ, qJ_nO, qJ_nA_s, qJ_nA_a, qQ_sI, qQ_sP, qQ_sR, qQ_sJ, qQ_sQ_s, qQ_sQ_i, qQ_sQ_a, qQ_nO, qQ_nA_s, qQ_nA_a] <;> first | assumption | rfl | omega)) rfl rfl (by decide) ?_
  refine vi_aload_n C dX3_init_14 rfl rfl ?_
  refine vi_new C dX3_init_15 rfl nlX3_9 (by decide) (by decide) ?_
  refine vi_dup C dX3_init_18 rfl rfl ?_
  refine vi_callI C [] [.ref ((sz + 1)), .ref (h)] dX3_init_19 rfl ivX3_17 iiX1_init (m_X1_init (qK_nO_s _ _ _)) rfl (Nat.le_of_ble_eq_true rfl) ⟨by decide, by decide⟩ ⟨by decide, by decide⟩ (fun r19 S19 z19 hq19 => ?_)
  obtain ⟨rfl, rfl, rfl⟩ := hq19
  refine vi_putp (i := 301) (o := some ((sz + 1))) C dX3_init_22 rfl (fpX3_18 _) (by first | assumption | (simp (disch := omega) only [qK_sI, qK_sP, qK_sR, qK_sJ, qK_sQ, qK_nO_s, qK_nO_a, qK_nA_s, qK_nA_a, qN_sI, qN_sP, qN_sR, qN_sJ, qN_sQ, qN_nO, qN_nA_s, qN_nA_a, qI_sI_s, qI_sI_i, qI_sI_a, qI_sP, qI_sR, qI_sJ, qI_sQ, qI_nO_s, qI_nO_a, qI_nA, qP_sI, qP_sP_s, qP_sP_i, qP_sP_a, qP_sR, qP_sJ, qP_sQ, qP_nO_s, qP_nO_a, qP_nA, qR_sI, qR_sP, qR_sR_s, qR_sR_i, qR_sR_a, qR_sJ, qR_sQ, qR_nO, qR_nA_s, qR_nA_a, qJ_sI, qJ_sP, qJ_sR, qJ_sJ_s, qJ_sJ_i, qJ_sJ_a, qJ_sQ, qJ_nO, qJ_nA_s, qJ_nA_a, qQ_sI, qQ_sP, qQ_sR, qQ_sJ, qQ_sQ_s, qQ_sQ_i, qQ_sQ_a, qQ_nO, qQ_nA_s, qQ_nA_a] <;> first | assumption | rfl | omega)) rfl rfl (by decide) ?_
  refine vi_aload_n C dX3_init_25 rfl rfl ?_
  refine vi_new C dX3_init_26 rfl nlX3_9 (by decide) (by decide) ?_
  refine vi_dup C dX3_init_29 rfl rfl ?_
  refine vi_callI C [] [.ref (((sz + 1) + 1)), .ref (h)] dX3_init_30 rfl ivX3_17 iiX1_init (m_X1_init (qK_nO_s _ _ _)) rfl (Nat.le_of_ble_eq_true rfl) ⟨by decide, by decide⟩ ⟨by decide, by decide⟩ (fun r30 S30 z30 hq30 => ?_)
  obtain ⟨rfl, rfl, rfl⟩ := hq30
  refine vi_putp (i := 302) (o := some (((sz + 1) + 1))) C dX3_init_33 rfl fpX3_22 (by first | assumption | (simp (disch := omega) only [qK_sI, qK_sP, qK_sR, qK_sJ, qK_sQ, qK_nO_s, qK_nO_a, qK_nA_s, qK_nA_a, qN_sI, qN_sP, qN_sR, qN_sJ, qN_sQ, qN_nO, qN_nA_s, qN_nA_a, qI_sI_s, qI_sI_i, qI_sI_a, qI_sP, qI_sR, qI_sJ, qI_sQ, qI_nO_s, qI_nO_a, qI_nA, qP_sI, qP_sP_s, qP_sP_i, qP_sP_a, qP_sR, qP_sJ, qP_sQ, qP_nO_s, qP_nO_a, qP_nA, qR_sI, qR_sP, qR_sR_s, qR_sR_i, qR_sR_a, qR_sJ, qR_sQ, qR_nO, qR_nA_s, qR_nA_a, qJ_sI, qJ_sP, qJ_sR, qJ_sJ_s, qJ_sJ_i, qJ_sJ_a, qJ_sQ, qJ_nO, qJ_nA_s, qJ_nA_a, qQ_sI, qQ_sP, qQ_sR, qQ_sJ, qQ_sQ_s, qQ_sQ_i, qQ_sQ_a, qQ_nO, qQ_nA_s, qQ_nA_a] <;> first | assumption | rfl | omega)) rfl rfl (by decide) ?_
  refine vi_iconst (v := 0) C dX3_init_36 rfl (by decide) ?_
  refine vi_istore_n C dX3_init_37 rfl (by decide) ?_
  have N0 : NI (sP (sI (sI (nO (sP (sI (sI (nO (sP (nA S sz 24 200) 300 (h) (some (sz))) (sz + 1) 1) 108 ((sz + 1)) ((-1 : Int32))) 109 ((sz + 1)) ((-1 : Int32))) 301 (h) (some ((sz + 1)))) ((sz + 1) + 1) 1) 108 (((sz + 1) + 1)) ((-1 : Int32))) 109 (((sz + 1) + 1)) ((-1 : Int32))) 302 (h) (some (((sz + 1) + 1)))) h sz 0 := by
    refine ⟨?_, ?_, ?_, ?_, ⟨?_, ?_, ?_, ?_⟩, ?_, ?_, fun j hj => absurd hj (Nat.not_lt_zero _), fun j hj => ?_⟩
    rotate_right
    · rcases (show j = 0 ∨ j = 1 by omega) with rfl | rfl
      · refine ⟨?_, ?_, ?_, fun i h1 h2 => ?_, fun i => ?_⟩ <;> simp (disch := first | omega | assumption) only [qK_sI, qK_sP, qK_sR, qK_sJ, qK_sQ, qK_nO_s, qK_nO_a, qK_nA_s, qK_nA_a, qN_sI, qN_sP, qN_sR, qN_sJ, qN_sQ, qN_nO, qN_nA_s, qN_nA_a, qI_sI_s, qI_sI_i, qI_sI_a, qI_sP, qI_sR, qI_sJ, qI_sQ, qI_nO_s, qI_nO_a, qI_nA, qP_sI, qP_sP_s, qP_sP_i, qP_sP_a, qP_sR, qP_sJ, qP_sQ, qP_nO_s, qP_nO_a, qP_nA, qR_sI, qR_sP, qR_sR_s, qR_sR_i, qR_sR_a, qR_sJ, qR_sQ, qR_nO, qR_nA_s, qR_nA_a, qJ_sI, qJ_sP, qJ_sR, qJ_sJ_s, qJ_sJ_i, qJ_sJ_a, qJ_sQ, qJ_nO, qJ_nA_s, qJ_nA_a, qQ_sI, qQ_sP, qQ_sR, qQ_sJ, qQ_sQ_s, qQ_sQ_i, qQ_sQ_a, qQ_nO, qQ_nA_s, qQ_nA_a, Nat.add_zero]
      · refine ⟨?_, ?_, ?_, fun i h1 h2 => ?_, fun i => ?_⟩ <;> simp (disch := first | omega | assumption) only [qK_sI, qK_sP, qK_sR, qK_sJ, qK_sQ, qK_nO_s, qK_nO_a, qK_nA_s, qK_nA_a, qN_sI, qN_sP, qN_sR, qN_sJ, qN_sQ, qN_nO, qN_nA_s, qN_nA_a, qI_sI_s, qI_sI_i, qI_sI_a, qI_sP, qI_sR, qI_sJ, qI_sQ, qI_nO_s, qI_nO_a, qI_nA, qP_sI, qP_sP_s, qP_sP_i, qP_sP_a, qP_sR, qP_sJ, qP_sQ, qP_nO_s, qP_nO_a, qP_nA, qR_sI, qR_sP, qR_sR_s, qR_sR_i, qR_sR_a, qR_sJ, qR_sQ, qR_nO, qR_nA_s, qR_nA_a, qJ_sI, qJ_sP, qJ_sR, qJ_sJ_s, qJ_sJ_i, qJ_sJ_a, qJ_sQ, qJ_nO, qJ_nA_s, qJ_nA_a, qQ_sI, qQ_sP, qQ_sR, qQ_sJ, qQ_sQ_s, qQ_sQ_i, qQ_sQ_a, qQ_nO, qQ_nA_s, qQ_nA_a, Nat.add_zero]
    all_goals (simp (disch := omega) only [qK_sI, qK_sP, qK_sR, qK_sJ, qK_sQ, qK_nO_s, qK_nO_a, qK_nA_s, qK_nA_a, qN_sI, qN_sP, qN_sR, qN_sJ, qN_sQ, qN_nO, qN_nA_s, qN_nA_a, qI_sI_s, qI_sI_i, qI_sI_a, qI_sP, qI_sR, qI_sJ, qI_sQ, qI_nO_s, qI_nO_a, qI_nA, qP_sI, qP_sP_s, qP_sP_i, qP_sP_a, qP_sR, qP_sJ, qP_sQ, qP_nO_s, qP_nO_a, qP_nA, qR_sI, qR_sP, qR_sR_s, qR_sR_i, qR_sR_a, qR_sJ, qR_sQ, qR_nO, qR_nA_s, qR_nA_a, qJ_sI, qJ_sP, qJ_sR, qJ_sJ_s, qJ_sJ_i, qJ_sJ_a, qJ_sQ, qJ_nO, qJ_nA_s, qJ_nA_a, qQ_sI, qQ_sP, qQ_sR, qQ_sJ, qQ_sQ_s, qQ_sQ_i, qQ_sQ_a, qQ_nO, qQ_nA_s, qQ_nA_a] <;> first | assumption | exact hz _)
  have e0 : ag S sz (sP (sI (sI (nO (sP (sI (sI (nO (sP (nA S sz 24 200) 300 (h) (some (sz))) (sz + 1) 1) 108 ((sz + 1)) ((-1 : Int32))) 109 ((sz + 1)) ((-1 : Int32))) 301 (h) (some ((sz + 1)))) ((sz + 1) + 1) 1) 108 (((sz + 1) + 1)) ((-1 : Int32))) 109 (((sz + 1) + 1)) ((-1 : Int32))) 302 (h) (some (((sz + 1) + 1)))) (fun b => b = h) := (((((((((ag.nA (A := fun _ => False)).tr (ag.sP (sz := sz)) (Nat.le_refl _)).tr (ag.mo (ag.nO (A := fun _ => False)) (show sz ≤ sz + 1 by omega) (fun _ _ q => q)) (Nat.le_refl _)).tr (ag.sI (sz := sz)) (Nat.le_refl _)).tr (ag.sI (sz := sz)) (Nat.le_refl _)).tr (ag.sP (sz := sz)) (Nat.le_refl _)).tr (ag.mo (ag.nO (A := fun _ => False)) (show sz ≤ sz + 1 + 1 by omega) (fun _ _ q => q)) (Nat.le_refl _)).tr (ag.sI (sz := sz)) (Nat.le_refl _)).tr (ag.sI (sz := sz)) (Nat.le_refl _)).tr (ag.sP (sz := sz)) (Nat.le_refl _) |>.mo (Nat.le_refl _) (fun b hb q => by simp only [false_or, or_false] at q; omega)
  refine vi_cut [(0, .ref h), (1, .int (nI 0))] ⟨rfl, rfl, trivial⟩ ?_
  exact loop 200 0 _ rfl N0 e0
