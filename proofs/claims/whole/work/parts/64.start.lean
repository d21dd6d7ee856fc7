theorem mx_cl {lo hi x : Int32} (h : lo ≤ hi) : mxI lo (mnI hi x) = clI lo hi x := by
  unfold mxI mnI clI
  simp only [Int32.lt_iff_toInt_lt, Int32.le_iff_toInt_le] at *
  by_cases h1 : x.toInt < hi.toInt
  · rw [if_pos h1]
    by_cases h2 : lo.toInt < x.toInt
    · rw [if_pos h2, if_pos (by omega), if_pos (by omega)]
    · rw [if_neg h2]
      by_cases h3 : lo.toInt ≤ x.toInt
      · rw [if_pos h3, if_pos (by omega)]
        exact Int32.toInt_inj.mp (by omega)
      · rw [if_neg h3]
  · rw [if_neg h1]
    by_cases h2 : lo.toInt < hi.toInt
    · rw [if_pos h2, if_pos (by omega)]
      by_cases h3 : x.toInt ≤ hi.toInt
      · rw [if_pos h3]; exact Int32.toInt_inj.mp (by omega)
      · rw [if_neg h3]
    · rw [if_neg h2]
      by_cases h3 : lo.toInt ≤ x.toInt
      · rw [if_pos h3]
        by_cases h4 : x.toInt ≤ hi.toInt
        · rw [if_pos h4]; exact Int32.toInt_inj.mp (by omega)
        · rw [if_neg h4]; exact Int32.toInt_inj.mp (by omega)
      · rw [if_neg h3]
theorem cl_in {lo hi x : Int32} (h : lo ≤ hi) : lo ≤ clI lo hi x ∧ clI lo hi x ≤ hi := by
  unfold clI
  by_cases h1 : lo ≤ x
  · rw [if_pos h1]
    by_cases h2 : x ≤ hi
    · rw [if_pos h2]; exact ⟨h1, h2⟩
    · rw [if_neg h2]; exact ⟨h, Int32.le_refl _⟩
  · rw [if_neg h1]; exact ⟨Int32.le_refl _, h⟩
theorem cl_n (x : Int32) : ∃ n, 3 ≤ n ∧ n ≤ 9 ∧ clI 3 9 x = nI n := by
  obtain ⟨h1, h2⟩ := cl_in (lo := 3) (hi := 9) (x := x) (by decide)
  rw [Int32.le_iff_toInt_le] at h1 h2
  have e3 : (3 : Int32).toInt = 3 := by decide
  have e9 : (9 : Int32).toInt = 9 := by decide
  rw [e3] at h1
  rw [e9] at h2
  rcases (show (clI 3 9 x).toInt = 3 ∨ (clI 3 9 x).toInt = 4 ∨ (clI 3 9 x).toInt = 5 ∨ (clI 3 9 x).toInt = 6 ∨ (clI 3 9 x).toInt = 7 ∨ (clI 3 9 x).toInt = 8 ∨ (clI 3 9 x).toInt = 9 by omega) with h | h | h | h | h | h | h
  · exact ⟨3, by decide, by decide, Int32.toInt_inj.mp (h.trans (by decide))⟩
  · exact ⟨4, by decide, by decide, Int32.toInt_inj.mp (h.trans (by decide))⟩
  · exact ⟨5, by decide, by decide, Int32.toInt_inj.mp (h.trans (by decide))⟩
  · exact ⟨6, by decide, by decide, Int32.toInt_inj.mp (h.trans (by decide))⟩
  · exact ⟨7, by decide, by decide, Int32.toInt_inj.mp (h.trans (by decide))⟩
  · exact ⟨8, by decide, by decide, Int32.toInt_inj.mp (h.trans (by decide))⟩
  · exact ⟨9, by decide, by decide, Int32.toInt_inj.mp (h.trans (by decide))⟩
/-- all that is left: of the two pure machines, from their start, for every script -/
def PureMain : Prop := ∀ (N : Nat) (V L T : Int32) (c : vC) (M : vM) (Ln : Nat) (xs : Nat → Int32), 3 ≤ N → N ≤ 9 → (1 ≤ V ∧ V ≤ 16) → (1 ≤ L ∧ L ≤ 32) → (2 ≤ T ∧ T ≤ 40) → CI c N V L T → MIn M N V L T → 1 ≤ cz c → Ln ≤ 2052 → ∃ R, L_law N Ln xs 513 (c, M, 0) 4 = some R
def cellI (L : Nat) (xs : Nat → Int32) (k : Int32) : Int32 := if Int32.ofNat L ≤ k then 0 else xs k.toNatClampNeg
set_option maxRecDepth 100000 in
theorem p_L_cell {E : vE} {S : vS} {sz : Nat} {k : Int32} (hk : ¬ k < 0) (hL : E.2.2.2.2.2.1 ≤ 2052) : vi_Met E yL_cell cL_cell 2 (some .int) 0 0 0 [.ref E.2.2.2.2.1, .int k] S sz (fun r S1 z1 => r = some (.int (cellI E.2.2.2.2.2.1 E.2.2.2.2.2.2 k)) ∧ z1 = sz ∧ S1 = S) := by
  refine vi_met (by decide) (Nat.le_of_ble_eq_true rfl) ?_
  intro X C
  refine vi_iload_n C dL_cell_0 rfl rfl ?_
  refine vi_aload_n C dL_cell_1 rfl rfl ?_
  refine vi_slen C dL_cell_2 rfl ?_
  refine vi_icmp_ge (t' := 12) C dL_cell_3 rfl (by decide) (fun h => ?_) (fun h => ?_)
  · refine vi_iconst (v := 0) C dL_cell_12 rfl (by decide) ?_
    exact vi_ireturn C dL_cell_13 rfl rfl (Nat.le_refl _) (Nat.le_refl _) ⟨by unfold cellI; rw [if_pos h], rfl, rfl⟩
  · refine vi_aload_n C dL_cell_6 rfl rfl ?_
    refine vi_iload_n C dL_cell_7 rfl rfl ?_
    refine vi_sald C dL_cell_8 rfl (fun q => q.elim hk (fun q => ?_)) ?_
    · obtain ⟨w, w1, rfl⟩ := nI_of hk
      refine h ?_
      have e1 : (nI w).toNatClampNeg = w := by
        show (nI w).toInt.toNat = w
        rw [nI_toInt w1]; rfl
      rw [e1] at q
      rw [Int32.le_iff_toInt_le]
      show (nI E.2.2.2.2.2.1).toInt ≤ (nI w).toInt
      rw [nI_toInt w1, nI_toInt (by omega)]
      omega
    · refine vi_goto (t' := 13) C dL_cell_9 (by decide) ?_
      exact vi_ireturn C dL_cell_13 rfl rfl (Nat.le_refl _) (Nat.le_refl _) ⟨by unfold cellI; rw [if_neg h], rfl, rfl⟩
theorem REs_al {S S1 : vS} {sz sz1 x z n : Nat} {V L T : Int32} (h : REs S sz x z n n V L T) (e4 : ag S sz S1 (fun _ => False)) (hs : sz ≤ sz1) (hx : x < sz) (hz : z + 244 + 14 * n ≤ sz) : REs S1 sz1 x z n n V L T := by
  obtain ⟨a1, a2, a3, a4, ⟨l5, y5, a5⟩, a6⟩ := h
  have ax := e4 x hx
  have aq := e4 (z + 243) (by omega)
  refine ⟨((ax.2.2 (fun h => h)).2.1 1103).trans a1, aq.1.trans a2, aq.2.1.trans a3, a4.fr e4 hs (fun h => h) (fun h => h), ⟨l5, y5, a5.fr e4 hs (fun h => h) (fun h => h)⟩, fun q hq => ⟨?_, (a6 q hq).2.fr e4 hs (by omega) (fun _ _ h => h)⟩⟩
  rw [(aq.2.2 (fun h => h)).2.2.2.2]; exact (a6 q hq).1
set_option maxRecDepth 100000 in
set_option maxHeartbeats 4000000 in
theorem law_pro {E : vE} {X : vX} {Z : State → Prop} {S0 : vS} {x : Nat} (C : vi_C E X yL_law cL_law 7 (some .boolean) 14 601024 7293000 576) (hZ : vi_Zs E X.2.2.2.1 X.2.2.2.1.heap) (hL : E.2.2.2.2.2.1 ≤ 2052) (hP : PureMain) (hx : ∀ S sz, vi_W E X 7 Z 1153 [] [] S sz 132328 2044608) : vi_W E X 7 Z 0 [(0, .ref E.2.2.2.2.1)] [] S0 x 0 0 := by
  obtain ⟨n, hn3, hn9, hn⟩ := cl_n (cellI E.2.2.2.2.2.1 E.2.2.2.2.2.2 0)
  refine vi_new (c := 11) (N := 7) C dL_law_0 rfl nlL_8 (by decide) (by decide) ?_
  refine vi_dup C dL_law_3 rfl rfl ?_
  refine vi_aload_n C dL_law_4 rfl rfl ?_
  refine vi_iconst (v := 0) C dL_law_5 rfl (by decide) ?_
  refine vi_callS C [.ref E.2.2.2.2.1, .int 0] [.ref x, .ref x] dL_law_6 rfl ivL_23 isL_cell (p_L_cell (by decide) hL) rfl (Nat.le_of_ble_eq_true rfl) ⟨by decide, by decide⟩ ⟨by omega, by omega⟩ (fun v S' sz' q => ?_)
  obtain ⟨rfl, rfl, rfl⟩ := q
  refine vi_aload_n C dL_law_9 rfl rfl ?_
  refine vi_iconst (v := 1) C dL_law_10 rfl (by decide) ?_
  refine vi_callS C [.ref E.2.2.2.2.1, .int 1] [.int (cellI E.2.2.2.2.2.1 E.2.2.2.2.2.2 0), .ref x, .ref x] dL_law_11 rfl ivL_23 isL_cell (p_L_cell (by decide) hL) rfl (Nat.le_of_ble_eq_true rfl) ⟨by decide, by decide⟩ ⟨by omega, by omega⟩ (fun v S' sz' q => ?_)
  obtain ⟨rfl, rfl, rfl⟩ := q
  refine vi_aload_n C dL_law_14 rfl rfl ?_
  refine vi_iconst (v := 2) C dL_law_15 rfl (by decide) ?_
  refine vi_callS C [.ref E.2.2.2.2.1, .int 2] [.int (cellI E.2.2.2.2.2.1 E.2.2.2.2.2.2 1), .int (cellI E.2.2.2.2.2.1 E.2.2.2.2.2.2 0), .ref x, .ref x] dL_law_16 rfl ivL_23 isL_cell (p_L_cell (by decide) hL) rfl (Nat.le_of_ble_eq_true rfl) ⟨by decide, by decide⟩ ⟨by omega, by omega⟩ (fun v S' sz' q => ?_)
  obtain ⟨rfl, rfl, rfl⟩ := q
  refine vi_aload_n C dL_law_19 rfl rfl ?_
  refine vi_iconst (v := 3) C dL_law_20 rfl (by decide) ?_
  refine vi_callS C [.ref E.2.2.2.2.1, .int 3] [.int (cellI E.2.2.2.2.2.1 E.2.2.2.2.2.2 2), .int (cellI E.2.2.2.2.2.1 E.2.2.2.2.2.2 1), .int (cellI E.2.2.2.2.2.1 E.2.2.2.2.2.2 0), .ref x, .ref x] dL_law_21 rfl ivL_23 isL_cell (p_L_cell (by decide) hL) rfl (Nat.le_of_ble_eq_true rfl) ⟨by decide, by decide⟩ ⟨by omega, by omega⟩ (fun v S' sz' q => ?_)
  obtain ⟨rfl, rfl, rfl⟩ := q
  refine vi_callI (a := x) C [.int (cellI E.2.2.2.2.2.1 E.2.2.2.2.2.2 0), .int (cellI E.2.2.2.2.2.1 E.2.2.2.2.2.2 1), .int (cellI E.2.2.2.2.2.1 E.2.2.2.2.2.2 2), .int (cellI E.2.2.2.2.2.1 E.2.2.2.2.2.2 3)] [.ref x] dL_law_24 rfl ivL_29 iiX11_init (m_X11_init (va_up_self _ _ _) (Nat.lt_succ_self _) ((mx_cl (by decide)).trans hn) hn3 hn9) rfl (Nat.le_of_ble_eq_true rfl) ⟨by decide, by decide⟩ ⟨by omega, by omega⟩ (fun v S1 z1 q => ?_)
  obtain ⟨rfl, rfl, hCB, hSE, hRE, -⟩ := q
  refine vi_astore_n C dL_law_27 rfl (by decide) ?_
  refine vi_new (c := 12) (N := 68) C dL_law_28 rfl nlL_32 (by omega) (by omega) ?_
  refine vi_dup C dL_law_31 rfl rfl ?_
  refine vi_aload_n C dL_law_32 rfl rfl ?_
  refine vi_iconst (v := 0) C dL_law_33 rfl (by decide) ?_
  refine vi_callS C [.ref E.2.2.2.2.1, .int 0] [.ref (x + 1 + 244 + 14 * n), .ref (x + 1 + 244 + 14 * n)] dL_law_34 rfl ivL_23 isL_cell (p_L_cell (by decide) hL) rfl (Nat.le_of_ble_eq_true rfl) ⟨by decide, by decide⟩ ⟨by omega, by omega⟩ (fun v S' sz' q => ?_)
  obtain ⟨rfl, rfl, rfl⟩ := q
  refine vi_aload_n C dL_law_37 rfl rfl ?_
  refine vi_iconst (v := 1) C dL_law_38 rfl (by decide) ?_
  refine vi_callS C [.ref E.2.2.2.2.1, .int 1] [.int (cellI E.2.2.2.2.2.1 E.2.2.2.2.2.2 0), .ref (x + 1 + 244 + 14 * n), .ref (x + 1 + 244 + 14 * n)] dL_law_39 rfl ivL_23 isL_cell (p_L_cell (by decide) hL) rfl (Nat.le_of_ble_eq_true rfl) ⟨by decide, by decide⟩ ⟨by omega, by omega⟩ (fun v S' sz' q => ?_)
  obtain ⟨rfl, rfl, rfl⟩ := q
  refine vi_aload_n C dL_law_42 rfl rfl ?_
  refine vi_iconst (v := 2) C dL_law_43 rfl (by decide) ?_
  refine vi_callS C [.ref E.2.2.2.2.1, .int 2] [.int (cellI E.2.2.2.2.2.1 E.2.2.2.2.2.2 1), .int (cellI E.2.2.2.2.2.1 E.2.2.2.2.2.2 0), .ref (x + 1 + 244 + 14 * n), .ref (x + 1 + 244 + 14 * n)] dL_law_44 rfl ivL_23 isL_cell (p_L_cell (by decide) hL) rfl (Nat.le_of_ble_eq_true rfl) ⟨by decide, by decide⟩ ⟨by omega, by omega⟩ (fun v S' sz' q => ?_)
  obtain ⟨rfl, rfl, rfl⟩ := q
  refine vi_aload_n C dL_law_47 rfl rfl ?_
  refine vi_iconst (v := 3) C dL_law_48 rfl (by decide) ?_
  refine vi_callS C [.ref E.2.2.2.2.1, .int 3] [.int (cellI E.2.2.2.2.2.1 E.2.2.2.2.2.2 2), .int (cellI E.2.2.2.2.2.1 E.2.2.2.2.2.2 1), .int (cellI E.2.2.2.2.2.1 E.2.2.2.2.2.2 0), .ref (x + 1 + 244 + 14 * n), .ref (x + 1 + 244 + 14 * n)] dL_law_49 rfl ivL_23 isL_cell (p_L_cell (by decide) hL) rfl (Nat.le_of_ble_eq_true rfl) ⟨by decide, by decide⟩ ⟨by omega, by omega⟩ (fun v S' sz' q => ?_)
  obtain ⟨rfl, rfl, rfl⟩ := q
  refine vi_callI (a := x + 1 + 244 + 14 * n) C [.int (cellI E.2.2.2.2.2.1 E.2.2.2.2.2.2 0), .int (cellI E.2.2.2.2.2.1 E.2.2.2.2.2.2 1), .int (cellI E.2.2.2.2.2.1 E.2.2.2.2.2.2 2), .int (cellI E.2.2.2.2.2.1 E.2.2.2.2.2.2 3)] [.ref (x + 1 + 244 + 14 * n)] dL_law_52 rfl ivL_34 iiX12_init (m_X12_init (va_up_self _ _ _) (Nat.lt_succ_self _) (fun f => if_pos rfl) hn hn9) rfl (Nat.le_of_ble_eq_true rfl) ⟨by decide, by decide⟩ ⟨by omega, by omega⟩ (fun v S3 z3 q => ?_)
  obtain ⟨rfl, rfl, hM0, hag⟩ := q
  refine vi_astore_n C dL_law_55 rfl (by decide) ?_
  refine vi_iconst (v := 1) C dL_law_56 rfl (by decide) ?_
  refine vi_newarray (κ := 22) (N := 1) C dL_law_57 rfl ac_long rfl (by decide) (by decide) (by decide) (by decide) (by decide) (by omega) (by omega) ?_
  refine vi_astore_n C dL_law_59 rfl (by decide) ?_
  refine vi_iconst (v := 4) C dL_law_60 rfl (by decide) ?_
  refine vi_istore C dL_law_61 rfl (by decide) ?_
  have hz : ∃ z m b o, z = x + 1 ∧ m = x + 1 + 244 + 14 * n ∧ b = x + 1 + 244 + 14 * n + 1 ∧ o = x + 1 + 244 + 14 * n + 1 + 55 := ⟨_, _, _, _, rfl, rfl, rfl, rfl⟩
  obtain ⟨z, m, b, o, ez, em, eb, eo⟩ := hz
  rw [← ez] at em eb eo hCB hSE hRE hM0 hag ⊢
  rw [← em] at eb eo hCB hRE hM0 hag ⊢
  rw [← eb] at eo hM0 hag ⊢
  rw [← eo] at hM0 ⊢
  have e4 : ag S1 m (nA S3 o 22 1) (fun _ => False) := by
    intro a ha
    obtain ⟨g1, g2, g3⟩ := hag a (by omega)
    obtain ⟨g4, g5, g6, g7, g8⟩ := g3 (by omega)
    have ne1 : a ≠ o := by omega
    have ne2 : a ≠ m := by omega
    refine ⟨(va_up_ne _ _ ne1).trans (g1.trans (va_up_ne _ _ ne2)), (va_up_ne _ _ ne1).trans g2, fun _ => ⟨fun i => (g4 i).trans (if_neg ne2), fun i => (g5 i).trans (if_neg ne2), (va_up_ne _ _ ne1).trans g6, (va_up_ne _ _ ne1).trans g7, (va_up_ne _ _ ne1).trans g8⟩⟩
  have hmN : z + 244 + 14 * n = m := by omega
  have hCB4 : CB (nA S3 o 22 1) (o + 1) x z _ _ _ := hCB.fr e4 (by omega) ⟨by omega, fun h => h⟩ (by omega) (fun _ _ h => h)
  have hSE4 : SEs (nA S3 o 22 1) z 16 := hSE.fr e4 (by omega) (fun _ _ h => h)
  have hRE4 := REs_al hRE e4 (show m ≤ o + 1 by omega) (by omega) (by omega)
  obtain ⟨hRM, hMI⟩ := mi_init hM0
  have hV := cl_in (lo := 1) (hi := 16) (x := cellI E.2.2.2.2.2.1 E.2.2.2.2.2.2 1) (by decide)
  have hLl := cl_in (lo := 1) (hi := 32) (x := cellI E.2.2.2.2.2.1 E.2.2.2.2.2.2 2) (by decide)
  have hT := cl_in (lo := 2) (hi := 40) (x := cellI E.2.2.2.2.2.1 E.2.2.2.2.2.2 3) (by decide)
  have e16 : mxI 1 (mnI 16 (cellI E.2.2.2.2.2.1 E.2.2.2.2.2.2 1)) = clI 1 16 (cellI E.2.2.2.2.2.1 E.2.2.2.2.2.2 1) := mx_cl (by decide)
  have e32 : mxI 1 (mnI 32 (cellI E.2.2.2.2.2.1 E.2.2.2.2.2.2 2)) = clI 1 32 (cellI E.2.2.2.2.2.1 E.2.2.2.2.2.2 2) := mx_cl (by decide)
  have e40 : mxI 2 (mnI 40 (cellI E.2.2.2.2.2.1 E.2.2.2.2.2.2 3)) = clI 2 40 (cellI E.2.2.2.2.2.1 E.2.2.2.2.2.2 3) := mx_cl (by decide)
  rw [e16, e32, e40] at hCB4 hRE4
  have hRC := rc_init (d0 := o + 1) hCB4 hSE4 hRE4 (by omega) (by omega)
  have hCI := ci_init (d0 := o + 1) hCB4 hSE4 hRE4
  obtain ⟨R, hR⟩ := hP n _ _ _ (c0 (nA S3 o 22 1) z x (o + 1)) (m0 S3 m b) E.2.2.2.2.2.1 E.2.2.2.2.2.2 hn3 hn9 hV hLl hT hCI hMI (by show 1 ≤ o + 1; omega) hL
  have hLW : LW (nA S3 o 22 1) z x n (o + 1) m b o (c0 (nA S3 o 22 1) z x (o + 1), m0 S3 m b, 0) := by
    obtain ⟨⟨r1, r2, r3⟩, r4, r5⟩ := hRM
    refine ⟨⟨by omega, by omega, by omega, by omega, by omega⟩, hRC, ⟨⟨⟨by show m < o + 1; omega, by omega, by show b + 55 ≤ o + 1; omega⟩, (va_up_ne _ _ (by omega)).trans r2, fun f j k n' e => ?_⟩, r4, fun j hj i => ?_⟩, va_up_self _ _ _, va_up_self _ _ _, ?_⟩
    · obtain ⟨q1, q2, q3, q4⟩ := r3 f j k n' e
      exact ⟨q1, (va_up_ne _ _ (by omega)).trans q2, (va_up_ne _ _ (by omega)).trans q3, q4⟩
    · show va_up (vR S3) o (fun _ => 0) (b + j) i = _
      rw [va_up_ne _ _ (by omega)]; exact r5 j hj i
    · show va_up (vJ S3) o (fun _ => 0) o 0 = 0
      rw [va_up_self]
  refine vi_cut [(0, .ref E.2.2.2.2.1), (1, .ref x), (2, .ref m), (3, .ref o), (4, .int (4 : Int32))] ⟨rfl, rfl, rfl, rfl, rfl, trivial⟩ ?_
  refine vi_widen (k' := 428) (n' := 527297) (by omega) (by omega) ?_
  exact w_law C hZ (fun S _ => hx S _) 513 _ 4 hR _ _ (by decide) (by decide) _ hLW
