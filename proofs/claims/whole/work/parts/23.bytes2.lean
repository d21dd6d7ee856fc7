set_option maxRecDepth 100000 in
set_option maxHeartbeats 4000000 in
/-- new Bytes -/
theorem m_X0_init {E : vE} {S : vS} {sz : Nat} {h N : Nat} (hk : vK S h = 1) (hh : h < sz) (h1 : vI S 1 h = 0) (h2 : vI S 2 h = 0) (hN : N < 65536) : vi_Met E yX0_init cX0_init 2 none 1 1 N [.ref (h), .int (nI N)] S sz (fun r S1 z1 => r = none ∧ z1 = sz + 1 ∧ BY S1 (sz + 1) h sz N [] 0 ∧ ag S sz S1 (fun b => b = h)) := by
  refine vi_met (by decide) (Nat.le_of_ble_eq_true rfl) ?_
  intro X C
  refine vi_aload_n C dX0_init_0 rfl rfl ?_
  refine vi_objInit C dX0_init_1 rfl oiX0_1 oi_i oi_c (by decide) (Nat.le_of_ble_eq_true rfl) ?_
  refine vi_aload_n C dX0_init_4 rfl rfl ?_
  refine vi_iload_n C dX0_init_5 rfl rfl ?_
  refine vi_newarray (κ := 20) (N := N) C dX0_init_6 rfl ac_byte rfl (by decide) (by decide) (nI_pos (by omega)) (nI_clamp (by omega)) (by show N * 1 ≤ _; omega) (by decide) (by omega) ?_
  refine vi_putp (i := 0) (o := some (sz)) C dX0_init_8 rfl fpX0_7 ((qK_nA_a _ _ _ _ _ (by omega)).trans hk) rfl rfl (by decide) ?_
  exact vi_return C dX0_init_11 rfl (by decide) (by omega) (by
      have hn : h ≠ sz := by omega
      refine ⟨rfl, rfl, ⟨⟨by omega, by omega, ?_, ?_⟩, ?_, ?_, hN, Nat.zero_le _, ?_, ?_, fun j hj => absurd hj (Nat.not_lt_zero _), fun b hb => by cases hb⟩, ?_⟩
      rotate_right
      · exact ((ag.nA (A := fun _ => False)).tr (ag.sP (sz := sz)) (Nat.le_refl _)).mo (Nat.le_refl _) (fun b _ q => q.elim False.elim id)
      all_goals (simp (disch := omega) only [qK_sI, qK_sP, qK_sR, qK_sJ, qK_sQ, qK_nO_s, qK_nO_a, qK_nA_s, qK_nA_a, qN_sI, qN_sP, qN_sR, qN_sJ, qN_sQ, qN_nO, qN_nA_s, qN_nA_a, qI_sI_s, qI_sI_i, qI_sI_a, qI_sP, qI_sR, qI_sJ, qI_sQ, qI_nO_s, qI_nO_a, qI_nA, qP_sI, qP_sP_s, qP_sP_i, qP_sP_a, qP_sR, qP_sJ, qP_sQ, qP_nO_s, qP_nO_a, qP_nA, qR_sI, qR_sP, qR_sR_s, qR_sR_i, qR_sR_a, qR_sJ, qR_sQ, qR_nO, qR_nA_s, qR_nA_a, qJ_sI, qJ_sP, qJ_sR, qJ_sJ_s, qJ_sJ_i, qJ_sJ_a, qJ_sQ, qJ_nO, qJ_nA_s, qJ_nA_a, qQ_sI, qQ_sP, qQ_sR, qQ_sJ, qQ_sQ_s, qQ_sQ_i, qQ_sQ_a, qQ_nO, qQ_nA_s, qQ_nA_a]; try assumption))

set_option maxRecDepth 100000 in
set_option maxHeartbeats 4000000 in
/-- Bytes.putFour -/
theorem m_X0_putFour {E : vE} {S : vS} {sz : Nat} {h w N x : Nat} {l : List Nat} {v : Int32} (B : BY S sz h w N l x) (hl : l.length + 4 ≤ N) : vi_Met E yX0_putFour cX0_putFour 3 none 1 0 0 [.ref (h), .int (v)] S sz (fun r S1 z1 => r = none ∧ z1 = sz ∧ BY S1 sz h w N (l ++ be4 v) x ∧ ag S sz S1 (fun b => b = h ∨ b = w)) := by
  refine vi_met (by decide) (Nat.le_of_ble_eq_true rfl) ?_
  intro X C
  refine vi_bipush (v := 24) C dX0_putFour_0 rfl (by decide) ?_
  refine vi_istore_n C dX0_putFour_2 rfl (by decide) ?_
  refine vi_iload_n C dX0_putFour_3 rfl rfl ?_
  refine vi_if_lt (t' := 20) C dX0_putFour_4 rfl (by decide) (fun hc4 => ?_) (fun hc4 => ?_)
  · exact absurd hc4 (by decide)
  · refine vi_aload_n C dX0_putFour_7 rfl rfl ?_
    refine vi_iload_n C dX0_putFour_8 rfl rfl ?_
    refine vi_iload_n C dX0_putFour_9 rfl rfl ?_
    refine vi_iushr C dX0_putFour_10 rfl ?_
    refine vi_callV (c := 0) C [.int (((v).toUInt32 >>> (((24 : Int32)).toUInt32 &&& Int32.toUInt32 31)).toInt32)] [] dX0_putFour_11 rfl ivX0_20 imX0_put rfl rfl B.1.2.2.1 (m_X0_put B (by first | omega | (simp; omega))) rfl (Nat.le_of_ble_eq_true rfl) ⟨by decide, by decide⟩ ⟨by decide, by decide⟩ (fun r11 T1 z11 hq11 => ?_)
    obtain ⟨rfl, rfl, B1, g1⟩ := hq11
    refine vi_iinc C dX0_putFour_14 rfl rfl (by decide) ?_
    refine vi_goto (t' := 3) C dX0_putFour_17 (by decide) ?_
    refine vi_iload_n C dX0_putFour_3 rfl rfl ?_
    refine vi_if_lt (t' := 20) C dX0_putFour_4 rfl (by decide) (fun hc4 => ?_) (fun hc4 => ?_)
    · exact absurd hc4 (by decide)
    · refine vi_aload_n C dX0_putFour_7 rfl rfl ?_
      refine vi_iload_n C dX0_putFour_8 rfl rfl ?_
      refine vi_iload_n C dX0_putFour_9 rfl rfl ?_
      refine vi_iushr C dX0_putFour_10 rfl ?_
      refine vi_callV (c := 0) C [.int (((v).toUInt32 >>> ((((24 : Int32) + Int32.ofInt (-8))).toUInt32 &&& Int32.toUInt32 31)).toInt32)] [] dX0_putFour_11 rfl ivX0_20 imX0_put rfl rfl B1.1.2.2.1 (m_X0_put B1 (by first | omega | (simp; omega))) rfl (Nat.le_of_ble_eq_true rfl) ⟨by decide, by decide⟩ ⟨by decide, by decide⟩ (fun r11 T2 z11 hq11 => ?_)
      obtain ⟨rfl, rfl, B2, g2⟩ := hq11
      refine vi_iinc C dX0_putFour_14 rfl rfl (by decide) ?_
      refine vi_goto (t' := 3) C dX0_putFour_17 (by decide) ?_
      refine vi_iload_n C dX0_putFour_3 rfl rfl ?_
      refine vi_if_lt (t' := 20) C dX0_putFour_4 rfl (by decide) (fun hc4 => ?_) (fun hc4 => ?_)
      · exact absurd hc4 (by decide)
      · refine vi_aload_n C dX0_putFour_7 rfl rfl ?_
        refine vi_iload_n C dX0_putFour_8 rfl rfl ?_
        refine vi_iload_n C dX0_putFour_9 rfl rfl ?_
        refine vi_iushr C dX0_putFour_10 rfl ?_
        refine vi_callV (c := 0) C [.int (((v).toUInt32 >>> (((((24 : Int32) + Int32.ofInt (-8)) + Int32.ofInt (-8))).toUInt32 &&& Int32.toUInt32 31)).toInt32)] [] dX0_putFour_11 rfl ivX0_20 imX0_put rfl rfl B2.1.2.2.1 (m_X0_put B2 (by first | omega | (simp; omega))) rfl (Nat.le_of_ble_eq_true rfl) ⟨by decide, by decide⟩ ⟨by decide, by decide⟩ (fun r11 T3 z11 hq11 => ?_)
        obtain ⟨rfl, rfl, B3, g3⟩ := hq11
        refine vi_iinc C dX0_putFour_14 rfl rfl (by decide) ?_
        refine vi_goto (t' := 3) C dX0_putFour_17 (by decide) ?_
        refine vi_iload_n C dX0_putFour_3 rfl rfl ?_
        refine vi_if_lt (t' := 20) C dX0_putFour_4 rfl (by decide) (fun hc4 => ?_) (fun hc4 => ?_)
        · exact absurd hc4 (by decide)
        · refine vi_aload_n C dX0_putFour_7 rfl rfl ?_
          refine vi_iload_n C dX0_putFour_8 rfl rfl ?_
          refine vi_iload_n C dX0_putFour_9 rfl rfl ?_
          refine vi_iushr C dX0_putFour_10 rfl ?_
          refine vi_callV (c := 0) C [.int (((v).toUInt32 >>> ((((((24 : Int32) + Int32.ofInt (-8)) + Int32.ofInt (-8)) + Int32.ofInt (-8))).toUInt32 &&& Int32.toUInt32 31)).toInt32)] [] dX0_putFour_11 rfl ivX0_20 imX0_put rfl rfl B3.1.2.2.1 (m_X0_put B3 (by first | omega | (simp; omega))) rfl (Nat.le_of_ble_eq_true rfl) ⟨by decide, by decide⟩ ⟨by decide, by decide⟩ (fun r11 T4 z11 hq11 => ?_)
          obtain ⟨rfl, rfl, B4, g4⟩ := hq11
          refine vi_iinc C dX0_putFour_14 rfl rfl (by decide) ?_
          refine vi_goto (t' := 3) C dX0_putFour_17 (by decide) ?_
          refine vi_iload_n C dX0_putFour_3 rfl rfl ?_
          refine vi_if_lt (t' := 20) C dX0_putFour_4 rfl (by decide) (fun hc4 => ?_) (fun hc4 => ?_)
          · exact vi_return C dX0_putFour_20 rfl (by decide) (by decide) (by
                refine ⟨rfl, rfl, ?_, (((g1.tr g2 (Nat.le_refl _)).tr g3 (Nat.le_refl _)).tr g4 (Nat.le_refl _)).mo (Nat.le_refl _) (fun b _ q => q.elim (fun q => q.elim (fun q => q.elim id id) id) id)⟩
                have e : (24 : Int32) + Int32.ofInt (-8) = 16 ∧ (16 : Int32) + Int32.ofInt (-8) = 8 ∧ (8 : Int32) + Int32.ofInt (-8) = 0 := by decide
                rw [e.1, e.2.1, e.2.2] at B4
                simpa [be4, shr] using B4)
          · exact absurd (by decide) hc4

set_option maxRecDepth 100000 in
set_option maxHeartbeats 4000000 in
/-- Bytes.putCheck -/
theorem m_X0_putCheck {E : vE} {S : vS} {sz : Nat} {h w N x f : Nat} {l : List Nat} (B : BY S sz h w N l x) (hf : f ≤ l.length) (hl : l.length + 4 ≤ N) : vi_Met E yX0_putCheck cX0_putCheck 4 none 1 0 0 [.ref (h), .int (nI f)] S sz (fun r S1 z1 => r = none ∧ z1 = sz ∧ BY S1 sz h w N (l ++ le4 (chk (l.drop f))) x ∧ ag S sz S1 (fun b => b = h ∨ b = w)) := by
  refine vi_met (by decide) (Nat.le_of_ble_eq_true rfl) ?_
  intro X C
  have hN := B.2.2.2.1
  have hLN := B.2.2.2.2.1
  have loop : ∀ (n i : Nat) (c : Int32), i + n = l.length → crcL c (l.drop i) = crcL (-1) (l.drop f) → vi_W E X 4 (vi_Z E X (fun r S1 z1 => r = none ∧ z1 = sz ∧ BY S1 sz h w N (l ++ le4 (chk (l.drop f))) x ∧ ag S sz S1 (fun b => b = h ∨ b = w)) 0 0) 4 [(0, .ref h), (1, .int (nI f)), (2, .int c), (3, .int (nI i))] [] S sz 0 0 := by
    intro n
    induction n with
    | zero =>
      intro i c hi hcn
      refine vi_iload_n C dX0_putCheck_4 rfl rfl ?_
      refine vi_aload_n C dX0_putCheck_5 rfl rfl ?_
      refine vi_geti (i := 1) C dX0_putCheck_6 rfl fX0_13 B.1.2.2.1 rfl rfl ?_
      refine vi_icmp_ge (t' := 28) C dX0_putCheck_9 rfl (by decide) (fun hc9 => ?_) (fun hc9 => ?_)
      · refine vi_iconst (v := 0) C dX0_putCheck_28 rfl (by decide) ?_
        refine vi_istore_n C dX0_putCheck_29 rfl (by decide) ?_
        refine vi_iload_n C dX0_putCheck_30 rfl rfl ?_
        refine vi_bipush (v := 32) C dX0_putCheck_31 rfl (by decide) ?_
        refine vi_icmp_ge (t' := 51) C dX0_putCheck_33 rfl (by decide) (fun hc33 => ?_) (fun hc33 => ?_)
        · exact absurd hc33 (by decide)
        · refine vi_aload_n C dX0_putCheck_36 rfl rfl ?_
          refine vi_iload_n C dX0_putCheck_37 rfl rfl ?_
          refine vi_iconst (v := -1) C dX0_putCheck_38 rfl (by decide) ?_
          refine vi_ixor C dX0_putCheck_39 rfl ?_
          refine vi_iload_n C dX0_putCheck_40 rfl rfl ?_
          refine vi_iushr C dX0_putCheck_41 rfl ?_
          refine vi_callV (c := 0) C [.int ((((c ^^^ (-1 : Int32))).toUInt32 >>> (((0 : Int32)).toUInt32 &&& Int32.toUInt32 31)).toInt32)] [] dX0_putCheck_42 rfl ivX0_20 imX0_put rfl rfl B.1.2.2.1 (m_X0_put B (by first | omega | (simp; omega))) rfl (Nat.le_of_ble_eq_true rfl) ⟨by decide, by decide⟩ ⟨by decide, by decide⟩ (fun r42 T1 z42 hq42 => ?_)
          obtain ⟨rfl, rfl, B1, g1⟩ := hq42
          refine vi_iinc C dX0_putCheck_45 rfl rfl (by decide) ?_
          refine vi_goto (t' := 30) C dX0_putCheck_48 (by decide) ?_
          refine vi_iload_n C dX0_putCheck_30 rfl rfl ?_
          refine vi_bipush (v := 32) C dX0_putCheck_31 rfl (by decide) ?_
          refine vi_icmp_ge (t' := 51) C dX0_putCheck_33 rfl (by decide) (fun hc33 => ?_) (fun hc33 => ?_)
          · exact absurd hc33 (by decide)
          · refine vi_aload_n C dX0_putCheck_36 rfl rfl ?_
            refine vi_iload_n C dX0_putCheck_37 rfl rfl ?_
            refine vi_iconst (v := -1) C dX0_putCheck_38 rfl (by decide) ?_
            refine vi_ixor C dX0_putCheck_39 rfl ?_
            refine vi_iload_n C dX0_putCheck_40 rfl rfl ?_
            refine vi_iushr C dX0_putCheck_41 rfl ?_
            refine vi_callV (c := 0) C [.int ((((c ^^^ (-1 : Int32))).toUInt32 >>> ((((0 : Int32) + Int32.ofInt (8))).toUInt32 &&& Int32.toUInt32 31)).toInt32)] [] dX0_putCheck_42 rfl ivX0_20 imX0_put rfl rfl B1.1.2.2.1 (m_X0_put B1 (by first | omega | (simp; omega))) rfl (Nat.le_of_ble_eq_true rfl) ⟨by decide, by decide⟩ ⟨by decide, by decide⟩ (fun r42 T2 z42 hq42 => ?_)
            obtain ⟨rfl, rfl, B2, g2⟩ := hq42
            refine vi_iinc C dX0_putCheck_45 rfl rfl (by decide) ?_
            refine vi_goto (t' := 30) C dX0_putCheck_48 (by decide) ?_
            refine vi_iload_n C dX0_putCheck_30 rfl rfl ?_
            refine vi_bipush (v := 32) C dX0_putCheck_31 rfl (by decide) ?_
            refine vi_icmp_ge (t' := 51) C dX0_putCheck_33 rfl (by decide) (fun hc33 => ?_) (fun hc33 => ?_)
            · exact absurd hc33 (by decide)
            · refine vi_aload_n C dX0_putCheck_36 rfl rfl ?_
              refine vi_iload_n C dX0_putCheck_37 rfl rfl ?_
              refine vi_iconst (v := -1) C dX0_putCheck_38 rfl (by decide) ?_
              refine vi_ixor C dX0_putCheck_39 rfl ?_
              refine vi_iload_n C dX0_putCheck_40 rfl rfl ?_
              refine vi_iushr C dX0_putCheck_41 rfl ?_
              refine vi_callV (c := 0) C [.int ((((c ^^^ (-1 : Int32))).toUInt32 >>> (((((0 : Int32) + Int32.ofInt (8)) + Int32.ofInt (8))).toUInt32 &&& Int32.toUInt32 31)).toInt32)] [] dX0_putCheck_42 rfl ivX0_20 imX0_put rfl rfl B2.1.2.2.1 (m_X0_put B2 (by first | omega | (simp; omega))) rfl (Nat.le_of_ble_eq_true rfl) ⟨by decide, by decide⟩ ⟨by decide, by decide⟩ (fun r42 T3 z42 hq42 => ?_)
              obtain ⟨rfl, rfl, B3, g3⟩ := hq42
              refine vi_iinc C dX0_putCheck_45 rfl rfl (by decide) ?_
              refine vi_goto (t' := 30) C dX0_putCheck_48 (by decide) ?_
              refine vi_iload_n C dX0_putCheck_30 rfl rfl ?_
              refine vi_bipush (v := 32) C dX0_putCheck_31 rfl (by decide) ?_
              refine vi_icmp_ge (t' := 51) C dX0_putCheck_33 rfl (by decide) (fun hc33 => ?_) (fun hc33 => ?_)
              · exact absurd hc33 (by decide)
              · refine vi_aload_n C dX0_putCheck_36 rfl rfl ?_
                refine vi_iload_n C dX0_putCheck_37 rfl rfl ?_
                refine vi_iconst (v := -1) C dX0_putCheck_38 rfl (by decide) ?_
                refine vi_ixor C dX0_putCheck_39 rfl ?_
                refine vi_iload_n C dX0_putCheck_40 rfl rfl ?_
                refine vi_iushr C dX0_putCheck_41 rfl ?_
                refine vi_callV (c := 0) C [.int ((((c ^^^ (-1 : Int32))).toUInt32 >>> ((((((0 : Int32) + Int32.ofInt (8)) + Int32.ofInt (8)) + Int32.ofInt (8))).toUInt32 &&& Int32.toUInt32 31)).toInt32)] [] dX0_putCheck_42 rfl ivX0_20 imX0_put rfl rfl B3.1.2.2.1 (m_X0_put B3 (by first | omega | (simp; omega))) rfl (Nat.le_of_ble_eq_true rfl) ⟨by decide, by decide⟩ ⟨by decide, by decide⟩ (fun r42 T4 z42 hq42 => ?_)
                obtain ⟨rfl, rfl, B4, g4⟩ := hq42
                refine vi_iinc C dX0_putCheck_45 rfl rfl (by decide) ?_
                refine vi_goto (t' := 30) C dX0_putCheck_48 (by decide) ?_
                refine vi_iload_n C dX0_putCheck_30 rfl rfl ?_
                refine vi_bipush (v := 32) C dX0_putCheck_31 rfl (by decide) ?_
                refine vi_icmp_ge (t' := 51) C dX0_putCheck_33 rfl (by decide) (fun hc33 => ?_) (fun hc33 => ?_)
                · exact vi_return C dX0_putCheck_51 rfl (by decide) (by decide) (by
                      refine ⟨rfl, rfl, ?_, (((g1.tr g2 (Nat.le_refl _)).tr g3 (Nat.le_refl _)).tr g4 (Nat.le_refl _)).mo (Nat.le_refl _) (fun b _ q => q.elim (fun q => q.elim (fun q => q.elim id id) id) id)⟩
                      have e : (0 : Int32) + Int32.ofInt 8 = 8 ∧ (8 : Int32) + Int32.ofInt 8 = 16 ∧ (16 : Int32) + Int32.ofInt 8 = 24 := by decide
                      have e5 : c = crcL (-1) (l.drop f) := by
                        rw [← hcn, List.drop_eq_nil_of_le (show l.length ≤ i by omega)]; rfl
                      rw [e.1, e.2.1, e.2.2, e5] at B4
                      simpa [le4, shr, chk] using B4)
                · exact absurd (by decide) hc33
      · exact absurd (by rw [B.2.2.2.2.2.1]; exact nI_le (a := l.length) (b := i) (by omega) (by omega)) hc9
    | succ n ih =>
      intro i c hi hcn
      refine vi_iload_n C dX0_putCheck_4 rfl rfl ?_
      refine vi_aload_n C dX0_putCheck_5 rfl rfl ?_
      refine vi_geti (i := 1) C dX0_putCheck_6 rfl fX0_13 B.1.2.2.1 rfl rfl ?_
      refine vi_icmp_ge (t' := 28) C dX0_putCheck_9 rfl (by decide) (fun hc9 => ?_) (fun hc9 => ?_)
      · exact absurd hc9 (by rw [B.2.2.2.2.2.1]; exact nI_ge (a := i) (b := l.length) (by omega) (by omega))
      · refine vi_iload_n C dX0_putCheck_12 rfl rfl ?_
        refine vi_aload_n C dX0_putCheck_13 rfl rfl ?_
        refine vi_iload_n C dX0_putCheck_14 rfl rfl ?_
        refine vi_callV (c := 0) C [.int (nI i)] [.int (c)] dX0_putCheck_15 rfl ivX0_30 imX0_byteAt rfl rfl B.1.2.2.1 (m_X0_byteAt (i := i) B (by omega)) rfl (Nat.le_of_ble_eq_true rfl) ⟨by decide, by decide⟩ ⟨by decide, by decide⟩ (fun r15 S15 z15 hq15 => ?_)
        obtain ⟨rfl, rfl, rfl⟩ := hq15
        refine vi_callS C [.int (c), .int (nI (byA l i))] [] dX0_putCheck_18 rfl ivX0_34 isX0_checkStep (m_X0_checkStep (c0 := c) (v := nI (byA l i))) rfl (Nat.le_of_ble_eq_true rfl) ⟨by decide, by decide⟩ ⟨by decide, by decide⟩ (fun r18 S18 z18 hq18 => ?_)
        obtain ⟨rfl, rfl, rfl⟩ := hq18
        refine vi_istore_n C dX0_putCheck_21 rfl (by decide) ?_
        refine vi_iinc C dX0_putCheck_22 rfl rfl (by decide) ?_
        refine vi_goto (t' := 4) C dX0_putCheck_25 (by decide) ?_
        refine vi_cut [(0, .ref h), (1, .int (nI f)), (2, .int (crcN 8 (c ^^^ nI (byA l i)))), (3, .int (nI (i + 1)))] ⟨rfl, rfl, rfl, by rw [← nI_1]; rfl, trivial⟩ (ih (i + 1) _ (by omega) ?_)
        rw [← hcn, show l.drop i = byA l i :: l.drop (i + 1) from by
          rw [List.drop_eq_getElem_cons (show i < l.length by omega)]
          simp [byA, List.getD, List.getElem?_eq_getElem (show i < l.length by omega)]]
        rfl
  refine vi_iconst (v := -1) C dX0_putCheck_0 rfl (by decide) ?_
  refine vi_istore_n C dX0_putCheck_1 rfl (by decide) ?_
  refine vi_iload_n C dX0_putCheck_2 rfl rfl ?_
  refine vi_istore_n C dX0_putCheck_3 rfl (by decide) ?_
  exact vi_cut [(0, .ref h), (1, .int (nI f)), (2, .int (-1)), (3, .int (nI f))] ⟨rfl, rfl, rfl, rfl, trivial⟩ (loop (l.length - f) f (-1) (by omega) rfl)
