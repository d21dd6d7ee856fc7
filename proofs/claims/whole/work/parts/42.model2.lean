set_option maxRecDepth 100000 in
set_option maxHeartbeats 4000000 in
/-- the reference: layCheck -/
theorem m_X12_layCheck {E : vE} {S : vS} {sz : Nat} {m b f : Nat} {l : List Nat} (M : MO S sz m b) (B : LB S m b l) (hf : f ≤ l.length) (hl : l.length + 4 ≤ 2400) : vi_Met E yX12_layCheck cX12_layCheck 6 none 1 0 0 [.ref (m), .int (nI f)] S sz (fun r S1 z1 => r = none ∧ z1 = sz ∧ LB S1 m b (l ++ le4 (chk (l.drop f))) ∧ agL S sz S1 m b) := by
  refine vi_met (by decide) (Nat.le_of_ble_eq_true rfl) ?_
  intro X C
  have inner : ∀ (k : Nat) (c1 : Int32), vi_W E X 6 (vi_Z E X (fun r S1 z1 => r = none ∧ z1 = sz ∧ LB S1 m b (l ++ le4 (chk (l.drop f))) ∧ agL S sz S1 m b) 0 0) 61 [(0, .ref m), (1, .int (nI f)), (2, .int c1), (3, .int (nI k))] [] S sz 0 0 → ∀ (n j : Nat) (c : Int32), j + n = 8 → crcN n c = c1 → vi_W E X 6 (vi_Z E X (fun r S1 z1 => r = none ∧ z1 = sz ∧ LB S1 m b (l ++ le4 (chk (l.drop f))) ∧ agL S sz S1 m b) 0 0) 24 [(0, .ref m), (1, .int (nI f)), (2, .int c), (3, .int (nI k)), (4, .int (nI j))] [] S sz 0 0 := by
    intro k c1 go n
    induction n with
    | zero =>
      intro j c hj hcn
      refine vi_iload C dX12_layCheck_24 rfl rfl ?_
      refine vi_bipush (v := 8) C dX12_layCheck_26 rfl (by decide) ?_
      refine vi_icmp_ge (t' := 61) C dX12_layCheck_28 rfl (by decide) (fun hc28 => ?_) (fun hc28 => ?_)
      · have hcn : c = c1 := hcn
        subst hcn
        exact vi_cut [(0, .ref m), (1, .int (nI f)), (2, .int c), (3, .int (nI k))] ⟨rfl, rfl, rfl, rfl, trivial⟩ go
      · exact absurd (nI_le (a := 8) (b := j) (by omega) (by omega)) hc28
    | succ n ih =>
      intro j c hj hcn
      refine vi_iload C dX12_layCheck_24 rfl rfl ?_
      refine vi_bipush (v := 8) C dX12_layCheck_26 rfl (by decide) ?_
      refine vi_icmp_ge (t' := 61) C dX12_layCheck_28 rfl (by decide) (fun hc28 => ?_) (fun hc28 => ?_)
      · exact absurd hc28 (nI_ge (a := j) (b := 8) (by omega) (by omega))
      · refine vi_iload_n C dX12_layCheck_31 rfl rfl ?_
        refine vi_iconst (v := 1) C dX12_layCheck_32 rfl (by decide) ?_
        refine vi_iand C dX12_layCheck_33 rfl ?_
        refine vi_istore C dX12_layCheck_34 rfl (by decide) ?_
        refine vi_iload_n C dX12_layCheck_36 rfl rfl ?_
        refine vi_iconst (v := 1) C dX12_layCheck_37 rfl (by decide) ?_
        refine vi_iushr C dX12_layCheck_38 rfl ?_
        refine vi_istore_n C dX12_layCheck_39 rfl (by decide) ?_
        refine vi_iload_n C dX12_layCheck_40 rfl rfl ?_
        refine vi_iload C dX12_layCheck_41 rfl rfl ?_
        refine vi_iconst (v := 1) C dX12_layCheck_43 rfl (by decide) ?_
        refine vi_icmp_ne (t' := 52) C dX12_layCheck_44 rfl (by decide) (fun hc44 => ?_) (fun hc44 => ?_)
        · refine vi_iconst (v := 0) C dX12_layCheck_52 rfl (by decide) ?_
          refine vi_ixor C dX12_layCheck_53 rfl ?_
          refine vi_istore_n C dX12_layCheck_54 rfl (by decide) ?_
          refine vi_iinc C dX12_layCheck_55 rfl rfl (by decide) ?_
          refine vi_goto (t' := 24) C dX12_layCheck_58 (by decide) ?_
          refine vi_cut [(0, .ref m), (1, .int (nI f)), (2, .int (crc1 c)), (3, .int (nI k)), (4, .int (nI (j + 1)))] ⟨rfl, rfl, by rw [show crc1 c = (((c).toUInt32 >>> (((1 : Int32)).toUInt32 &&& Int32.toUInt32 31)).toInt32 ^^^ (0 : Int32)) from by unfold crc1; first | rw [if_pos hc44] | (rw [if_neg hc44]; exact (Int32.xor_zero).symm)]; rfl, rfl, by rw [← nI_1]; rfl, trivial⟩ (ih (j + 1) (crc1 c) (by omega) hcn)
        · refine vi_ldc C dX12_layCheck_47 rfl kX12_234 ?_
          refine vi_goto (t' := 53) C dX12_layCheck_49 (by decide) ?_
          refine vi_ixor C dX12_layCheck_53 rfl ?_
          refine vi_istore_n C dX12_layCheck_54 rfl (by decide) ?_
          refine vi_iinc C dX12_layCheck_55 rfl rfl (by decide) ?_
          refine vi_goto (t' := 24) C dX12_layCheck_58 (by decide) ?_
          refine vi_cut [(0, .ref m), (1, .int (nI f)), (2, .int (crc1 c)), (3, .int (nI k)), (4, .int (nI (j + 1)))] ⟨rfl, rfl, by rw [show crc1 c = (((c).toUInt32 >>> (((1 : Int32)).toUInt32 &&& Int32.toUInt32 31)).toInt32 ^^^ (-306674912 : Int32)) from by unfold crc1; first | rw [if_pos hc44] | (rw [if_neg hc44]; exact (Int32.xor_zero).symm)]; rfl, rfl, by rw [← nI_1]; rfl, trivial⟩ (ih (j + 1) (crc1 c) (by omega) hcn)
  have loop : ∀ (n i : Nat) (c : Int32), i + n = l.length → crcL c (l.drop i) = crcL (-1) (l.drop f) → vi_W E X 6 (vi_Z E X (fun r S1 z1 => r = none ∧ z1 = sz ∧ LB S1 m b (l ++ le4 (chk (l.drop f))) ∧ agL S sz S1 m b) 0 0) 4 [(0, .ref m), (1, .int (nI f)), (2, .int c), (3, .int (nI i))] [] S sz 0 0 := by
    intro n
    induction n with
    | zero =>
      intro i c hi hcn
      refine vi_iload_n C dX12_layCheck_4 rfl rfl ?_
      refine vi_aload_n C dX12_layCheck_5 rfl rfl ?_
      refine vi_geti (i := 1245) C dX12_layCheck_6 rfl fX12_218 M.2.1 rfl rfl ?_
      refine vi_icmp_ge (t' := 67) C dX12_layCheck_9 rfl (by decide) (fun hc9 => ?_) (fun hc9 => ?_)
      · refine vi_iload_n C dX12_layCheck_67 rfl rfl ?_
        refine vi_iconst (v := -1) C dX12_layCheck_68 rfl (by decide) ?_
        refine vi_ixor C dX12_layCheck_69 rfl ?_
        refine vi_istore_n C dX12_layCheck_70 rfl (by decide) ?_
        refine vi_iconst (v := 0) C dX12_layCheck_71 rfl (by decide) ?_
        refine vi_istore_n C dX12_layCheck_72 rfl (by decide) ?_
        refine vi_iload_n C dX12_layCheck_73 rfl rfl ?_
        refine vi_iconst (v := 4) C dX12_layCheck_74 rfl (by decide) ?_
        refine vi_icmp_ge (t' := 94) C dX12_layCheck_75 rfl (by decide) (fun hc75 => ?_) (fun hc75 => ?_)
        · exact absurd hc75 (by decide)
        · refine vi_aload_n C dX12_layCheck_78 rfl rfl ?_
          refine vi_iload_n C dX12_layCheck_79 rfl rfl ?_
          refine vi_bipush (v := 8) C dX12_layCheck_80 rfl (by decide) ?_
          refine vi_iload_n C dX12_layCheck_82 rfl rfl ?_
          refine vi_imul C dX12_layCheck_83 rfl ?_
          refine vi_iushr C dX12_layCheck_84 rfl ?_
          refine vi_callV (c := 12) C [.int ((((c ^^^ (-1 : Int32))).toUInt32 >>> ((((8 : Int32) * (0 : Int32))).toUInt32 &&& Int32.toUInt32 31)).toInt32)] [] dX12_layCheck_85 rfl ivX12_221 imX12_lay rfl rfl M.2.1 (m_X12_lay M B (by first | omega | (simp; omega))) rfl (Nat.le_of_ble_eq_true rfl) ⟨by decide, by decide⟩ ⟨by decide, by decide⟩ (fun r85 T1 z85 hq0 => ?_)
          obtain ⟨rfl, rfl, B1, g1⟩ := hq0
          have M1 := M.frL g1
          refine vi_iinc C dX12_layCheck_88 rfl rfl (by decide) ?_
          refine vi_goto (t' := 73) C dX12_layCheck_91 (by decide) ?_
          refine vi_iload_n C dX12_layCheck_73 rfl rfl ?_
          refine vi_iconst (v := 4) C dX12_layCheck_74 rfl (by decide) ?_
          refine vi_icmp_ge (t' := 94) C dX12_layCheck_75 rfl (by decide) (fun hc75 => ?_) (fun hc75 => ?_)
          · exact absurd hc75 (by decide)
          · refine vi_aload_n C dX12_layCheck_78 rfl rfl ?_
            refine vi_iload_n C dX12_layCheck_79 rfl rfl ?_
            refine vi_bipush (v := 8) C dX12_layCheck_80 rfl (by decide) ?_
            refine vi_iload_n C dX12_layCheck_82 rfl rfl ?_
            refine vi_imul C dX12_layCheck_83 rfl ?_
            refine vi_iushr C dX12_layCheck_84 rfl ?_
            refine vi_callV (c := 12) C [.int ((((c ^^^ (-1 : Int32))).toUInt32 >>> ((((8 : Int32) * ((0 : Int32) + Int32.ofInt (1)))).toUInt32 &&& Int32.toUInt32 31)).toInt32)] [] dX12_layCheck_85 rfl ivX12_221 imX12_lay rfl rfl M1.2.1 (m_X12_lay M1 B1 (by first | omega | (simp; omega))) rfl (Nat.le_of_ble_eq_true rfl) ⟨by decide, by decide⟩ ⟨by decide, by decide⟩ (fun r85 T2 z85 hq1 => ?_)
            obtain ⟨rfl, rfl, B2, g2⟩ := hq1
            have M2 := M1.frL g2
            refine vi_iinc C dX12_layCheck_88 rfl rfl (by decide) ?_
            refine vi_goto (t' := 73) C dX12_layCheck_91 (by decide) ?_
            refine vi_iload_n C dX12_layCheck_73 rfl rfl ?_
            refine vi_iconst (v := 4) C dX12_layCheck_74 rfl (by decide) ?_
            refine vi_icmp_ge (t' := 94) C dX12_layCheck_75 rfl (by decide) (fun hc75 => ?_) (fun hc75 => ?_)
            · exact absurd hc75 (by decide)
            · refine vi_aload_n C dX12_layCheck_78 rfl rfl ?_
              refine vi_iload_n C dX12_layCheck_79 rfl rfl ?_
              refine vi_bipush (v := 8) C dX12_layCheck_80 rfl (by decide) ?_
              refine vi_iload_n C dX12_layCheck_82 rfl rfl ?_
              refine vi_imul C dX12_layCheck_83 rfl ?_
              refine vi_iushr C dX12_layCheck_84 rfl ?_
              refine vi_callV (c := 12) C [.int ((((c ^^^ (-1 : Int32))).toUInt32 >>> ((((8 : Int32) * (((0 : Int32) + Int32.ofInt (1)) + Int32.ofInt (1)))).toUInt32 &&& Int32.toUInt32 31)).toInt32)] [] dX12_layCheck_85 rfl ivX12_221 imX12_lay rfl rfl M2.2.1 (m_X12_lay M2 B2 (by first | omega | (simp; omega))) rfl (Nat.le_of_ble_eq_true rfl) ⟨by decide, by decide⟩ ⟨by decide, by decide⟩ (fun r85 T3 z85 hq2 => ?_)
              obtain ⟨rfl, rfl, B3, g3⟩ := hq2
              have M3 := M2.frL g3
              refine vi_iinc C dX12_layCheck_88 rfl rfl (by decide) ?_
              refine vi_goto (t' := 73) C dX12_layCheck_91 (by decide) ?_
              refine vi_iload_n C dX12_layCheck_73 rfl rfl ?_
              refine vi_iconst (v := 4) C dX12_layCheck_74 rfl (by decide) ?_
              refine vi_icmp_ge (t' := 94) C dX12_layCheck_75 rfl (by decide) (fun hc75 => ?_) (fun hc75 => ?_)
              · exact absurd hc75 (by decide)
              · refine vi_aload_n C dX12_layCheck_78 rfl rfl ?_
                refine vi_iload_n C dX12_layCheck_79 rfl rfl ?_
                refine vi_bipush (v := 8) C dX12_layCheck_80 rfl (by decide) ?_
                refine vi_iload_n C dX12_layCheck_82 rfl rfl ?_
                refine vi_imul C dX12_layCheck_83 rfl ?_
                refine vi_iushr C dX12_layCheck_84 rfl ?_
                refine vi_callV (c := 12) C [.int ((((c ^^^ (-1 : Int32))).toUInt32 >>> ((((8 : Int32) * ((((0 : Int32) + Int32.ofInt (1)) + Int32.ofInt (1)) + Int32.ofInt (1)))).toUInt32 &&& Int32.toUInt32 31)).toInt32)] [] dX12_layCheck_85 rfl ivX12_221 imX12_lay rfl rfl M3.2.1 (m_X12_lay M3 B3 (by first | omega | (simp; omega))) rfl (Nat.le_of_ble_eq_true rfl) ⟨by decide, by decide⟩ ⟨by decide, by decide⟩ (fun r85 T4 z85 hq3 => ?_)
                obtain ⟨rfl, rfl, B4, g4⟩ := hq3
                have M4 := M3.frL g4
                refine vi_iinc C dX12_layCheck_88 rfl rfl (by decide) ?_
                refine vi_goto (t' := 73) C dX12_layCheck_91 (by decide) ?_
                refine vi_iload_n C dX12_layCheck_73 rfl rfl ?_
                refine vi_iconst (v := 4) C dX12_layCheck_74 rfl (by decide) ?_
                refine vi_icmp_ge (t' := 94) C dX12_layCheck_75 rfl (by decide) (fun hc75 => ?_) (fun hc75 => ?_)
                · exact vi_return C dX12_layCheck_94 rfl (by decide) (by decide) (by
                      refine ⟨rfl, rfl, ?_, ((g1.tr g2).tr g3).tr g4⟩
                      have e5 : c = crcL (-1) (l.drop f) := by
                        rw [← hcn, List.drop_eq_nil_of_le (show l.length ≤ i by omega)]; rfl
                      have e : (8 : Int32) * 0 = 0 ∧ (8 : Int32) * (0 + Int32.ofInt 1) = 8 ∧ (8 : Int32) * (0 + Int32.ofInt 1 + Int32.ofInt 1) = 16 ∧ (8 : Int32) * (0 + Int32.ofInt 1 + Int32.ofInt 1 + Int32.ofInt 1) = 24 := by decide
                      rw [e.1, e.2.1, e.2.2.1, e.2.2.2, e5] at B4
                      simpa [le4, shr, chk] using B4)
                · exact absurd (by decide) hc75
      · exact absurd (by rw [B.1]; exact nI_le (a := l.length) (b := i) (by omega) (by omega)) hc9
    | succ n ih =>
      intro i c hi hcn
      refine vi_iload_n C dX12_layCheck_4 rfl rfl ?_
      refine vi_aload_n C dX12_layCheck_5 rfl rfl ?_
      refine vi_geti (i := 1245) C dX12_layCheck_6 rfl fX12_218 M.2.1 rfl rfl ?_
      refine vi_icmp_ge (t' := 67) C dX12_layCheck_9 rfl (by decide) (fun hc9 => ?_) (fun hc9 => ?_)
      · exact absurd hc9 (by rw [B.1]; exact nI_ge (a := i) (b := l.length) (by omega) (by omega))
      · refine vi_iload_n C dX12_layCheck_12 rfl rfl ?_
        refine vi_aload_n C dX12_layCheck_13 rfl rfl ?_
        refine vi_getr (i := 1244) C dX12_layCheck_14 rfl fX12_133 M.2.1 rfl rfl (M.2.2 44 38 21 2400 rfl).1 ?_
        refine vi_iload_n C dX12_layCheck_17 rfl rfl ?_
        refine vi_iaload C dX12_layCheck_18 rfl (M.2.2 44 38 21 2400 rfl).2.1 (by rw [(M.2.2 44 38 21 2400 rfl).2.2.1]; exact vp_in_nI (by omega) (by omega)) ?_
        refine vi_ixor C dX12_layCheck_19 rfl ?_
        rw [nI_clamp (show i < 2 ^ 31 by omega), B.2.2.1 i (by omega)]
        refine vi_istore_n C dX12_layCheck_20 rfl (by decide) ?_
        refine vi_iconst (v := 0) C dX12_layCheck_21 rfl (by decide) ?_
        refine vi_istore C dX12_layCheck_22 rfl (by decide) ?_
        refine vi_cut [(0, .ref m), (1, .int (nI f)), (2, .int (c ^^^ nI (l.getD i 0))), (3, .int (nI i)), (4, .int (nI 0))] ⟨rfl, rfl, rfl, rfl, rfl, trivial⟩ (inner i _ ?_ 8 0 _ rfl rfl)
        refine vi_iinc C dX12_layCheck_61 rfl rfl (by decide) ?_
        refine vi_goto (t' := 4) C dX12_layCheck_64 (by decide) ?_
        refine vi_cut [(0, .ref m), (1, .int (nI f)), (2, .int (crcN 8 (c ^^^ nI (l.getD i 0)))), (3, .int (nI (i + 1)))] ⟨rfl, rfl, rfl, by rw [← nI_1]; rfl, trivial⟩ (ih (i + 1) _ (by omega) ?_)
        rw [← hcn, show l.drop i = l.getD i 0 :: l.drop (i + 1) from by
          rw [List.drop_eq_getElem_cons (show i < l.length by omega)]
          simp [List.getD, List.getElem?_eq_getElem (show i < l.length by omega)]]
        rfl
  refine vi_iconst (v := -1) C dX12_layCheck_0 rfl (by decide) ?_
  refine vi_istore_n C dX12_layCheck_1 rfl (by decide) ?_
  refine vi_iload_n C dX12_layCheck_2 rfl rfl ?_
  refine vi_istore_n C dX12_layCheck_3 rfl (by decide) ?_
  exact vi_cut [(0, .ref m), (1, .int (nI f)), (2, .int (-1)), (3, .int (nI f))] ⟨rfl, rfl, rfl, rfl, trivial⟩ (loop (l.length - f) f (-1) (by omega) rfl)

set_option maxRecDepth 100000 in
set_option maxHeartbeats 4000000 in
/-- the reference: layHead -/
theorem m_X12_layHead {E : vE} {S : vS} {sz : Nat} {m b : Nat} {hf gn : Int32} (M : MO S sz m b) : vi_Met E yX12_layHead cX12_layHead 4 none 2 0 0 [.ref (m), .int (hf), .int (gn)] S sz (fun r S1 z1 => r = none ∧ z1 = sz ∧ LB S1 m b (headL gn hf) ∧ agL S sz S1 m b) := by
  refine vi_met (by decide) (Nat.le_of_ble_eq_true rfl) ?_
  intro X C
  refine vi_aload_n C dX12_layHead_0 rfl rfl ?_
  refine vi_iconst (v := 0) C dX12_layHead_1 rfl (by decide) ?_
  refine vi_puti (i := 1245) C dX12_layHead_2 rfl (fpX12_218 _) M.2.1 rfl rfl (by decide) rfl rfl ?_
  have B0 : LB (sI S 1245 (m) ((0 : Int32))) m b [] := ⟨qI_sI_s _ _ _ _, Nat.zero_le _, fun j hj => absurd hj (Nat.not_lt_zero _), fun c hc => by cases hc⟩
  have g0 : agL S sz (sI S 1245 (m) ((0 : Int32))) m b := ⟨ag.sI.mo (Nat.le_refl _) (fun c _ q => Or.inl q), fun i => qP_sI _ _ _ _ _ _, fun i hi => qI_sI_i _ _ _ _ _ _ hi⟩
  have M0 := M.frL g0
  generalize (sI S 1245 (m) ((0 : Int32))) = T0 at B0 g0 M0 ⊢
  refine vi_aload_n C dX12_layHead_5 rfl rfl ?_
  refine vi_bipush (v := 74) C dX12_layHead_6 rfl (by decide) ?_
  refine vi_callV (c := 12) C [.int ((74 : Int32))] [] dX12_layHead_8 rfl ivX12_221 imX12_lay rfl rfl M0.2.1 (m_X12_lay M0 B0 (by first | decide | omega | (simp; done) | (simp; omega))) rfl (Nat.le_of_ble_eq_true rfl) ⟨by decide, by decide⟩ ⟨by decide, by decide⟩ (fun r8 T1 z8 hq0 => ?_)
  obtain ⟨rfl, rfl, B1, g1⟩ := hq0
  have M1 := M0.frL g1
  refine vi_aload_n C dX12_layHead_11 rfl rfl ?_
  refine vi_bipush (v := 49) C dX12_layHead_12 rfl (by decide) ?_
  refine vi_callV (c := 12) C [.int ((49 : Int32))] [] dX12_layHead_14 rfl ivX12_221 imX12_lay rfl rfl M1.2.1 (m_X12_lay M1 B1 (by first | decide | omega | (simp; done) | (simp; omega))) rfl (Nat.le_of_ble_eq_true rfl) ⟨by decide, by decide⟩ ⟨by decide, by decide⟩ (fun r14 T2 z14 hq1 => ?_)
  obtain ⟨rfl, rfl, B2, g2⟩ := hq1
  have M2 := M1.frL g2
  refine vi_aload_n C dX12_layHead_17 rfl rfl ?_
  refine vi_iload_n C dX12_layHead_18 rfl rfl ?_
  refine vi_callV (c := 12) C [.int (hf)] [] dX12_layHead_19 rfl ivX12_221 imX12_lay rfl rfl M2.2.1 (m_X12_lay M2 B2 (by first | decide | omega | (simp; done) | (simp; omega))) rfl (Nat.le_of_ble_eq_true rfl) ⟨by decide, by decide⟩ ⟨by decide, by decide⟩ (fun r19 T3 z19 hq2 => ?_)
  obtain ⟨rfl, rfl, B3, g3⟩ := hq2
  have M3 := M2.frL g3
  refine vi_aload_n C dX12_layHead_22 rfl rfl ?_
  refine vi_iconst (v := 0) C dX12_layHead_23 rfl (by decide) ?_
  refine vi_callV (c := 12) C [.int ((0 : Int32))] [] dX12_layHead_24 rfl ivX12_221 imX12_lay rfl rfl M3.2.1 (m_X12_lay M3 B3 (by first | decide | omega | (simp; done) | (simp; omega))) rfl (Nat.le_of_ble_eq_true rfl) ⟨by decide, by decide⟩ ⟨by decide, by decide⟩ (fun r24 T4 z24 hq3 => ?_)
  obtain ⟨rfl, rfl, B4, g4⟩ := hq3
  have M4 := M3.frL g4
  refine vi_iconst (v := 0) C dX12_layHead_27 rfl (by decide) ?_
  refine vi_istore_n C dX12_layHead_28 rfl (by decide) ?_
  refine vi_iload_n C dX12_layHead_29 rfl rfl ?_
  refine vi_iconst (v := 4) C dX12_layHead_30 rfl (by decide) ?_
  refine vi_icmp_ge (t' := 50) C dX12_layHead_31 rfl (by decide) (fun hc31 => ?_) (fun hc31 => ?_)
  · exact absurd hc31 (by decide)
  · refine vi_aload_n C dX12_layHead_34 rfl rfl ?_
    refine vi_iload_n C dX12_layHead_35 rfl rfl ?_
    refine vi_bipush (v := 8) C dX12_layHead_36 rfl (by decide) ?_
    refine vi_iload_n C dX12_layHead_38 rfl rfl ?_
    refine vi_imul C dX12_layHead_39 rfl ?_
    refine vi_iushr C dX12_layHead_40 rfl ?_
    refine vi_callV (c := 12) C [.int (((gn).toUInt32 >>> ((((8 : Int32) * (0 : Int32))).toUInt32 &&& Int32.toUInt32 31)).toInt32)] [] dX12_layHead_41 rfl ivX12_221 imX12_lay rfl rfl M4.2.1 (m_X12_lay M4 B4 (by first | decide | omega | (simp; done) | (simp; omega))) rfl (Nat.le_of_ble_eq_true rfl) ⟨by decide, by decide⟩ ⟨by decide, by decide⟩ (fun r41 T5 z41 hq4 => ?_)
    obtain ⟨rfl, rfl, B5, g5⟩ := hq4
    have M5 := M4.frL g5
    refine vi_iinc C dX12_layHead_44 rfl rfl (by decide) ?_
    refine vi_goto (t' := 29) C dX12_layHead_47 (by decide) ?_
    refine vi_iload_n C dX12_layHead_29 rfl rfl ?_
    refine vi_iconst (v := 4) C dX12_layHead_30 rfl (by decide) ?_
    refine vi_icmp_ge (t' := 50) C dX12_layHead_31 rfl (by decide) (fun hc31 => ?_) (fun hc31 => ?_)
    · exact absurd hc31 (by decide)
    · refine vi_aload_n C dX12_layHead_34 rfl rfl ?_
      refine vi_iload_n C dX12_layHead_35 rfl rfl ?_
      refine vi_bipush (v := 8) C dX12_layHead_36 rfl (by decide) ?_
      refine vi_iload_n C dX12_layHead_38 rfl rfl ?_
      refine vi_imul C dX12_layHead_39 rfl ?_
      refine vi_iushr C dX12_layHead_40 rfl ?_
      refine vi_callV (c := 12) C [.int (((gn).toUInt32 >>> ((((8 : Int32) * ((0 : Int32) + Int32.ofInt (1)))).toUInt32 &&& Int32.toUInt32 31)).toInt32)] [] dX12_layHead_41 rfl ivX12_221 imX12_lay rfl rfl M5.2.1 (m_X12_lay M5 B5 (by first | decide | omega | (simp; done) | (simp; omega))) rfl (Nat.le_of_ble_eq_true rfl) ⟨by decide, by decide⟩ ⟨by decide, by decide⟩ (fun r41 T6 z41 hq5 => ?_)
      obtain ⟨rfl, rfl, B6, g6⟩ := hq5
      have M6 := M5.frL g6
      refine vi_iinc C dX12_layHead_44 rfl rfl (by decide) ?_
      refine vi_goto (t' := 29) C dX12_layHead_47 (by decide) ?_
      refine vi_iload_n C dX12_layHead_29 rfl rfl ?_
      refine vi_iconst (v := 4) C dX12_layHead_30 rfl (by decide) ?_
      refine vi_icmp_ge (t' := 50) C dX12_layHead_31 rfl (by decide) (fun hc31 => ?_) (fun hc31 => ?_)
      · exact absurd hc31 (by decide)
      · refine vi_aload_n C dX12_layHead_34 rfl rfl ?_
        refine vi_iload_n C dX12_layHead_35 rfl rfl ?_
        refine vi_bipush (v := 8) C dX12_layHead_36 rfl (by decide) ?_
        refine vi_iload_n C dX12_layHead_38 rfl rfl ?_
        refine vi_imul C dX12_layHead_39 rfl ?_
        refine vi_iushr C dX12_layHead_40 rfl ?_
        refine vi_callV (c := 12) C [.int (((gn).toUInt32 >>> ((((8 : Int32) * (((0 : Int32) + Int32.ofInt (1)) + Int32.ofInt (1)))).toUInt32 &&& Int32.toUInt32 31)).toInt32)] [] dX12_layHead_41 rfl ivX12_221 imX12_lay rfl rfl M6.2.1 (m_X12_lay M6 B6 (by first | decide | omega | (simp; done) | (simp; omega))) rfl (Nat.le_of_ble_eq_true rfl) ⟨by decide, by decide⟩ ⟨by decide, by decide⟩ (fun r41 T7 z41 hq6 => ?_)
        obtain ⟨rfl, rfl, B7, g7⟩ := hq6
        have M7 := M6.frL g7
        refine vi_iinc C dX12_layHead_44 rfl rfl (by decide) ?_
        refine vi_goto (t' := 29) C dX12_layHead_47 (by decide) ?_
        refine vi_iload_n C dX12_layHead_29 rfl rfl ?_
        refine vi_iconst (v := 4) C dX12_layHead_30 rfl (by decide) ?_
        refine vi_icmp_ge (t' := 50) C dX12_layHead_31 rfl (by decide) (fun hc31 => ?_) (fun hc31 => ?_)
        · exact absurd hc31 (by decide)
        · refine vi_aload_n C dX12_layHead_34 rfl rfl ?_
          refine vi_iload_n C dX12_layHead_35 rfl rfl ?_
          refine vi_bipush (v := 8) C dX12_layHead_36 rfl (by decide) ?_
          refine vi_iload_n C dX12_layHead_38 rfl rfl ?_
          refine vi_imul C dX12_layHead_39 rfl ?_
          refine vi_iushr C dX12_layHead_40 rfl ?_
          refine vi_callV (c := 12) C [.int (((gn).toUInt32 >>> ((((8 : Int32) * ((((0 : Int32) + Int32.ofInt (1)) + Int32.ofInt (1)) + Int32.ofInt (1)))).toUInt32 &&& Int32.toUInt32 31)).toInt32)] [] dX12_layHead_41 rfl ivX12_221 imX12_lay rfl rfl M7.2.1 (m_X12_lay M7 B7 (by first | decide | omega | (simp; done) | (simp; omega))) rfl (Nat.le_of_ble_eq_true rfl) ⟨by decide, by decide⟩ ⟨by decide, by decide⟩ (fun r41 T8 z41 hq7 => ?_)
          obtain ⟨rfl, rfl, B8, g8⟩ := hq7
          have M8 := M7.frL g8
          refine vi_iinc C dX12_layHead_44 rfl rfl (by decide) ?_
          refine vi_goto (t' := 29) C dX12_layHead_47 (by decide) ?_
          refine vi_iload_n C dX12_layHead_29 rfl rfl ?_
          refine vi_iconst (v := 4) C dX12_layHead_30 rfl (by decide) ?_
          refine vi_icmp_ge (t' := 50) C dX12_layHead_31 rfl (by decide) (fun hc31 => ?_) (fun hc31 => ?_)
          · refine vi_aload_n C dX12_layHead_50 rfl rfl ?_
            refine vi_iconst (v := 0) C dX12_layHead_51 rfl (by decide) ?_
            refine vi_callV (c := 12) C [.int ((0 : Int32))] [] dX12_layHead_52 rfl ivX12_235 imX12_layCheck rfl rfl M8.2.1 (m_X12_layCheck (f := 0) M8 B8 (Nat.zero_le _) (by first | decide | omega | (simp; done) | (simp; omega))) rfl (Nat.le_of_ble_eq_true rfl) ⟨by decide, by decide⟩ ⟨by decide, by decide⟩ (fun r52 T9 z52 hq8 => ?_)
            obtain ⟨rfl, rfl, B9, g9⟩ := hq8
            have M9 := M8.frL g9
            exact vi_return C dX12_layHead_55 rfl (by decide) (by decide) (by
                refine ⟨rfl, rfl, ?_, (((((((((g0.tr g1).tr g2).tr g3).tr g4).tr g5).tr g6).tr g7).tr g8).tr g9)⟩
                have e : (8 : Int32) * 0 = 0 ∧ (8 : Int32) * (0 + Int32.ofInt 1) = 8 ∧ (8 : Int32) * (0 + Int32.ofInt 1 + Int32.ofInt 1) = 16 ∧ (8 : Int32) * (0 + Int32.ofInt 1 + Int32.ofInt 1 + Int32.ofInt 1) = 24 := by decide
                have e7 : by8 74 = 74 ∧ by8 49 = 49 ∧ by8 0 = 0 := by decide
                rw [e.1, e.2.1, e.2.2.1, e.2.2.2, e7.1, e7.2.1, e7.2.2] at B9
                exact B9)
          · exact absurd (by decide) hc31

