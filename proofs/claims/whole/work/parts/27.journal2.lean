/-- the bytes of a HEAD -/
def head8 (gn hf : Int32) : List Nat := [74, 49, by8 hf, 0] ++ le4 gn
def headL (gn hf : Int32) : List Nat := head8 gn hf ++ le4 (chk (head8 gn hf))
theorem headL_len (gn hf : Int32) : (headL gn hf).length = 12 := rfl
/-- the numbers of a Journal -/
def JV (S : vS) (h : Nat) (ir iu bw cd rc us gn hf : Int32) : Prop := vI S 202 h = ir ∧ vI S 203 h = iu ∧ vI S 204 h = bw ∧ vI S 205 h = cd ∧ vI S 206 h = rc ∧ vI S 207 h = us ∧ vI S 208 h = gn ∧ vI S 209 h = hf
theorem JV.fr {S S1 : vS} {sz h : Nat} {A : Nat → Prop} {ir iu bw cd rc us gn hf : Int32} (V : JV S h ir iu bw cd rc us gn hf) (e : ag S sz S1 A) (hh : h < sz) (hq : ¬ A h) : JV S1 h ir iu bw cd rc us gn hf := by
  obtain ⟨b4, -⟩ := (e h hh).2.2 hq
  obtain ⟨a1, a2, a3, a4, a5, a6, a7, a8⟩ := V
  exact ⟨(b4 _).trans a1, (b4 _).trans a2, (b4 _).trans a3, (b4 _).trans a4, (b4 _).trans a5, (b4 _).trans a6, (b4 _).trans a7, (b4 _).trans a8⟩

set_option maxRecDepth 100000 in
set_option maxHeartbeats 4000000 in
/-- Journal.makeHead -/
theorem m_X2_makeHead {E : vE} {S : vS} {sz : Nat} {h q g w N x : Nat} {l : List Nat} {gn hf : Int32} (J : JO S sz h q g) (B : BY S sz g w N l x) (hN : 12 ≤ N) (hn : ¬ (h = g ∨ h = w)) : vi_Met E yX2_makeHead cX2_makeHead 4 none 2 0 0 [.ref (h), .int (gn), .int (hf)] S sz (fun r S1 z1 => r = none ∧ z1 = sz ∧ BY S1 sz g w N (headL gn hf) 0 ∧ ag S sz S1 (fun b => b = g ∨ b = w)) := by
  refine vi_met (by decide) (Nat.le_of_ble_eq_true rfl) ?_
  intro X C
  refine vi_aload_n C dX2_makeHead_0 rfl rfl ?_
  refine vi_getr (i := 201) C dX2_makeHead_1 rfl fX2_22 J.2.1 rfl rfl J.2.2.2 ?_
  refine vi_callV (c := 0) C [] [] dX2_makeHead_4 rfl ivX2_45 imX0_clear rfl rfl B.1.2.2.1 (m_X0_clear B) rfl (Nat.le_of_ble_eq_true rfl) ⟨by decide, by decide⟩ ⟨by decide, by decide⟩ (fun r4 T1 z4 hq0 => ?_)
  obtain ⟨rfl, rfl, B1, g1⟩ := hq0
  have J1 := J.fr g1 (Nat.le_refl _) hn
  refine vi_aload_n C dX2_makeHead_7 rfl rfl ?_
  refine vi_getr (i := 201) C dX2_makeHead_8 rfl fX2_22 J1.2.1 rfl rfl J1.2.2.2 ?_
  refine vi_bipush (v := 74) C dX2_makeHead_11 rfl (by decide) ?_
  refine vi_callV (c := 0) C [.int ((74 : Int32))] [] dX2_makeHead_13 rfl ivX2_56 imX0_put rfl rfl B1.1.2.2.1 (m_X0_put B1 (by simp; omega)) rfl (Nat.le_of_ble_eq_true rfl) ⟨by decide, by decide⟩ ⟨by decide, by decide⟩ (fun r13 T2 z13 hq1 => ?_)
  obtain ⟨rfl, rfl, B2, g2⟩ := hq1
  have J2 := J1.fr g2 (Nat.le_refl _) hn
  refine vi_aload_n C dX2_makeHead_16 rfl rfl ?_
  refine vi_getr (i := 201) C dX2_makeHead_17 rfl fX2_22 J2.2.1 rfl rfl J2.2.2.2 ?_
  refine vi_bipush (v := 49) C dX2_makeHead_20 rfl (by decide) ?_
  refine vi_callV (c := 0) C [.int ((49 : Int32))] [] dX2_makeHead_22 rfl ivX2_56 imX0_put rfl rfl B2.1.2.2.1 (m_X0_put B2 (by simp; omega)) rfl (Nat.le_of_ble_eq_true rfl) ⟨by decide, by decide⟩ ⟨by decide, by decide⟩ (fun r22 T3 z22 hq2 => ?_)
  obtain ⟨rfl, rfl, B3, g3⟩ := hq2
  have J3 := J2.fr g3 (Nat.le_refl _) hn
  refine vi_aload_n C dX2_makeHead_25 rfl rfl ?_
  refine vi_getr (i := 201) C dX2_makeHead_26 rfl fX2_22 J3.2.1 rfl rfl J3.2.2.2 ?_
  refine vi_iload_n C dX2_makeHead_29 rfl rfl ?_
  refine vi_callV (c := 0) C [.int (hf)] [] dX2_makeHead_30 rfl ivX2_56 imX0_put rfl rfl B3.1.2.2.1 (m_X0_put B3 (by simp; omega)) rfl (Nat.le_of_ble_eq_true rfl) ⟨by decide, by decide⟩ ⟨by decide, by decide⟩ (fun r30 T4 z30 hq3 => ?_)
  obtain ⟨rfl, rfl, B4, g4⟩ := hq3
  have J4 := J3.fr g4 (Nat.le_refl _) hn
  refine vi_aload_n C dX2_makeHead_33 rfl rfl ?_
  refine vi_getr (i := 201) C dX2_makeHead_34 rfl fX2_22 J4.2.1 rfl rfl J4.2.2.2 ?_
  refine vi_iconst (v := 0) C dX2_makeHead_37 rfl (by decide) ?_
  refine vi_callV (c := 0) C [.int ((0 : Int32))] [] dX2_makeHead_38 rfl ivX2_56 imX0_put rfl rfl B4.1.2.2.1 (m_X0_put B4 (by simp; omega)) rfl (Nat.le_of_ble_eq_true rfl) ⟨by decide, by decide⟩ ⟨by decide, by decide⟩ (fun r38 T5 z38 hq4 => ?_)
  obtain ⟨rfl, rfl, B5, g5⟩ := hq4
  have J5 := J4.fr g5 (Nat.le_refl _) hn
  refine vi_iconst (v := 0) C dX2_makeHead_41 rfl (by decide) ?_
  refine vi_istore_n C dX2_makeHead_42 rfl (by decide) ?_
  refine vi_iload_n C dX2_makeHead_43 rfl rfl ?_
  refine vi_bipush (v := 32) C dX2_makeHead_44 rfl (by decide) ?_
  refine vi_icmp_ge (t' := 65) C dX2_makeHead_46 rfl (by decide) (fun hc46 => ?_) (fun hc46 => ?_)
  · exact absurd hc46 (by decide)
  · refine vi_aload_n C dX2_makeHead_49 rfl rfl ?_
    refine vi_getr (i := 201) C dX2_makeHead_50 rfl fX2_22 J5.2.1 rfl rfl J5.2.2.2 ?_
    refine vi_iload_n C dX2_makeHead_53 rfl rfl ?_
    refine vi_iload_n C dX2_makeHead_54 rfl rfl ?_
    refine vi_iushr C dX2_makeHead_55 rfl ?_
    refine vi_callV (c := 0) C [.int (((gn).toUInt32 >>> (((0 : Int32)).toUInt32 &&& Int32.toUInt32 31)).toInt32)] [] dX2_makeHead_56 rfl ivX2_56 imX0_put rfl rfl B5.1.2.2.1 (m_X0_put B5 (by simp; omega)) rfl (Nat.le_of_ble_eq_true rfl) ⟨by decide, by decide⟩ ⟨by decide, by decide⟩ (fun r56 T6 z56 hq5 => ?_)
    obtain ⟨rfl, rfl, B6, g6⟩ := hq5
    have J6 := J5.fr g6 (Nat.le_refl _) hn
    refine vi_iinc C dX2_makeHead_59 rfl rfl (by decide) ?_
    refine vi_goto (t' := 43) C dX2_makeHead_62 (by decide) ?_
    refine vi_iload_n C dX2_makeHead_43 rfl rfl ?_
    refine vi_bipush (v := 32) C dX2_makeHead_44 rfl (by decide) ?_
    refine vi_icmp_ge (t' := 65) C dX2_makeHead_46 rfl (by decide) (fun hc46 => ?_) (fun hc46 => ?_)
    · exact absurd hc46 (by decide)
    · refine vi_aload_n C dX2_makeHead_49 rfl rfl ?_
      refine vi_getr (i := 201) C dX2_makeHead_50 rfl fX2_22 J6.2.1 rfl rfl J6.2.2.2 ?_
      refine vi_iload_n C dX2_makeHead_53 rfl rfl ?_
      refine vi_iload_n C dX2_makeHead_54 rfl rfl ?_
      refine vi_iushr C dX2_makeHead_55 rfl ?_
      refine vi_callV (c := 0) C [.int (((gn).toUInt32 >>> ((((0 : Int32) + Int32.ofInt (8))).toUInt32 &&& Int32.toUInt32 31)).toInt32)] [] dX2_makeHead_56 rfl ivX2_56 imX0_put rfl rfl B6.1.2.2.1 (m_X0_put B6 (by simp; omega)) rfl (Nat.le_of_ble_eq_true rfl) ⟨by decide, by decide⟩ ⟨by decide, by decide⟩ (fun r56 T7 z56 hq6 => ?_)
      obtain ⟨rfl, rfl, B7, g7⟩ := hq6
      have J7 := J6.fr g7 (Nat.le_refl _) hn
      refine vi_iinc C dX2_makeHead_59 rfl rfl (by decide) ?_
      refine vi_goto (t' := 43) C dX2_makeHead_62 (by decide) ?_
      refine vi_iload_n C dX2_makeHead_43 rfl rfl ?_
      refine vi_bipush (v := 32) C dX2_makeHead_44 rfl (by decide) ?_
      refine vi_icmp_ge (t' := 65) C dX2_makeHead_46 rfl (by decide) (fun hc46 => ?_) (fun hc46 => ?_)
      · exact absurd hc46 (by decide)
      · refine vi_aload_n C dX2_makeHead_49 rfl rfl ?_
        refine vi_getr (i := 201) C dX2_makeHead_50 rfl fX2_22 J7.2.1 rfl rfl J7.2.2.2 ?_
        refine vi_iload_n C dX2_makeHead_53 rfl rfl ?_
        refine vi_iload_n C dX2_makeHead_54 rfl rfl ?_
        refine vi_iushr C dX2_makeHead_55 rfl ?_
        refine vi_callV (c := 0) C [.int (((gn).toUInt32 >>> (((((0 : Int32) + Int32.ofInt (8)) + Int32.ofInt (8))).toUInt32 &&& Int32.toUInt32 31)).toInt32)] [] dX2_makeHead_56 rfl ivX2_56 imX0_put rfl rfl B7.1.2.2.1 (m_X0_put B7 (by simp; omega)) rfl (Nat.le_of_ble_eq_true rfl) ⟨by decide, by decide⟩ ⟨by decide, by decide⟩ (fun r56 T8 z56 hq7 => ?_)
        obtain ⟨rfl, rfl, B8, g8⟩ := hq7
        have J8 := J7.fr g8 (Nat.le_refl _) hn
        refine vi_iinc C dX2_makeHead_59 rfl rfl (by decide) ?_
        refine vi_goto (t' := 43) C dX2_makeHead_62 (by decide) ?_
        refine vi_iload_n C dX2_makeHead_43 rfl rfl ?_
        refine vi_bipush (v := 32) C dX2_makeHead_44 rfl (by decide) ?_
        refine vi_icmp_ge (t' := 65) C dX2_makeHead_46 rfl (by decide) (fun hc46 => ?_) (fun hc46 => ?_)
        · exact absurd hc46 (by decide)
        · refine vi_aload_n C dX2_makeHead_49 rfl rfl ?_
          refine vi_getr (i := 201) C dX2_makeHead_50 rfl fX2_22 J8.2.1 rfl rfl J8.2.2.2 ?_
          refine vi_iload_n C dX2_makeHead_53 rfl rfl ?_
          refine vi_iload_n C dX2_makeHead_54 rfl rfl ?_
          refine vi_iushr C dX2_makeHead_55 rfl ?_
          refine vi_callV (c := 0) C [.int (((gn).toUInt32 >>> ((((((0 : Int32) + Int32.ofInt (8)) + Int32.ofInt (8)) + Int32.ofInt (8))).toUInt32 &&& Int32.toUInt32 31)).toInt32)] [] dX2_makeHead_56 rfl ivX2_56 imX0_put rfl rfl B8.1.2.2.1 (m_X0_put B8 (by simp; omega)) rfl (Nat.le_of_ble_eq_true rfl) ⟨by decide, by decide⟩ ⟨by decide, by decide⟩ (fun r56 T9 z56 hq8 => ?_)
          obtain ⟨rfl, rfl, B9, g9⟩ := hq8
          have J9 := J8.fr g9 (Nat.le_refl _) hn
          refine vi_iinc C dX2_makeHead_59 rfl rfl (by decide) ?_
          refine vi_goto (t' := 43) C dX2_makeHead_62 (by decide) ?_
          refine vi_iload_n C dX2_makeHead_43 rfl rfl ?_
          refine vi_bipush (v := 32) C dX2_makeHead_44 rfl (by decide) ?_
          refine vi_icmp_ge (t' := 65) C dX2_makeHead_46 rfl (by decide) (fun hc46 => ?_) (fun hc46 => ?_)
          · refine vi_aload_n C dX2_makeHead_65 rfl rfl ?_
            refine vi_getr (i := 201) C dX2_makeHead_66 rfl fX2_22 J9.2.1 rfl rfl J9.2.2.2 ?_
            refine vi_iconst (v := 0) C dX2_makeHead_69 rfl (by decide) ?_
            refine vi_callV (c := 0) C [.int ((0 : Int32))] [] dX2_makeHead_70 rfl ivX2_68 imX0_putCheck rfl rfl B9.1.2.2.1 (m_X0_putCheck (f := 0) B9 (Nat.zero_le _) (by simp; omega)) rfl (Nat.le_of_ble_eq_true rfl) ⟨by decide, by decide⟩ ⟨by decide, by decide⟩ (fun r70 T10 z70 hq9 => ?_)
            obtain ⟨rfl, rfl, B10, g10⟩ := hq9
            have J10 := J9.fr g10 (Nat.le_refl _) hn
            exact vi_return C dX2_makeHead_73 rfl (by decide) (by decide) (by
                refine ⟨rfl, rfl, ?_, (((((((((g1.tr g2 (Nat.le_refl _)).tr g3 (Nat.le_refl _)).tr g4 (Nat.le_refl _)).tr g5 (Nat.le_refl _)).tr g6 (Nat.le_refl _)).tr g7 (Nat.le_refl _)).tr g8 (Nat.le_refl _)).tr g9 (Nat.le_refl _)).tr g10 (Nat.le_refl _)).mo (Nat.le_refl _) (by intro b _ q; simpa using q)⟩
                have e : (0 : Int32) + Int32.ofInt 8 = 8 ∧ (8 : Int32) + Int32.ofInt 8 = 16 ∧ (16 : Int32) + Int32.ofInt 8 = 24 := by decide
                have e7 : by8 74 = 74 ∧ by8 49 = 49 ∧ by8 0 = 0 := by decide
                rw [e.1, e.2.1, e.2.2, e7.1, e7.2.1, e7.2.2] at B10
                exact B10)
          · exact absurd (by decide) hc46

set_option maxRecDepth 100000 in
set_option maxHeartbeats 4000000 in
/-- new Journal -/
theorem m_X2_init {E : vE} {S : vS} {sz : Nat} {h g w N x : Nat} {l : List Nat} (hk : vK S h = 3) (hh : h < sz) (hz : ∀ i, vI S i h = 0) (B : BY S sz g w N l x) (hN : 12 ≤ N) (hn : ¬ (h = g ∨ h = w)) : vi_Met E yX2_init cX2_init 2 none 3 1 4096 [.ref (h), .ref (g)] S sz (fun r S1 z1 => r = none ∧ z1 = sz + 1 ∧ JO S1 (sz + 1) h sz g ∧ JD S1 (sz + 1) sz (plD (fun _ => 0) (headL 1 0) 512 1024 512) ∧ BY S1 (sz + 1) g w N (headL 1 0) 0 ∧ JV S1 h 0 0 0 (-1) 0 0 1 0 ∧ ag S sz S1 (fun b => b = h ∨ b = g ∨ b = w)) := by
  refine vi_met (by decide) (Nat.le_of_ble_eq_true rfl) ?_
  intro X C
  refine vi_aload_n C dX2_init_0 rfl rfl ?_
  refine vi_objInit C dX2_init_1 rfl oiX2_3 oi_i oi_c (by decide) (Nat.le_of_ble_eq_true rfl) ?_
  refine vi_aload_n C dX2_init_4 rfl rfl ?_
  refine vi_sipush (v := 4096) C dX2_init_5 rfl (by decide) ?_
  refine vi_newarray (κ := 22) (N := 4096) C dX2_init_8 rfl ac_long rfl (by decide) (by decide) (by decide) rfl (by decide) (by decide) (by decide) ?_
  refine vi_putp (i := 200) (o := some (sz)) C dX2_init_10 rfl fpX2_9 (by first | assumption | (simp (disch := omega) only [qK_sI, qK_sP, qK_sR, qK_sJ, qK_sQ, qK_nO_s, qK_nO_a, qK_nA_s, qK_nA_a, qN_sI, qN_sP, qN_sR, qN_sJ, qN_sQ, qN_nO, qN_nA_s, qN_nA_a, qI_sI_s, qI_sI_i, qI_sI_a, qI_sP, qI_sR, qI_sJ, qI_sQ, qI_nO_s, qI_nO_a, qI_nA, qP_sI, qP_sP_s, qP_sP_i, qP_sP_a, qP_sR, qP_sJ, qP_sQ, qP_nO_s, qP_nO_a, qP_nA, qR_sI, qR_sP, qR_sR_s, qR_sR_i, qR_sR_a, qR_sJ, qR_sQ, qR_nO, qR_nA_s, qR_nA_a, qJ_sI, qJ_sP, qJ_sR, qJ_sJ_s, qJ_sJ_i, qJ_sJ_a, qJ_sQ, qJ_nO, qJ_nA_s, qJ_nA_a, qQ_sI, qQ_sP, qQ_sR, qQ_sJ, qQ_sQ_s, qQ_sQ_i, qQ_sQ_a, qQ_nO, qQ_nA_s, qQ_nA_a] <;> first | assumption | rfl | omega)) rfl rfl (by decide) ?_
  refine vi_aload_n C dX2_init_13 rfl rfl ?_
  refine vi_iconst (v := -1) C dX2_init_14 rfl (by decide) ?_
  refine vi_puti (i := 205) C dX2_init_15 rfl (fpX2_15 _) (by first | assumption | (simp (disch := omega) only [qK_sI, qK_sP, qK_sR, qK_sJ, qK_sQ, qK_nO_s, qK_nO_a, qK_nA_s, qK_nA_a, qN_sI, qN_sP, qN_sR, qN_sJ, qN_sQ, qN_nO, qN_nA_s, qN_nA_a, qI_sI_s, qI_sI_i, qI_sI_a, qI_sP, qI_sR, qI_sJ, qI_sQ, qI_nO_s, qI_nO_a, qI_nA, qP_sI, qP_sP_s, qP_sP_i, qP_sP_a, qP_sR, qP_sJ, qP_sQ, qP_nO_s, qP_nO_a, qP_nA, qR_sI, qR_sP, qR_sR_s, qR_sR_i, qR_sR_a, qR_sJ, qR_sQ, qR_nO, qR_nA_s, qR_nA_a, qJ_sI, qJ_sP, qJ_sR, qJ_sJ_s, qJ_sJ_i, qJ_sJ_a, qJ_sQ, qJ_nO, qJ_nA_s, qJ_nA_a, qQ_sI, qQ_sP, qQ_sR, qQ_sJ, qQ_sQ_s, qQ_sQ_i, qQ_sQ_a, qQ_nO, qQ_nA_s, qQ_nA_a] <;> first | assumption | rfl | omega)) rfl rfl (by decide) rfl rfl ?_
  refine vi_aload_n C dX2_init_18 rfl rfl ?_
  refine vi_iconst (v := 1) C dX2_init_19 rfl (by decide) ?_
  refine vi_puti (i := 208) C dX2_init_20 rfl (fpX2_19 _) (by first | assumption | (simp (disch := omega) only [qK_sI, qK_sP, qK_sR, qK_sJ, qK_sQ, qK_nO_s, qK_nO_a, qK_nA_s, qK_nA_a, qN_sI, qN_sP, qN_sR, qN_sJ, qN_sQ, qN_nO, qN_nA_s, qN_nA_a, qI_sI_s, qI_sI_i, qI_sI_a, qI_sP, qI_sR, qI_sJ, qI_sQ, qI_nO_s, qI_nO_a, qI_nA, qP_sI, qP_sP_s, qP_sP_i, qP_sP_a, qP_sR, qP_sJ, qP_sQ, qP_nO_s, qP_nO_a, qP_nA, qR_sI, qR_sP, qR_sR_s, qR_sR_i, qR_sR_a, qR_sJ, qR_sQ, qR_nO, qR_nA_s, qR_nA_a, qJ_sI, qJ_sP, qJ_sR, qJ_sJ_s, qJ_sJ_i, qJ_sJ_a, qJ_sQ, qJ_nO, qJ_nA_s, qJ_nA_a, qQ_sI, qQ_sP, qQ_sR, qQ_sJ, qQ_sQ_s, qQ_sQ_i, qQ_sQ_a, qQ_nO, qQ_nA_s, qQ_nA_a] <;> first | assumption | rfl | omega)) rfl rfl (by decide) rfl rfl ?_
  refine vi_aload_n C dX2_init_23 rfl rfl ?_
  refine vi_aload_n C dX2_init_24 rfl rfl ?_
  refine vi_putp (i := 201) (o := some (g)) C dX2_init_25 rfl fpX2_22 (by first | assumption | (simp (disch := omega) only [qK_sI, qK_sP, qK_sR, qK_sJ, qK_sQ, qK_nO_s, qK_nO_a, qK_nA_s, qK_nA_a, qN_sI, qN_sP, qN_sR, qN_sJ, qN_sQ, qN_nO, qN_nA_s, qN_nA_a, qI_sI_s, qI_sI_i, qI_sI_a, qI_sP, qI_sR, qI_sJ, qI_sQ, qI_nO_s, qI_nO_a, qI_nA, qP_sI, qP_sP_s, qP_sP_i, qP_sP_a, qP_sR, qP_sJ, qP_sQ, qP_nO_s, qP_nO_a, qP_nA, qR_sI, qR_sP, qR_sR_s, qR_sR_i, qR_sR_a, qR_sJ, qR_sQ, qR_nO, qR_nA_s, qR_nA_a, qJ_sI, qJ_sP, qJ_sR, qJ_sJ_s, qJ_sJ_i, qJ_sJ_a, qJ_sQ, qJ_nO, qJ_nA_s, qJ_nA_a, qQ_sI, qQ_sP, qQ_sR, qQ_sJ, qQ_sQ_s, qQ_sQ_i, qQ_sQ_a, qQ_nO, qQ_nA_s, qQ_nA_a] <;> first | assumption | rfl | omega)) rfl rfl (by decide) ?_
  have e0 : ag S sz (sP (sI (sI (sP (nA S sz 22 4096) 200 (h) (some (sz))) 205 (h) ((-1 : Int32))) 208 (h) ((1 : Int32))) 201 (h) (some (g))) (fun b => b = h) := (((((ag.nA (A := fun _ => False)).tr (ag.sP (sz := sz)) (Nat.le_refl _)).tr (ag.sI (sz := sz)) (Nat.le_refl _)).tr (ag.sI (sz := sz)) (Nat.le_refl _)).tr (ag.sP (sz := sz)) (Nat.le_refl _)).mo (Nat.le_refl _) (by intro b _ q; simpa using q)
  have J0 : JO (sP (sI (sI (sP (nA S sz 22 4096) 200 (h) (some (sz))) 205 (h) ((-1 : Int32))) 208 (h) ((1 : Int32))) 201 (h) (some (g))) (sz + 1) h sz g := by
    refine ⟨by omega, ?_, ?_, ?_⟩ <;> simp (disch := omega) only [qK_sI, qK_sP, qK_sR, qK_sJ, qK_sQ, qK_nO_s, qK_nO_a, qK_nA_s, qK_nA_a, qN_sI, qN_sP, qN_sR, qN_sJ, qN_sQ, qN_nO, qN_nA_s, qN_nA_a, qI_sI_s, qI_sI_i, qI_sI_a, qI_sP, qI_sR, qI_sJ, qI_sQ, qI_nO_s, qI_nO_a, qI_nA, qP_sI, qP_sP_s, qP_sP_i, qP_sP_a, qP_sR, qP_sJ, qP_sQ, qP_nO_s, qP_nO_a, qP_nA, qR_sI, qR_sP, qR_sR_s, qR_sR_i, qR_sR_a, qR_sJ, qR_sQ, qR_nO, qR_nA_s, qR_nA_a, qJ_sI, qJ_sP, qJ_sR, qJ_sJ_s, qJ_sJ_i, qJ_sJ_a, qJ_sQ, qJ_nO, qJ_nA_s, qJ_nA_a, qQ_sI, qQ_sP, qQ_sR, qQ_sJ, qQ_sQ_s, qQ_sQ_i, qQ_sQ_a, qQ_nO, qQ_nA_s, qQ_nA_a]
    assumption
  have D0 : JD (sP (sI (sI (sP (nA S sz 22 4096) 200 (h) (some (sz))) 205 (h) ((-1 : Int32))) 208 (h) ((1 : Int32))) 201 (h) (some (g))) (sz + 1) sz (fun _ => 0) := by
    refine ⟨by omega, ?_, ?_, fun a ha => ?_⟩ <;> simp (disch := omega) only [qK_sI, qK_sP, qK_sR, qK_sJ, qK_sQ, qK_nO_s, qK_nO_a, qK_nA_s, qK_nA_a, qN_sI, qN_sP, qN_sR, qN_sJ, qN_sQ, qN_nO, qN_nA_s, qN_nA_a, qI_sI_s, qI_sI_i, qI_sI_a, qI_sP, qI_sR, qI_sJ, qI_sQ, qI_nO_s, qI_nO_a, qI_nA, qP_sI, qP_sP_s, qP_sP_i, qP_sP_a, qP_sR, qP_sJ, qP_sQ, qP_nO_s, qP_nO_a, qP_nA, qR_sI, qR_sP, qR_sR_s, qR_sR_i, qR_sR_a, qR_sJ, qR_sQ, qR_nO, qR_nA_s, qR_nA_a, qJ_sI, qJ_sP, qJ_sR, qJ_sJ_s, qJ_sJ_i, qJ_sJ_a, qJ_sQ, qJ_nO, qJ_nA_s, qJ_nA_a, qQ_sI, qQ_sP, qQ_sR, qQ_sJ, qQ_sQ_s, qQ_sQ_i, qQ_sQ_a, qQ_nO, qQ_nA_s, qQ_nA_a]
    simp [jb]
  have B0 : BY (sP (sI (sI (sP (nA S sz 22 4096) 200 (h) (some (sz))) 205 (h) ((-1 : Int32))) 208 (h) ((1 : Int32))) 201 (h) (some (g))) (sz + 1) g w N l x := B.fr e0 (by omega) (fun e => hn (Or.inl e.symm)) (fun e => hn (Or.inr e.symm))
  have V0 : JV (sP (sI (sI (sP (nA S sz 22 4096) 200 (h) (some (sz))) 205 (h) ((-1 : Int32))) 208 (h) ((1 : Int32))) 201 (h) (some (g))) h 0 0 0 (-1) 0 0 1 0 := by
    refine ⟨?_, ?_, ?_, ?_, ?_, ?_, ?_, ?_⟩ <;> simp (disch := omega) only [qK_sI, qK_sP, qK_sR, qK_sJ, qK_sQ, qK_nO_s, qK_nO_a, qK_nA_s, qK_nA_a, qN_sI, qN_sP, qN_sR, qN_sJ, qN_sQ, qN_nO, qN_nA_s, qN_nA_a, qI_sI_s, qI_sI_i, qI_sI_a, qI_sP, qI_sR, qI_sJ, qI_sQ, qI_nO_s, qI_nO_a, qI_nA, qP_sI, qP_sP_s, qP_sP_i, qP_sP_a, qP_sR, qP_sJ, qP_sQ, qP_nO_s, qP_nO_a, qP_nA, qR_sI, qR_sP, qR_sR_s, qR_sR_i, qR_sR_a, qR_sJ, qR_sQ, qR_nO, qR_nA_s, qR_nA_a, qJ_sI, qJ_sP, qJ_sR, qJ_sJ_s, qJ_sJ_i, qJ_sJ_a, qJ_sQ, qJ_nO, qJ_nA_s, qJ_nA_a, qQ_sI, qQ_sP, qQ_sR, qQ_sJ, qQ_sQ_s, qQ_sQ_i, qQ_sQ_a, qQ_nO, qQ_nA_s, qQ_nA_a] <;> exact hz _
  generalize (sP (sI (sI (sP (nA S sz 22 4096) 200 (h) (some (sz))) 205 (h) ((-1 : Int32))) 208 (h) ((1 : Int32))) 201 (h) (some (g))) = T at e0 J0 D0 B0 V0 ⊢
  refine vi_aload_n C dX2_init_28 rfl rfl ?_
  refine vi_iconst (v := 1) C dX2_init_29 rfl (by decide) ?_
  refine vi_iconst (v := 0) C dX2_init_30 rfl (by decide) ?_
  refine vi_callV (c := 2) C [.int ((1 : Int32)), .int ((0 : Int32))] [] dX2_init_31 rfl ivX2_26 imX2_makeHead rfl rfl J0.2.1 (m_X2_makeHead (gn := 1) (hf := 0) J0 B0 hN hn) rfl (Nat.le_of_ble_eq_true rfl) ⟨by decide, by decide⟩ ⟨by decide, by decide⟩ (fun r31 S31 z31 hq31 => ?_)
  obtain ⟨rfl, rfl, B1, g1⟩ := hq31
  have J1 := J0.fr g1 (Nat.le_refl _) hn
  have D1 := D0.fr g1 (Nat.le_refl _) (fun q => q.elim (fun e => by have := B.1.1; omega) (fun e => by have := B.1.2.1; omega))
  have V1 := V0.fr g1 (by omega) hn
  refine vi_aload_n C dX2_init_34 rfl rfl ?_
  refine vi_iconst (v := 1) C dX2_init_35 rfl (by decide) ?_
  refine vi_sipush (v := 512) C dX2_init_36 rfl (by decide) ?_
  refine vi_callV (c := 2) C [.int ((1 : Int32)), .int ((512 : Int32))] [] dX2_init_39 rfl ivX2_30 imX2_place rfl rfl J1.2.1 (m_X2_place (bk := 1) (s0 := 512) J1 D1 B1 (by decide) (by decide) (by decide)) rfl (Nat.le_of_ble_eq_true rfl) ⟨by decide, by decide⟩ ⟨by decide, by decide⟩ (fun r39 S39 z39 hq39 => ?_)
  obtain ⟨rfl, rfl, D2, g2⟩ := hq39
  have hqs : h ≠ sz := by omega
  have hg1 : g ≠ sz := by have := B.1.1; omega
  have hw1 : w ≠ sz := by have := B.1.2.1; omega
  have J2 := J1.fr g2 (Nat.le_refl _) hqs
  have V2 := V1.fr g2 (by omega) hqs
  have B2 := B1.fr g2 (Nat.le_refl _) hg1 hw1
  exact vi_return C dX2_init_42 rfl (by decide) (by decide) (by
      refine ⟨rfl, rfl, J2, D2, B2, V2, ?_⟩
      refine ((e0.tr g1 (by omega)).tr g2 (by omega)).mo (Nat.le_refl _) (fun b hb q => ?_)
      rcases q with (q | q) | q
      · exact Or.inl q
      · exact Or.inr q
      · omega)
