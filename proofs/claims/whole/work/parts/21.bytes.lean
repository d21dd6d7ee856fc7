theorem by_nb (z : Int32) : (z.toInt8.toInt32).toInt8.toInt32 = z.toInt8.toInt32 := (vp_nar_byte _).symm.trans (pk_vb z)

set_option maxRecDepth 100000 in
set_option maxHeartbeats 4000000 in
/-- Bytes.put: a byte more -/
theorem m_X0_put {E : vE} {S : vS} {sz : Nat} {h w N x : Nat} {l : List Nat} {v : Int32} (B : BY S sz h w N l x) (hl : l.length < N) : vi_Met E yX0_put cX0_put 2 none 0 0 0 [.ref (h), .int (v)] S sz (fun r S1 z1 => r = none ∧ z1 = sz ∧ BY S1 sz h w N (l ++ [by8 v]) x ∧ ag S sz S1 (fun b => b = h ∨ b = w)) := by
  refine vi_met (by decide) (Nat.le_of_ble_eq_true rfl) ?_
  intro X C
  refine vi_aload_n C dX0_put_0 rfl rfl ?_
  refine vi_geti (i := 1) C dX0_put_1 rfl fX0_13 B.1.2.2.1 rfl rfl ?_
  refine vi_aload_n C dX0_put_4 rfl rfl ?_
  refine vi_getr (i := 0) C dX0_put_5 rfl fX0_7 B.1.2.2.1 rfl rfl B.2.1 ?_
  refine vi_alen C dX0_put_8 rfl (by rw [B.1.2.2.2]; decide) (by rw [B.1.2.2.2]; decide) ?_
  refine vi_icmp_ge (t' := 33) C dX0_put_9 rfl (by decide) (fun hc9 => ?_) (fun hc9 => ?_)
  · exact absurd hc9 (by rw [B.2.2.2.2.2.1, B.2.2.1]; exact nI_ge hl (by have := B.2.2.2.1; omega))
  · refine vi_aload_n C dX0_put_12 rfl rfl ?_
    refine vi_getr (i := 0) C dX0_put_13 rfl fX0_7 B.1.2.2.1 rfl rfl B.2.1 ?_
    refine vi_aload_n C dX0_put_16 rfl rfl ?_
    refine vi_geti (i := 1) C dX0_put_17 rfl fX0_13 B.1.2.2.1 rfl rfl ?_
    refine vi_iload_n C dX0_put_20 rfl rfl ?_
    refine vi_i2b C dX0_put_21 rfl ?_
    refine vi_bastore C dX0_put_22 rfl B.1.2.2.2 (by rw [B.2.2.2.2.2.1, B.2.2.1]; exact vp_in_nI hl (by have := B.2.2.2.1; omega)) ?_
    refine vi_aload_n C dX0_put_23 rfl rfl ?_
    refine vi_dup C dX0_put_24 rfl rfl ?_
    refine vi_geti (i := 1) C dX0_put_25 rfl fX0_13 B.1.2.2.1 rfl rfl ?_
    refine vi_iconst (v := 1) C dX0_put_28 rfl (by decide) ?_
    refine vi_iadd C dX0_put_29 rfl ?_
    refine vi_puti (i := 1) C dX0_put_30 rfl (fpX0_13 _) B.1.2.2.1 rfl rfl (by decide) rfl rfl ?_
    exact vi_return C dX0_put_33 rfl (by decide) (by decide) (by
        have hN := B.2.2.2.1
        have e1 : vI S 1 h = nI l.length := B.2.2.2.2.2.1
        refine ⟨rfl, rfl, ?_, ((ag.sR (S := S) (sz := sz)).tr ag.sI (Nat.le_refl _)).mo (Nat.le_refl _) (fun b _ q => q.elim Or.inr Or.inl)⟩
        show BY (sI (sR S w (vI S 1 h).toNatClampNeg (v.toInt8.toInt32).toInt8.toInt32) 1 h (vI S 1 h + 1)) sz h w N _ x
        rw [e1, nI_clamp (by omega), nI_1, by_nb]
        exact B.put v hl)

set_option maxRecDepth 100000 in
set_option maxHeartbeats 4000000 in
/-- Bytes.clear -/
theorem m_X0_clear {E : vE} {S : vS} {sz : Nat} {h w N x : Nat} {l : List Nat} (B : BY S sz h w N l x) : vi_Met E yX0_clear cX0_clear 1 none 0 0 0 [.ref (h)] S sz (fun r S1 z1 => r = none ∧ z1 = sz ∧ BY S1 sz h w N [] 0 ∧ ag S sz S1 (fun b => b = h ∨ b = w)) := by
  refine vi_met (by decide) (Nat.le_of_ble_eq_true rfl) ?_
  intro X C
  refine vi_aload_n C dX0_clear_0 rfl rfl ?_
  refine vi_iconst (v := 0) C dX0_clear_1 rfl (by decide) ?_
  refine vi_puti (i := 1) C dX0_clear_2 rfl (fpX0_13 _) B.1.2.2.1 rfl rfl (by decide) rfl rfl ?_
  refine vi_aload_n C dX0_clear_5 rfl rfl ?_
  refine vi_iconst (v := 0) C dX0_clear_6 rfl (by decide) ?_
  refine vi_puti (i := 2) C dX0_clear_7 rfl (fpX0_17 _) B.1.2.2.1 rfl rfl (by decide) rfl rfl ?_
  exact vi_return C dX0_clear_10 rfl (by decide) (by decide) (by
      refine ⟨rfl, rfl, ?_, ((ag.sI (S := S) (sz := sz)).tr ag.sI (Nat.le_refl _)).mo (Nat.le_refl _) (fun b _ q => Or.inl (q.elim id id))⟩
      obtain ⟨a, b1, b2, b3, b4, b5, b6, b7, b8⟩ := B
      exact ⟨a, b1, b2, b3, Nat.zero_le _, (vIi (by decide)).trans (vIs _ _ _ _), vIs _ _ _ _, fun j hj => absurd hj (Nat.not_lt_zero _), fun b hb => by cases hb⟩)

/-- byte i, or 0 -/
def byA (l : List Nat) (i : Nat) : Nat := l.getD i 0
theorem byA_lt {l : List Nat} (h : ∀ b ∈ l, b < 256) (i : Nat) : byA l i < 256 := by
  unfold byA
  rcases Nat.lt_or_ge i l.length with g | g
  · simp only [List.getD, List.getElem?_eq_getElem g, Option.getD_some]; exact h _ (List.getElem_mem g)
  · simp [List.getD, List.getElem?_eq_none g]
theorem byA_ge {l : List Nat} {i : Nat} (h : l.length ≤ i) : byA l i = 0 := by simp [byA, List.getD, List.getElem?_eq_none h]

set_option maxRecDepth 100000 in
set_option maxHeartbeats 4000000 in
/-- Bytes.byteAt -/
theorem m_X0_byteAt {E : vE} {S : vS} {sz : Nat} {h w N x : Nat} {l : List Nat} {i : Nat} (B : BY S sz h w N l x) (hi : i < 2 ^ 30) : vi_Met E yX0_byteAt cX0_byteAt 2 (some .int) 0 0 0 [.ref (h), .int (nI i)] S sz (fun r S1 z1 => r = some (.int (nI (byA l i))) ∧ z1 = sz ∧ S1 = S) := by
  refine vi_met (by decide) (Nat.le_of_ble_eq_true rfl) ?_
  intro X C
  refine vi_iload_n C dX0_byteAt_0 rfl rfl ?_
  refine vi_if_lt (t' := 25) C dX0_byteAt_1 rfl (by decide) (fun hc1 => ?_) (fun hc1 => ?_)
  · exact absurd hc1 (nI_pos (by omega))
  · refine vi_iload_n C dX0_byteAt_4 rfl rfl ?_
    refine vi_aload_n C dX0_byteAt_5 rfl rfl ?_
    refine vi_geti (i := 1) C dX0_byteAt_6 rfl fX0_13 B.1.2.2.1 rfl rfl ?_
    refine vi_icmp_ge (t' := 25) C dX0_byteAt_9 rfl (by decide) (fun hc9 => ?_) (fun hc9 => ?_)
    · have hil : l.length ≤ i := (Nat.lt_or_ge i l.length).elim (fun q => absurd hc9 (by rw [B.2.2.2.2.2.1]; exact nI_ge q (by have := B.2.2.2.1; have := B.2.2.2.2.1; omega))) id
      refine vi_iconst (v := 0) C dX0_byteAt_25 rfl (by decide) ?_
      exact vi_ireturn C dX0_byteAt_26 rfl rfl (by decide) (by decide) ⟨by rw [byA_ge hil]; rfl, rfl, rfl⟩
    · have hil : i < l.length := (Nat.lt_or_ge i l.length).elim id (fun q => absurd (by rw [B.2.2.2.2.2.1]; exact nI_le q (by omega)) hc9)
      have hN := B.2.2.2.1
      have hLN := B.2.2.2.2.1
      refine vi_aload_n C dX0_byteAt_12 rfl rfl ?_
      refine vi_getr (i := 0) C dX0_byteAt_13 rfl fX0_7 B.1.2.2.1 rfl rfl B.2.1 ?_
      refine vi_iload_n C dX0_byteAt_16 rfl rfl ?_
      refine vi_baload C dX0_byteAt_17 rfl B.1.2.2.2 (by rw [B.2.2.1]; exact vp_in_nI (by omega) (by omega)) ?_
      refine vi_sipush (v := 255) C dX0_byteAt_18 rfl (by decide) ?_
      refine vi_iand C dX0_byteAt_21 rfl ?_
      refine vi_goto (t' := 26) C dX0_byteAt_22 (by decide) ?_
      exact vi_ireturn C dX0_byteAt_26 rfl rfl (by decide) (by decide) (by
          refine ⟨?_, rfl, rfl⟩
          rw [nI_clamp (by omega), B.2.2.2.2.2.2.2.1 i hil]
          have := (sb_byte (l.getD i 0) (byA_lt B.2.2.2.2.2.2.2.2 i)).1
          exact congrArg (fun q => some (Value.int q)) this)

set_option maxRecDepth 100000 in
set_option maxHeartbeats 4000000 in
/-- Bytes.putTwo -/
theorem m_X0_putTwo {E : vE} {S : vS} {sz : Nat} {h w N x : Nat} {l : List Nat} {v : Int32} (B : BY S sz h w N l x) (hl : l.length + 2 ≤ N) : vi_Met E yX0_putTwo cX0_putTwo 2 none 1 0 0 [.ref (h), .int (v)] S sz (fun r S1 z1 => r = none ∧ z1 = sz ∧ BY S1 sz h w N (l ++ [by8 (v.toUInt32 >>> ((8 : Int32).toUInt32 &&& Int32.toUInt32 31)).toInt32, by8 v]) x ∧ ag S sz S1 (fun b => b = h ∨ b = w)) := by
  refine vi_met (by decide) (Nat.le_of_ble_eq_true rfl) ?_
  intro X C
  refine vi_aload_n C dX0_putTwo_0 rfl rfl ?_
  refine vi_iload_n C dX0_putTwo_1 rfl rfl ?_
  refine vi_bipush (v := 8) C dX0_putTwo_2 rfl (by decide) ?_
  refine vi_iushr C dX0_putTwo_4 rfl ?_
  refine vi_callV (c := 0) C [.int (((v).toUInt32 >>> (((8 : Int32)).toUInt32 &&& Int32.toUInt32 31)).toInt32)] [] dX0_putTwo_5 rfl ivX0_20 imX0_put rfl rfl B.1.2.2.1 (m_X0_put B (by omega)) rfl (by decide) ⟨by decide, by decide⟩ ⟨by decide, by decide⟩ (fun r5 S5 z5 hq5 => ?_)
  obtain ⟨rfl, rfl, B1, g1⟩ := hq5
  refine vi_aload_n C dX0_putTwo_8 rfl rfl ?_
  refine vi_iload_n C dX0_putTwo_9 rfl rfl ?_
  refine vi_callV (c := 0) C [.int (v)] [] dX0_putTwo_10 rfl ivX0_20 imX0_put rfl rfl B1.1.2.2.1 (m_X0_put B1 (by simp; omega)) rfl (by decide) ⟨by decide, by decide⟩ ⟨by decide, by decide⟩ (fun r10 S10 z10 hq10 => ?_)
  obtain ⟨rfl, rfl, B2, g2⟩ := hq10
  exact vi_return C dX0_putTwo_13 rfl (by decide) (by decide) (⟨rfl, rfl, by simpa using B2, (g1.tr g2 (Nat.le_refl _)).mo (Nat.le_refl _) (fun b _ q => q.elim id id)⟩)

/-- one step of the CHECK's eight, the eight, and the CHECK of bytes -/
def crc1 (c : Int32) : Int32 := if (c &&& 1) = 1 then (c.toUInt32 >>> ((1 : Int32).toUInt32 &&& Int32.toUInt32 31)).toInt32 ^^^ (-306674912) else (c.toUInt32 >>> ((1 : Int32).toUInt32 &&& Int32.toUInt32 31)).toInt32
def crcN : Nat → Int32 → Int32
  | 0, c => c
  | n + 1, c => crcN n (crc1 c)
def crcL : Int32 → List Nat → Int32
  | c, [] => c
  | c, b :: l => crcL (crcN 8 (c ^^^ nI b)) l
theorem crcL_app (c : Int32) (l m : List Nat) : crcL c (l ++ m) = crcL (crcL c l) m := by
  induction l generalizing c with
  | nil => rfl
  | cons b l ih => exact ih _
/-- CHECK of some bytes, as an int -/
def chk (l : List Nat) : Int32 := crcL (-1) l ^^^ (-1)
def shr (c : Int32) (k : Int32) : Int32 := (c.toUInt32 >>> (k.toUInt32 &&& Int32.toUInt32 31)).toInt32
def le4 (c : Int32) : List Nat := [by8 (shr c 0), by8 (shr c 8), by8 (shr c 16), by8 (shr c 24)]
def be4 (c : Int32) : List Nat := [by8 (shr c 24), by8 (shr c 16), by8 (shr c 8), by8 (shr c 0)]
def be2 (c : Int32) : List Nat := [by8 (shr c 8), by8 c]

theorem vi_lkm {l : List (Nat × Value)} {i : Nat} {v : Value} (e : vi_lk l i = some v) : (i, v) ∈ l := by
  induction l with
  | nil => cases e
  | cons q l ih =>
    unfold vi_lk at e
    by_cases hq : q.1 = i
    · rw [if_pos hq] at e
      cases e
      rw [← hq]
      exact List.mem_cons_self
    · rw [if_neg hq] at e
      exact List.mem_cons_of_mem _ (ih e)

set_option maxRecDepth 100000 in
set_option maxHeartbeats 4000000 in
/-- Bytes.checkStep -/
theorem m_X0_checkStep {E : vE} {S : vS} {sz : Nat} {c0 v : Int32}  : vi_Met E yX0_checkStep cX0_checkStep 4 (some .int) 0 0 0 [.int (c0), .int (v)] S sz (fun r S1 z1 => r = some (.int (crcN 8 (c0 ^^^ v))) ∧ z1 = sz ∧ S1 = S) := by
  refine vi_met (by decide) (Nat.le_of_ble_eq_true rfl) ?_
  intro X C
  have loop : ∀ (n i : Nat) (c : Int32), i + n = 8 → crcN n c = crcN 8 (c0 ^^^ v) → vi_W E X 4 (vi_Z E X (fun r S1 z1 => r = some (.int (crcN 8 (c0 ^^^ v))) ∧ z1 = sz ∧ S1 = S) 0 0) 6 [(0, .int c0), (1, .int v), (2, .int c), (3, .int (nI i))] [] S sz 0 0 := by
    intro n
    induction n with
    | zero =>
      intro i c hi hcn
      refine vi_iload_n C dX0_checkStep_6 rfl rfl ?_
      refine vi_bipush (v := 8) C dX0_checkStep_7 rfl (by decide) ?_
      refine vi_icmp_ge (t' := 38) C dX0_checkStep_9 rfl (by decide) (fun hc9 => ?_) (fun hc9 => ?_)
      · refine vi_iload_n C dX0_checkStep_38 rfl rfl ?_
        exact vi_ireturn C dX0_checkStep_39 rfl rfl (by decide) (by decide) (⟨by rw [← hcn]; rfl, rfl, rfl⟩)
      · exact absurd (nI_le (a := 8) (b := i) (by omega) (by omega)) hc9
    | succ n ih =>
      intro i c hi hcn
      refine vi_iload_n C dX0_checkStep_6 rfl rfl ?_
      refine vi_bipush (v := 8) C dX0_checkStep_7 rfl (by decide) ?_
      refine vi_icmp_ge (t' := 38) C dX0_checkStep_9 rfl (by decide) (fun hc9 => ?_) (fun hc9 => ?_)
      · exact absurd hc9 (nI_ge (a := i) (b := 8) (by omega) (by omega))
      · refine vi_iload_n C dX0_checkStep_12 rfl rfl ?_
        refine vi_iconst (v := 1) C dX0_checkStep_13 rfl (by decide) ?_
        refine vi_iand C dX0_checkStep_14 rfl ?_
        refine vi_iconst (v := 1) C dX0_checkStep_15 rfl (by decide) ?_
        refine vi_icmp_ne (t' := 28) C dX0_checkStep_16 rfl (by decide) (fun hc16 => ?_) (fun hc16 => ?_)
        · refine vi_iload_n C dX0_checkStep_28 rfl rfl ?_
          refine vi_iconst (v := 1) C dX0_checkStep_29 rfl (by decide) ?_
          refine vi_iushr C dX0_checkStep_30 rfl ?_
          refine vi_istore_n C dX0_checkStep_31 rfl (by decide) ?_
          refine vi_iinc C dX0_checkStep_32 rfl rfl (by decide) ?_
          refine vi_goto (t' := 6) C dX0_checkStep_35 (by decide) ?_
          refine vi_sub (lv' := [(0, .int c0), (1, .int v), (2, .int (crc1 c)), (3, .int (nI (i + 1)))]) ?_ (ih (i + 1) (crc1 c) (by omega) (by exact hcn))
          intro q hq
          simp only [List.mem_cons, List.not_mem_nil, or_false] at hq
          rcases hq with rfl | rfl | rfl | rfl
          · exact vi_lkm rfl
          · exact vi_lkm rfl
          · exact vi_lkm (by rw [show crc1 c = ((c).toUInt32 >>> (((1 : Int32)).toUInt32 &&& Int32.toUInt32 31)).toInt32 from by unfold crc1; first | rw [if_pos hc16] | rw [if_neg hc16]]; rfl)
          · exact vi_lkm (by rw [← nI_1]; rfl)
        · refine vi_iload_n C dX0_checkStep_19 rfl rfl ?_
          refine vi_iconst (v := 1) C dX0_checkStep_20 rfl (by decide) ?_
          refine vi_iushr C dX0_checkStep_21 rfl ?_
          refine vi_ldc C dX0_checkStep_22 rfl kX0_37 ?_
          refine vi_ixor C dX0_checkStep_24 rfl ?_
          refine vi_goto (t' := 31) C dX0_checkStep_25 (by decide) ?_
          refine vi_istore_n C dX0_checkStep_31 rfl (by decide) ?_
          refine vi_iinc C dX0_checkStep_32 rfl rfl (by decide) ?_
          refine vi_goto (t' := 6) C dX0_checkStep_35 (by decide) ?_
          refine vi_sub (lv' := [(0, .int c0), (1, .int v), (2, .int (crc1 c)), (3, .int (nI (i + 1)))]) ?_ (ih (i + 1) (crc1 c) (by omega) (by exact hcn))
          intro q hq
          simp only [List.mem_cons, List.not_mem_nil, or_false] at hq
          rcases hq with rfl | rfl | rfl | rfl
          · exact vi_lkm rfl
          · exact vi_lkm rfl
          · exact vi_lkm (by rw [show crc1 c = (((c).toUInt32 >>> (((1 : Int32)).toUInt32 &&& Int32.toUInt32 31)).toInt32 ^^^ (-306674912 : Int32)) from by unfold crc1; first | rw [if_pos hc16] | rw [if_neg hc16]]; rfl)
          · exact vi_lkm (by rw [← nI_1]; rfl)
  refine vi_iload_n C dX0_checkStep_0 rfl rfl ?_
  refine vi_iload_n C dX0_checkStep_1 rfl rfl ?_
  refine vi_ixor C dX0_checkStep_2 rfl ?_
  refine vi_istore_n C dX0_checkStep_3 rfl (by decide) ?_
  refine vi_iconst (v := 0) C dX0_checkStep_4 rfl (by decide) ?_
  refine vi_istore_n C dX0_checkStep_5 rfl (by decide) ?_
  refine vi_sub (lv' := [(0, .int c0), (1, .int v), (2, .int (c0 ^^^ v)), (3, .int (nI 0))]) ?_ (loop 8 0 (c0 ^^^ v) rfl rfl)
  intro q hq
  simp only [List.mem_cons, List.not_mem_nil, or_false] at hq
  rcases hq with rfl | rfl | rfl | rfl <;> exact vi_lkm rfl
