/-! ===== what stays: every old cell is of its kind and length; outside A it holds what it held ===== -/
def ag (S : vS) (sz : Nat) (S1 : vS) (A : Nat → Prop) : Prop :=
  ∀ b, b < sz → vK S1 b = vK S b ∧ vN S1 b = vN S b ∧ (¬ A b → (∀ i, vI S1 i b = vI S i b) ∧ (∀ i, vP S1 i b = vP S i b) ∧ vR S1 b = vR S b ∧ vJ S1 b = vJ S b ∧ vQ S1 b = vQ S b)
theorem ag.rf {S : vS} {sz : Nat} {A : Nat → Prop} : ag S sz S A := fun _ _ => ⟨rfl, rfl, fun _ => ⟨fun _ => rfl, fun _ => rfl, rfl, rfl, rfl⟩⟩
theorem ag.tr {S S1 S2 : vS} {sz sz1 : Nat} {A B : Nat → Prop} (h : ag S sz S1 A) (g : ag S1 sz1 S2 B) (hz : sz ≤ sz1) : ag S sz S2 (fun b => A b ∨ B b) := fun b hb => by
  obtain ⟨h1, h2, h3⟩ := h b hb
  obtain ⟨g1, g2, g3⟩ := g b (Nat.lt_of_lt_of_le hb hz)
  refine ⟨g1.trans h1, g2.trans h2, fun hn => ?_⟩
  obtain ⟨a1, a2, a3, a4, a5⟩ := h3 (fun q => hn (Or.inl q))
  obtain ⟨b1, b2, b3, b4, b5⟩ := g3 (fun q => hn (Or.inr q))
  exact ⟨fun i => (b1 i).trans (a1 i), fun i => (b2 i).trans (a2 i), b3.trans a3, b4.trans a4, b5.trans a5⟩
theorem ag.mo {S S1 : vS} {sz sz0 : Nat} {A B : Nat → Prop} (h : ag S sz S1 A) (hz : sz0 ≤ sz) (hA : ∀ b, b < sz0 → A b → B b) : ag S sz0 S1 B := fun b hb => by
  obtain ⟨h1, h2, h3⟩ := h b (Nat.lt_of_lt_of_le hb hz)
  exact ⟨h1, h2, fun hn => h3 (fun q => hn (hA b hb q))⟩
theorem ag.sI {S : vS} {sz i a : Nat} {v : Int32} : ag S sz (sI S i a v) (fun b => b = a) := fun b _ => ⟨rfl, rfl, fun hb => ⟨fun j => vi_u2a _ _ hb, fun _ => rfl, rfl, rfl, rfl⟩⟩
theorem ag.sP {S : vS} {sz i a : Nat} {v : Option Nat} : ag S sz (sP S i a v) (fun b => b = a) := fun b _ => ⟨rfl, rfl, fun hb => ⟨fun _ => rfl, fun j => vi_u2a _ _ hb, rfl, rfl, rfl⟩⟩
theorem ag.sR {S : vS} {sz i a : Nat} {v : Int32} : ag S sz (sR S a i v) (fun b => b = a) := fun b _ => ⟨rfl, rfl, fun hb => ⟨fun _ => rfl, fun _ => rfl, vi_u2r _ _ hb, rfl, rfl⟩⟩
theorem ag.sJ {S : vS} {sz i a : Nat} {v : Int64} : ag S sz (sJ S a i v) (fun b => b = a) := fun b _ => ⟨rfl, rfl, fun hb => ⟨fun _ => rfl, fun _ => rfl, rfl, vi_u2r _ _ hb, rfl⟩⟩
theorem ag.sQ {S : vS} {sz i a : Nat} {v : Option Nat} : ag S sz (sQ S a i v) (fun b => b = a) := fun b _ => ⟨rfl, rfl, fun hb => ⟨fun _ => rfl, fun _ => rfl, rfl, rfl, vi_u2r _ _ hb⟩⟩
theorem ag.nO {S : vS} {sz k : Nat} {A : Nat → Prop} : ag S sz (nO S sz k) A := fun b hb => by
  have hn : b ≠ sz := by omega
  refine ⟨va_up_ne _ _ hn, rfl, fun _ => ⟨fun i => ?_, fun i => ?_, rfl, rfl, rfl⟩⟩
  · show (if b = sz then 0 else vI S i b) = vI S i b
    rw [if_neg hn]
  · show (if b = sz then none else vP S i b) = vP S i b
    rw [if_neg hn]
theorem ag.nA {S : vS} {sz k n : Nat} {A : Nat → Prop} : ag S sz (nA S sz k n) A := fun b hb => by
  have hn : b ≠ sz := by omega
  exact ⟨va_up_ne _ _ hn, va_up_ne _ _ hn, fun _ => ⟨fun _ => rfl, fun _ => rfl, va_up_ne _ _ hn, va_up_ne _ _ hn, va_up_ne _ _ hn⟩⟩
/-! ===== reading behind a write ===== -/
theorem vIs (S : vS) (i a : Nat) (v : Int32) : vI (sI S i a v) i a = v := vi_u2s _ _ _ _
theorem vIi {S : vS} {i a : Nat} {v : Int32} {j b : Nat} (h : j ≠ i) : vI (sI S i a v) j b = vI S j b := vi_u2i _ _ h
theorem vIa {S : vS} {i a : Nat} {v : Int32} {j b : Nat} (h : b ≠ a) : vI (sI S i a v) j b = vI S j b := vi_u2a _ _ h
theorem vPs (S : vS) (i a : Nat) (v : Option Nat) : vP (sP S i a v) i a = v := vi_u2s _ _ _ _
theorem vPi {S : vS} {i a : Nat} {v : Option Nat} {j b : Nat} (h : j ≠ i) : vP (sP S i a v) j b = vP S j b := vi_u2i _ _ h
theorem vPa {S : vS} {i a : Nat} {v : Option Nat} {j b : Nat} (h : b ≠ a) : vP (sP S i a v) j b = vP S j b := vi_u2a _ _ h
theorem vRs (S : vS) (a i : Nat) (v : Int32) : vR (sR S a i v) a i = v := vi_u2s _ _ _ _
theorem vRi {S : vS} {a i : Nat} {v : Int32} {b j : Nat} (h : j ≠ i) : vR (sR S a i v) b j = vR S b j := vi_u2a _ _ h
theorem vRa {S : vS} {a i : Nat} {v : Int32} {b j : Nat} (h : b ≠ a) : vR (sR S a i v) b j = vR S b j := vi_u2i _ _ h
theorem vQs (S : vS) (a i : Nat) (v : Option Nat) : vQ (sQ S a i v) a i = v := vi_u2s _ _ _ _
theorem vQi {S : vS} {a i : Nat} {v : Option Nat} {b j : Nat} (h : j ≠ i) : vQ (sQ S a i v) b j = vQ S b j := vi_u2a _ _ h
theorem vQa {S : vS} {a i : Nat} {v : Option Nat} {b j : Nat} (h : b ≠ a) : vQ (sQ S a i v) b j = vQ S b j := vi_u2i _ _ h
theorem vJs (S : vS) (a i : Nat) (v : Int64) : vJ (sJ S a i v) a i = v := vi_u2s _ _ _ _
theorem vJi {S : vS} {a i : Nat} {v : Int64} {b j : Nat} (h : j ≠ i) : vJ (sJ S a i v) b j = vJ S b j := vi_u2a _ _ h
theorem vJa {S : vS} {a i : Nat} {v : Int64} {b j : Nat} (h : b ≠ a) : vJ (sJ S a i v) b j = vJ S b j := vi_u2i _ _ h
/-! ===== bytes ===== -/
/-- the byte of an int -/
def by8 (v : Int32) : Nat := v.toBitVec.toNat % 256
theorem by8_lt (v : Int32) : by8 v < 256 := Nat.mod_lt _ (by decide)
theorem by8_sb (v : Int32) : v.toInt8.toInt32 = sb_b (by8 v) := by
  unfold sb_b
  congr 1
  apply Int8.toBitVec_inj.mp
  apply BitVec.eq_of_toNat_eq
  have h1 : ∀ u : Int32, u.toInt8.toBitVec.toNat = u.toBitVec.toNat % 256 := fun u => by
    rw [Int32.toBitVec_toInt8, BitVec.signExtend_eq_setWidth_of_le _ (by decide), BitVec.toNat_setWidth]
  rw [h1, h1, pk_tn (by have := by8_lt v; omega)]
  simp [by8]
theorem by8_n {n : Nat} (h : n < 256) : by8 (nI n) = n := by
  unfold by8
  rw [pk_tn (by omega)]
  omega
/-- h is a Bytes with the row w of N places; it holds the bytes l and is read up to x -/
def BY (S : vS) (sz h w N : Nat) (l : List Nat) (x : Nat) : Prop :=
  (h < sz ∧ w < sz ∧ vK S h = 1 ∧ vK S w = 20) ∧ vP S 0 h = some w ∧ vN S w = N ∧ N < 65536 ∧ l.length ≤ N ∧ vI S 1 h = nI l.length ∧ vI S 2 h = nI x ∧ (∀ j, j < l.length → vR S w j = sb_b (l.getD j 0)) ∧ ∀ b ∈ l, b < 256
theorem BY.fr {S S1 : vS} {sz sz1 h w N x : Nat} {l : List Nat} {A : Nat → Prop} (B : BY S sz h w N l x) (g : ag S sz S1 A) (hz : sz ≤ sz1) (hh : ¬ A h) (hw : ¬ A w) : BY S1 sz1 h w N l x := by
  obtain ⟨⟨a1, a2, a3, a4⟩, b1, b2, b3, b4, b5, b6, b7, b8⟩ := B
  obtain ⟨c1, c2, c3⟩ := g h a1
  obtain ⟨d1, d2, d3⟩ := g w a2
  obtain ⟨c4, c5, -, -, -⟩ := c3 hh
  obtain ⟨-, -, d4, -, -⟩ := d3 hw
  exact ⟨⟨by omega, by omega, c1.trans a3, d1.trans a4⟩, (c5 0).trans b1, d2.trans b2, b3, b4, (c4 1).trans b5, (c4 2).trans b6, fun j hj => by rw [d4]; exact b7 j hj, b8⟩
theorem BY.put {S : vS} {sz h w N x : Nat} {l : List Nat} (B : BY S sz h w N l x) (v : Int32) (hl : l.length < N) : BY (sI (sR S w l.length (v.toInt8.toInt32)) 1 h (nI (l.length + 1))) sz h w N (l ++ [by8 v]) x := by
  obtain ⟨⟨a1, a2, a3, a4⟩, b1, b2, b3, b4, b5, b6, b7, b8⟩ := B
  refine ⟨⟨a1, a2, a3, a4⟩, b1, b2, b3, by simp; omega, ?_, ?_, fun j hj => ?_, fun b hb => ?_⟩
  · rw [List.length_append]
    exact vi_u2s _ _ _ _
  · exact (vIi (S := sR S w l.length (v.toInt8.toInt32)) (by decide)).trans b6
  · show vi_u2 (vR S) w l.length (v.toInt8.toInt32) w j = _
    by_cases e : j = l.length
    · subst e
      rw [vi_u2s, by8_sb]
      congr 1
      simp
    · rw [vi_u2a _ _ e, b7 j (by simp at hj; omega)]
      congr 1
      simp at hj
      simp [List.getD, List.getElem?_append_left (show j < l.length by omega)]
  · rcases List.mem_append.mp hb with h1 | h1
    · exact b8 b h1
    · rw [List.mem_singleton.mp h1]; exact by8_lt v
