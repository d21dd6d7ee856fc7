-- rows of kit/laws/BITS.to-paste (families wb_ and lN_), then ours
theorem wb_tb (n : Nat) : (lN n).toBitVec = BitVec.ofNat 64 n := rfl
theorem wb_inj {a b : Int64} (h : a.toBitVec = b.toBitVec) : a = b := Int64.toBitVec_inj.mp h
theorem wb_tn {n : Nat} (h : n < 2 ^ 64) : (lN n).toBitVec.toNat = n := by rw [wb_tb, BitVec.toNat_ofNat, Nat.mod_eq_of_lt h]
theorem wb_of (x : Int64) : ∃ n, n < 2 ^ 64 ∧ x = lN n := ⟨x.toBitVec.toNat, x.toBitVec.isLt, wb_inj (by rw [wb_tb]; simp)⟩
theorem wb_of32 (x : Int32) : ∃ n, n < 2 ^ 32 ∧ x = nI n := ⟨x.toBitVec.toNat, x.toBitVec.isLt, Int32.toBitVec_inj.mp (by show _ = BitVec.ofNat 32 _; simp)⟩
theorem wb_c : ∀ k, k < 64 → ((nI k).toInt64 &&& 63) = lN k := by decide +kernel
theorem wb_cu : ∀ k, k < 64 → ((nI k).toInt64.toUInt64 &&& Int64.toUInt64 63) = UInt64.ofNat k := by decide +kernel
theorem wb_sm : ∀ k, k < 64 → (BitVec.ofNat 64 k).smod 64 = BitVec.ofNat 64 k := by decide +kernel
theorem wb_pw {a b : Nat} (h : a ≤ b) : 2 ^ b = 2 ^ a * 2 ^ (b - a) := by rw [← Nat.pow_add]; congr 1; omega
theorem wb_lt2 {a b : Nat} (h : a < b) : 2 ^ a < 2 ^ b := Nat.pow_lt_pow_right (by decide) h
theorem wb_mod (n : Nat) : lN n = lN (n % 2 ^ 64) := wb_inj (by rw [wb_tb, wb_tb]; apply BitVec.eq_of_toNat_eq; rw [BitVec.toNat_ofNat, BitVec.toNat_ofNat, Nat.mod_mod])
theorem wb_shr {n k : Nat} (hn : n < 2 ^ 64) (hk : k < 64) : ((lN n).toUInt64 >>> ((nI k).toInt64.toUInt64 &&& Int64.toUInt64 63)).toInt64 = lN (n / 2 ^ k) := by
  rw [wb_cu k hk]
  apply wb_inj
  apply BitVec.eq_of_toNat_eq
  show ((lN n).toUInt64 >>> UInt64.ofNat k).toNat = (BitVec.ofNat 64 _).toNat
  have h1 : (UInt64.ofNat k).toNat = k := by
    show (BitVec.ofNat 64 k).toNat = k
    rw [BitVec.toNat_ofNat, Nat.mod_eq_of_lt (by omega)]
  have h2 : (lN n).toUInt64.toNat = n := wb_tn hn
  rw [UInt64.toNat_shiftRight, h1, h2, Nat.mod_eq_of_lt hk, Nat.shiftRight_eq_div_pow, BitVec.toNat_ofNat, Nat.mod_eq_of_lt (Nat.lt_of_le_of_lt (Nat.div_le_self _ _) hn)]
theorem wb_shl (n : Nat) {k : Nat} (hk : k < 64) : lN n <<< ((nI k).toInt64 &&& 63) = lN (n * 2 ^ k) := by
  rw [wb_c k hk]
  apply wb_inj
  rw [Int64.toBitVec_shiftLeft, wb_tb, wb_tb, wb_tb, wb_sm k hk]
  apply BitVec.eq_of_toNat_eq
  rw [BitVec.shiftLeft_eq', BitVec.toNat_shiftLeft, BitVec.toNat_ofNat, BitVec.toNat_ofNat, BitVec.toNat_ofNat, Nat.mod_eq_of_lt (show k < 2 ^ 64 by omega), Nat.shiftLeft_eq, Nat.mul_mod, Nat.mod_mod, ← Nat.mul_mod]
theorem wb_and {a b : Nat} (ha : a < 2 ^ 64) (hb : b < 2 ^ 64) : lN a &&& lN b = lN (a &&& b) := by
  apply wb_inj
  rw [Int64.toBitVec_and, wb_tb, wb_tb, wb_tb]
  apply BitVec.eq_of_toNat_eq
  rw [BitVec.toNat_and, BitVec.toNat_ofNat, BitVec.toNat_ofNat, BitVec.toNat_ofNat, Nat.mod_eq_of_lt ha, Nat.mod_eq_of_lt hb, Nat.mod_eq_of_lt (Nat.and_lt_two_pow _ hb)]
theorem wb_or {a b : Nat} (ha : a < 2 ^ 64) (hb : b < 2 ^ 64) : lN a ||| lN b = lN (a ||| b) := by
  apply wb_inj
  rw [Int64.toBitVec_or, wb_tb, wb_tb, wb_tb]
  apply BitVec.eq_of_toNat_eq
  rw [BitVec.toNat_or, BitVec.toNat_ofNat, BitVec.toNat_ofNat, BitVec.toNat_ofNat, Nat.mod_eq_of_lt ha, Nat.mod_eq_of_lt hb, Nat.mod_eq_of_lt (Nat.or_lt_two_pow ha hb)]
theorem wb_mask {n k : Nat} (hn : n < 2 ^ 64) (hk : k < 64) : lN n &&& lN (2 ^ k - 1) = lN (n % 2 ^ k) := by
  rw [wb_and hn (by have := wb_lt2 hk; omega), Nat.and_two_pow_sub_one_eq_mod]
theorem wb_a1 {n : Nat} (hn : n < 2 ^ 64) : lN n &&& 1 = lN (n % 2) := wb_mask (k := 1) hn (by decide)
theorem lN_bv (n : Nat) : (lN n).toBitVec = BitVec.ofNat 64 n := rfl
theorem lN_nat {n : Nat} (h : n < 2 ^ 64) : (lN n).toBitVec.toNat = n := by rw [lN_bv, BitVec.toNat_ofNat]; exact Nat.mod_eq_of_lt h
theorem lN_xor (a b : Nat) : lN a ^^^ lN b = lN (a ^^^ b) := by
  apply Int64.toBitVec_inj.mp; rw [Int64.toBitVec_xor, lN_bv, lN_bv, lN_bv]; apply BitVec.eq_of_getLsbD_eq; intro i hi; simp [BitVec.getLsbD_ofNat, Nat.testBit_xor, hi]
/-- byte i (0 the highest) of a long -/
def jb (x : Int64) (i : Nat) : Nat := x.toBitVec.toNat / 2 ^ (56 - 8 * i) % 256
theorem jb_lt (x : Int64) (i : Nat) : jb x i < 256 := Nat.mod_lt _ (by decide)
theorem jb_lN {n : Nat} (h : n < 2 ^ 64) (i : Nat) : jb (lN n) i = n / 2 ^ (56 - 8 * i) % 256 := by unfold jb; rw [wb_tn h]
theorem jb_nat (n v i j : Nat) (hv : v < 256) (hi : i < 8) (hj : j < 8) : ((n &&& ((255 * 2 ^ (56 - 8 * i)) ^^^ (2 ^ 64 - 1))) ||| (v * 2 ^ (56 - 8 * i))) / 2 ^ (56 - 8 * j) % 256 = if j = i then v else n / 2 ^ (56 - 8 * j) % 256 := by
  apply Nat.eq_of_testBit_eq
  intro k
  have h256 : (256 : Nat) = 2 ^ 8 := rfl
  have h255 : (255 : Nat) = 2 ^ 8 - 1 := rfl
  rw [h256, h255, ← Nat.shiftLeft_eq, ← Nat.shiftLeft_eq, Nat.testBit_mod_two_pow, Nat.testBit_div_two_pow, Nat.testBit_or, Nat.testBit_and, Nat.testBit_xor, Nat.testBit_shiftLeft, Nat.testBit_shiftLeft, Nat.testBit_two_pow_sub_one, Nat.testBit_two_pow_sub_one]
  have hvk : ∀ q, 8 ≤ q → v.testBit q = false := fun q hq => Nat.testBit_lt_two_pow (Nat.lt_of_lt_of_le hv (show 2 ^ 8 ≤ 2 ^ q from Nat.pow_le_pow_right (by decide) hq))
  by_cases hk : k < 8
  · by_cases e : j = i
    · subst e
      rw [if_pos rfl]
      have h1 : k + (56 - 8 * j) ≥ 56 - 8 * j := by omega
      have h2 : k + (56 - 8 * j) - (56 - 8 * j) = k := by omega
      have h3 : k + (56 - 8 * j) < 64 := by omega
      simp [hk, h1, h2, h3]
    · rw [if_neg e, Nat.testBit_mod_two_pow, Nat.testBit_div_two_pow]
      have h3 : k + (56 - 8 * j) < 64 := by omega
      rcases Nat.lt_or_ge (k + (56 - 8 * j)) (56 - 8 * i) with h | h
      · have h1 : ¬ (k + (56 - 8 * j) ≥ 56 - 8 * i) := by omega
        simp [hk, h1, h3]
      · have h1 : 8 ≤ k + (56 - 8 * j) - (56 - 8 * i) := by omega
        have h2 : ¬ (k + (56 - 8 * j) - (56 - 8 * i) < 8) := by omega
        simp [hk, h2, h3, hvk _ h1]
  · have h4 : v.testBit k = false := hvk k (by omega)
    by_cases e : j = i
    · rw [if_pos e]; simp [hk, h4]
    · rw [if_neg e, Nat.testBit_mod_two_pow]; simp [hk]
theorem jb_set (x : Int64) {v i j : Nat} (hv : v < 256) (hi : i < 8) (hj : j < 8) : jb ((x &&& ((255 <<< ((nI (56 - 8 * i)).toInt64 &&& 63)) ^^^ (-1))) ||| ((nI v).toInt64 <<< ((nI (56 - 8 * i)).toInt64 &&& 63))) j = if j = i then v else jb x j := by
  obtain ⟨n, hn, rfl⟩ := wb_of x
  have e1 : (255 : Int64) = lN 255 := rfl
  have e2 : (-1 : Int64) = lN (2 ^ 64 - 1) := by decide
  have p1 : 2 ^ (56 - 8 * i) ≤ 2 ^ 56 := Nat.pow_le_pow_right (by decide) (by omega)
  have b1 : 255 * 2 ^ (56 - 8 * i) < 2 ^ 64 := by omega
  have b2 : v * 2 ^ (56 - 8 * i) < 2 ^ 64 := by
    have := Nat.mul_le_mul (show v ≤ 255 by omega) p1
    omega
  rw [e1, e2, nI_l (show v < 2 ^ 31 by omega), wb_shl _ (by omega), wb_shl _ (by omega), lN_xor, wb_and hn (Nat.xor_lt_two_pow b1 (by omega)), wb_or (Nat.and_lt_two_pow _ (Nat.xor_lt_two_pow b1 (by omega))) b2, jb_lN (Nat.or_lt_two_pow (Nat.and_lt_two_pow _ (Nat.xor_lt_two_pow b1 (by omega))) b2), jb_lN hn]
  exact jb_nat n v i j hv hi hj
