/-! ===== the pure machines: numbers, guards, rows ===== -/
theorem nIt {n : Nat} (h : n < 2 ^ 31) : (nI n).toNatClampNeg = n := by
  show (nI n).toInt.toNat = n
  rw [nI_toInt h]; rfl
theorem nIn {n : Nat} (h : n < 2 ^ 31) : ¬ nI n < 0 := by
  rw [Int32.lt_iff_toInt_lt, nI_toInt h]
  have : (0 : Int32).toInt = 0 := by decide
  omega
theorem nI_mul (a b : Nat) : nI a * nI b = nI (a * b) := (Int32.ofNat_mul a b).symm
theorem nI_sub {a b : Nat} (h : b ≤ a) : nI a - nI b = nI (a - b) := by
  have e := nI_add (a - b) b
  rw [Nat.sub_add_cancel h] at e
  rw [← e]
  exact Int32.add_sub_cancel _ _
theorem nI_div {a b : Nat} (ha : a < 2 ^ 31) (hb : b < 2 ^ 31) : nI a / nI b = nI (a / b) := by
  have hm : nI a ≠ Int32.minValue := fun e => by
    have e2 := congrArg Int32.toInt e
    rw [nI_toInt ha] at e2
    have : (Int32.minValue).toInt = -2147483648 := by decide
    omega
  apply Int32.toInt_inj.mp
  rw [Int32.toInt_div_of_ne_left _ _ hm, nI_toInt ha, nI_toInt hb, nI_toInt (Nat.lt_of_le_of_lt (Nat.div_le_self _ _) ha)]
  rfl
theorem nI_rem {a b : Nat} (ha : a < 2 ^ 31) (hb : b < 2 ^ 31) : nI a - nI a / nI b * nI b = nI (a % b) := by
  rw [nI_div ha hb, nI_mul, nI_sub (Nat.div_mul_le_self _ _)]
  congr 1
  have := Nat.mod_add_div' a b
  omega
theorem mGv {M : vM} {j i : Nat} (h : i < mL j) (hi : i < 2 ^ 31) : mG M j (nI i) = some (M.2 j i) := by
  unfold mG
  rw [nIt hi, if_neg (fun q => q.elim (nIn hi) (fun q => by omega))]
theorem mSv {M : vM} {j i : Nat} {v : Int32} (h : i < mL j) (hi : i < 2 ^ 31) : mS M j (nI i) v = some (M.1, vi_u2 M.2 j i v) := by
  unfold mS
  rw [nIt hi, if_neg (fun q => q.elim (nIn hi) (fun q => by omega))]
theorem a255 (v : Int32) : v &&& 255 = nI (by8 v) := by
  apply Int32.toBitVec_inj.mp
  rw [Int32.toBitVec_and]
  apply BitVec.eq_of_toNat_eq
  rw [BitVec.toNat_and]
  have e : (255 : Int32).toBitVec.toNat = 2 ^ 8 - 1 := by decide
  rw [e, Nat.and_two_pow_sub_one_eq_mod]
  have e2 : (nI (by8 v)).toBitVec.toNat = by8 v := by
    show (BitVec.ofNat 32 (by8 v)).toNat = by8 v
    rw [BitVec.toNat_ofNat]
    exact Nat.mod_eq_of_lt (by have := by8_lt v; omega)
  rw [e2]
  rfl
theorem byA_l {l m : List Nat} {i : Nat} (h : i < l.length) : byA (l ++ m) i = byA l i := by
  unfold byA
  rw [List.getD_eq_getElem?_getD, List.getD_eq_getElem?_getD, List.getElem?_append_left h]
theorem byA_r {l m : List Nat} {i : Nat} (h : l.length ≤ i) : byA (l ++ m) i = byA m (i - l.length) := by
  unfold byA
  rw [List.getD_eq_getElem?_getD, List.getD_eq_getElem?_getD, List.getElem?_append_right h]
/-! ===== the reference's row of bytes that are laid ===== -/
def sl (M : vM) (l : List Nat) : vM := (fun f => if f = 45 then nI l.length else M.1 f, fun j i => if j = 38 ∧ i < l.length then nI (byA l i) else M.2 j i)
theorem sl_0 (M : vM) : mW M 45 0 = sl M [] := by
  unfold mW sl
  refine Prod.ext (funext fun f => ?_) (funext fun j => funext fun i => ?_)
  · show (if f = 45 then (0 : Int32) else M.1 f) = if f = 45 then nI 0 else M.1 f
    rfl
  · show M.2 j i = if j = 38 ∧ i < 0 then _ else M.2 j i
    rw [if_neg (by omega)]
theorem sl_1 (M : vM) (l : List Nat) {f : Nat} (h : f ≠ 45) : (sl M l).1 f = M.1 f := if_neg h
theorem sl_45 (M : vM) (l : List Nat) : (sl M l).1 45 = nI l.length := by
  show (if 45 = 45 then nI l.length else M.1 45) = _
  exact if_pos rfl
theorem sl_2 (M : vM) (l : List Nat) {j : Nat} (i : Nat) (h : j ≠ 38) : (sl M l).2 j i = M.2 j i := if_neg (fun q => h q.1)
theorem sl_38 (M : vM) (l : List Nat) {i : Nat} (h : i < l.length) : (sl M l).2 38 i = nI (byA l i) := if_pos ⟨rfl, h⟩
theorem e_lay {M : vM} {l : List Nat} (v : Int32) (h : l.length < 2400) : F_X12_lay (sl M l) v = some (sl M (l ++ [by8 v])) := by
  unfold F_X12_lay
  rw [sl_45, mSv (show l.length < mL 38 from h) (by omega)]
  show some (mW ((sl M l).1, vi_u2 (sl M l).2 38 l.length (v &&& 255)) 45 ((sl M l).1 45 + 1)) = _
  congr 1
  unfold mW
  refine Prod.ext (funext fun f => ?_) (funext fun j => funext fun i => ?_)
  · show (if f = 45 then (sl M l).1 45 + nI 1 else (sl M l).1 f) = if f = 45 then nI (l ++ [by8 v]).length else M.1 f
    by_cases e : f = 45
    · rw [if_pos e, if_pos e, sl_45, nI_add, List.length_append]; rfl
    · rw [if_neg e, if_neg e, sl_1 _ _ e]
  · show vi_u2 (sl M l).2 38 l.length (v &&& 255) j i = if j = 38 ∧ i < (l ++ [by8 v]).length then nI (byA (l ++ [by8 v]) i) else M.2 j i
    rw [List.length_append]
    by_cases e : j = 38
    · subst e
      by_cases e2 : i = l.length
      · subst e2
        rw [vi_u2s, if_pos ⟨rfl, by simp⟩, byA_r (Nat.le_refl _), Nat.sub_self, a255]; rfl
      · rw [vi_u2a _ _ e2]
        by_cases e3 : i < l.length
        · rw [sl_38 _ _ e3, if_pos ⟨rfl, by omega⟩, byA_l e3]
        · show (if 38 = 38 ∧ i < l.length then nI (byA l i) else M.2 38 i) = _
          rw [if_neg (fun q => e3 q.2), if_neg (fun q => by have := q.2; simp at this; omega)]
    · rw [vi_u2i _ _ e, sl_2 _ _ _ e, if_neg (fun q => e q.1)]
/-- a number in groups of seven bits, the low ones first -/
def encU (n : Nat) : List Nat := if h : n ≤ 127 then [n] else (n % 128 + 128) :: encU (n / 128)
termination_by n
decreasing_by omega
theorem encU_s {n : Nat} (h : n ≤ 127) : encU n = [n] := by rw [encU, dif_pos h]
theorem encU_b {n : Nat} (h : ¬ n ≤ 127) : encU n = (n % 128 + 128) :: encU (n / 128) := by rw [encU, dif_neg h]
theorem encU_len {n : Nat} (h : n < 2 ^ 31) : (encU n).length ≤ 5 := by
  have h1 : ∀ k n, n < 2 ^ (7 * k + 7) → (encU n).length ≤ k + 1 := by
    intro k
    induction k with
    | zero => intro n hn; rw [encU_s (by omega)]; simp
    | succ k ih =>
      intro n hn
      by_cases e : n ≤ 127
      · rw [encU_s e]; simp
      · rw [encU_b e, List.length_cons]
        have := ih (n / 128) (by rw [Nat.div_lt_iff_lt_mul (by decide)]; rw [show 7 * (k + 1) + 7 = 7 * k + 7 + 7 by omega, Nat.pow_add] at hn; exact hn)
        omega
  exact h1 4 n (by omega)
theorem e_layU_l {M : vM} : ∀ (f n : Nat) (l : List Nat), n < 2 ^ 31 → n < 2 ^ (7 * f) → l.length + (encU n).length ≤ 2400 → L_X12_layU_2 (fun (M3 : vM) (l4 : Int32) => (F_X12_lay M3 (l4)).bind fun M5 => some M5) (f + 1) (sl M l) (nI n) = some (sl M (l ++ encU n)) := by
  intro f
  induction f with
  | zero =>
    intro n l h1 h2 h3
    rw [L_X12_layU_2, if_pos (show nI n ≤ (127 : Int32) from nI_le (b := 127) (by omega) (by decide))]
    rw [encU_s (by omega)] at h3 ⊢
    rw [e_lay _ (by simp at h3; omega), by8_n (by omega)]; rfl
  | succ f ih =>
    intro n l h1 h2 h3
    rw [L_X12_layU_2]
    by_cases e : n ≤ 127
    · rw [if_pos (show nI n ≤ (127 : Int32) from nI_le (b := 127) e (by decide))]
      rw [encU_s e] at h3 ⊢
      rw [e_lay _ (by simp at h3; omega), by8_n (by omega)]; rfl
    · rw [if_neg (show ¬ nI n ≤ (127 : Int32) from fun q => e ((nI_leI (b := 127) h1 (by decide)).mp q))]
      have er : nI n - nI n / (128 : Int32) * (128 : Int32) = nI (n % 128) := nI_rem (b := 128) h1 (by decide)
      have ed : nI n / (128 : Int32) = nI (n / 128) := nI_div (b := 128) h1 (by decide)
      rw [encU_b e] at h3 ⊢
      rw [List.length_cons] at h3
      rw [er, ed, show nI (n % 128) + (128 : Int32) = nI (n % 128 + 128) from nI_add _ 128, e_lay _ (by omega), by8_n (by omega)]
      show L_X12_layU_2 _ (f + 1) (sl M (l ++ [n % 128 + 128])) (nI (n / 128)) = _
      rw [ih (n / 128) (l ++ [n % 128 + 128]) (by omega) (by rw [Nat.div_lt_iff_lt_mul (by decide)]; rw [show 7 * (f + 1) = 7 * f + 7 by omega, Nat.pow_add] at h2; exact h2) (by rw [List.length_append]; simp; omega), List.append_assoc]
      rfl
theorem e_layU {M : vM} {l : List Nat} {n : Nat} (h : n < 2 ^ 31) (hl : l.length + 5 ≤ 2400) : F_X12_layU (sl M l) (nI n) = some (sl M (l ++ encU n)) := by
  have hl2 := encU_len h
  have := e_layU_l (M := M) 32767 n l h (Nat.lt_of_lt_of_le h (Nat.pow_le_pow_right (by decide) (by decide))) (by omega)
  unfold F_X12_layU
  rw [show fu = 32767 + 1 from rfl]
  exact this
