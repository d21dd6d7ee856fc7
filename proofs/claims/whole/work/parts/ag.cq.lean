/-! ===== the class reads bytes again ===== -/
theorem nI_or {a b : Nat} : nI a ||| nI b = nI (a ||| b) := by
  apply Int32.toBitVec_inj.mp
  rw [Int32.toBitVec_or]
  show BitVec.ofNat 32 a ||| BitVec.ofNat 32 b = BitVec.ofNat 32 (a ||| b)
  apply BitVec.eq_of_toNat_eq
  rw [BitVec.toNat_or, BitVec.toNat_ofNat, BitVec.toNat_ofNat, BitVec.toNat_ofNat, ← Nat.or_mod_two_pow]
theorem nI_shl {a k : Nat} (hk : k < 32) : nI a <<< (nI k &&& 31) = nI (a * 2 ^ k) := by
  have hs : ∀ k : Fin 32, ((nI k.1 &&& 31).toBitVec.smod 32).toNat = k.1 := by decide
  apply Int32.toBitVec_inj.mp
  rw [Int32.toBitVec_shiftLeft, BitVec.shiftLeft_eq', hs ⟨k, hk⟩]
  apply BitVec.eq_of_toNat_eq
  show (BitVec.ofNat 32 a <<< k).toNat = (BitVec.ofNat 32 (a * 2 ^ k)).toNat
  rw [BitVec.toNat_shiftLeft, BitVec.toNat_ofNat, BitVec.toNat_ofNat, Nat.shiftLeft_eq, Nat.mod_mul_mod]
theorem or_add {a b k : Nat} (h : b < 2 ^ k) : a * 2 ^ k ||| b = a * 2 ^ k + b := by
  rw [Nat.mul_comm, ← Nat.two_pow_add_eq_or_of_lt h]
theorem or_add2 {a b k : Nat} (h : b < 2 ^ k) : b ||| a * 2 ^ k = b + a * 2 ^ k := by
  rw [Nat.or_comm, or_add h, Nat.add_comm]
theorem by8_shr (v : Int32) (k : Nat) (hk : k = 0 ∨ k = 8 ∨ k = 16 ∨ k = 24) : by8 (shr v (nI k)) = v.toBitVec.toNat / 2 ^ k % 256 := by
  unfold by8 shr
  have hs : ∀ k : Fin 32, (((nI k.1).toUInt32 &&& Int32.toUInt32 31).toBitVec % 32).toNat = k.1 := by decide
  show (v.toBitVec >>> (((nI k).toUInt32 &&& Int32.toUInt32 31).toBitVec % 32)).toNat % 256 = _
  rw [BitVec.ushiftRight_eq', BitVec.toNat_ushiftRight, hs ⟨k, by omega⟩, Nat.shiftRight_eq_div_pow]
theorem nI_self (v : Int32) : nI v.toBitVec.toNat = v := by
  apply Int32.toBitVec_inj.mp
  apply BitVec.eq_of_toNat_eq
  rw [nI_tn v.toBitVec.isLt]
def rdA (c : vC) (l : List Nat) (n : Nat) : Prop := inB c 1 l ∧ cI c 2 1 = nI n ∧ n < 2 ^ 30
theorem rdA_u {c : vC} {l : List Nat} {n m : Nat} (h : rdA c l n) (hm : m < 2 ^ 30) : rdA (uI c 2 1 (nI m)) l m := by
  obtain ⟨⟨a, b, d, e⟩, f, g⟩ := h
  exact ⟨⟨by rw [uI_f _ _ _ (by decide)]; exact a, b, d, e⟩, uI_s _ _ _ _, hm⟩
theorem uI_uI (c : vC) (f i : Nat) (a b : Int32) : uI (uI c f i a) f i b = uI c f i b := by
  refine vC_ext (fun g j => ?_) rfl (fun _ _ _ => rfl) rfl rfl rfl rfl rfl rfl
  by_cases e : g = f ∧ j = i
  · obtain ⟨rfl, rfl⟩ := e
    rw [uI_s, uI_s]
  · rw [uI_o _ _ e, uI_o _ _ e, uI_o _ _ e]
theorem e_take {N : Nat} {c : vC} {l : List Nat} {n : Nat} (h : rdA c l n) : F_X0_take N c 1 = some (uI c 2 1 (nI (n + 1)), nI (byA l n)) := by
  obtain ⟨a, b, d⟩ := h
  unfold F_X0_take
  rw [b, e_byteAt' a (by omega), b2_, l1_, b, nI_add1]
/-- a stretch of bytes from a place on -/
def Dr (l : List Nat) (n : Nat) (x : List Nat) : Prop := ∀ k, k < x.length → byA l (n + k) = byA x k
theorem Dr.a {l x y : List Nat} {n : Nat} (h : Dr l n (x ++ y)) : Dr l n x := fun k hk => by
  rw [h k (by rw [List.length_append]; omega)]
  unfold byA
  rw [List.getD_eq_getElem?_getD, List.getD_eq_getElem?_getD, List.getElem?_append_left hk]
theorem Dr.b {l x y : List Nat} {n : Nat} (h : Dr l n (x ++ y)) : Dr l (n + x.length) y := fun k hk => by
  have := h (x.length + k) (by rw [List.length_append]; omega)
  rw [← Nat.add_assoc] at this
  rw [this]
  unfold byA
  rw [List.getD_eq_getElem?_getD, List.getD_eq_getElem?_getD, List.getElem?_append_right (by omega), show x.length + k - x.length = k by omega]
theorem Dr.hd {l x : List Nat} {n b : Nat} (h : Dr l n (b :: x)) : byA l n = b := h 0 (Nat.zero_lt_succ _)
theorem Dr.tl {l x : List Nat} {n b : Nat} (h : Dr l n (b :: x)) : Dr l (n + 1) x := fun k hk => by
  have := h (k + 1) (by rw [List.length_cons]; omega)
  rw [show n + 1 + k = n + (k + 1) by omega, this]; rfl
theorem e_takeTwo {N : Nat} {c : vC} {l : List Nat} {n w : Nat} (h : rdA c l n) (hn : n + 2 < 2 ^ 30) (hw : w < 65536) (hd : Dr l n (be2 (nI w))) : F_X0_takeTwo N c 1 = some (uI c 2 1 (nI (n + 2)), nI w) := by
  have h1 := rdA_u (m := n + 1) h (by omega)
  have b0 : byA l n = w / 256 := by
    have := hd.hd
    rw [this, show by8 (shr (nI w) 8) = _ from by8_shr (nI w) 8 (by decide), nI_tn (by omega)]
    omega
  have b1 : byA l (n + 1) = w % 256 := by
    have := hd.tl.hd
    rw [this]
    show by8 (nI w) = _
    unfold by8
    rw [nI_tn (by omega)]
  unfold F_X0_takeTwo
  rw [e_take h, b2_, e_take h1, b2_, uI_uI, b0, b1, show nI (w / 256) <<< ((8 : Int32) &&& 31) = nI (w / 256 * 2 ^ 8) from nI_shl (k := 8) (by decide), nI_or, or_add (show w % 256 < 2 ^ 8 by omega), show w / 256 * 2 ^ 8 + w % 256 = w by omega]
theorem e_takeFour {N : Nat} {c : vC} {l : List Nat} {n : Nat} {v : Int32} (h : rdA c l n) (hn : n + 4 < 2 ^ 30) (hd : Dr l n (be4 v)) : F_X0_takeFour N c 1 = some (uI c 2 1 (nI (n + 4)), v) := by
  have h1 := rdA_u (m := n + 1) h (by omega)
  have h2 := rdA_u (m := n + 2) h (by omega)
  have h3 := rdA_u (m := n + 3) h (by omega)
  have hv := v.toBitVec.isLt
  have b0 : byA l n = v.toBitVec.toNat / 2 ^ 24 % 256 := by rw [hd.hd]; exact by8_shr _ 24 (by decide)
  have b1 : byA l (n + 1) = v.toBitVec.toNat / 2 ^ 16 % 256 := by rw [hd.tl.hd]; exact by8_shr _ 16 (by decide)
  have b2' : byA l (n + 1 + 1) = v.toBitVec.toNat / 2 ^ 8 % 256 := by rw [hd.tl.tl.hd]; exact by8_shr _ 8 (by decide)
  have b3 : byA l (n + 1 + 1 + 1) = v.toBitVec.toNat / 2 ^ 0 % 256 := by rw [hd.tl.tl.tl.hd]; exact by8_shr _ 0 (by decide)
  have st : ∀ f (c' : vC) (m : Nat) (acc j : Nat) (kx : vC → Int32 → Option (vC × Int32)), rdA c' l m → j < 4 → byA l m < 256 → L_X0_takeFour_4 N 1 kx (f + 1) c' (nI acc) (nI j) = L_X0_takeFour_4 N 1 kx f (uI c' 2 1 (nI (m + 1))) (nI (acc * 2 ^ 8 + byA l m)) (nI (j + 1)) := by
    intro f c' m acc j kx hr hj hb
    rw [L_X0_takeFour_4, if_neg (show ¬ (4 : Int32) ≤ nI j from nI_ge (b := 4) hj (by decide)), e_take hr, b2_, show nI acc <<< ((8 : Int32) &&& 31) = nI (acc * 2 ^ 8) from nI_shl (k := 8) (by decide), nI_or, or_add (show byA l m < 2 ^ 8 from hb), nI_add1]
  unfold F_X0_takeFour
  rw [show fu = 32763 + 1 + 1 + 1 + 1 + 1 from rfl, ← nI_0, st _ c n 0 0 _ h (by decide) (by rw [b0]; omega), st _ _ (n + 1) _ (0 + 1) _ h1 (by decide) (by rw [b1]; omega), uI_uI, st _ _ (n + 2) _ (0 + 1 + 1) _ h2 (by decide) (by rw [show n + 2 = n + 1 + 1 from rfl, b2']; omega), uI_uI, st _ _ (n + 3) _ (0 + 1 + 1 + 1) _ h3 (by decide) (by rw [show n + 3 = n + 1 + 1 + 1 from rfl, b3]; omega), uI_uI, L_X0_takeFour_4, if_pos (show (4 : Int32) ≤ nI (0 + 1 + 1 + 1 + 1) by decide)]
  rw [show n + 2 = n + 1 + 1 from rfl, show n + 3 = n + 1 + 1 + 1 from rfl, b0, b1, b2', b3]
  congr 2
  have : (((0 * 2 ^ 8 + v.toBitVec.toNat / 2 ^ 24 % 256) * 2 ^ 8 + v.toBitVec.toNat / 2 ^ 16 % 256) * 2 ^ 8 + v.toBitVec.toNat / 2 ^ 8 % 256) * 2 ^ 8 + v.toBitVec.toNat / 2 ^ 0 % 256 = v.toBitVec.toNat := by omega
  rw [this, nI_self]
theorem q_takeU {ρ : Type} {N : Nat} {l : List Nat} {kx31 kx40 : vC → Int32 → Option ρ} : ∀ (d v sh acc n f : Nat) (c : vC), rdA c l n → n + 2 * d + 10 < 2 ^ 30 → sh + 7 * d = 28 → v < 2 ^ (31 - sh) → d < f → acc < 2 ^ sh → Dr l n (encU v) → L_X0_takeU_4 N 1 kx31 kx40 f c (nI acc) (nI sh) = kx31 (uI c 2 1 (nI (n + (encU v).length))) (nI (acc + v * 2 ^ sh)) := by
  intro d
  induction d with
  | zero =>
    intro v sh acc n f c h hn hs hv hf ha hd
    obtain ⟨f, rfl⟩ : ∃ f', f = f' + 1 := ⟨f - 1, by omega⟩
    obtain rfl : sh = 28 := by omega
    have hv8 : v < 8 := hv
    rw [encU_s (by omega)] at hd ⊢
    rw [L_X0_takeU_4, if_neg (show ¬ (35 : Int32) ≤ nI 28 by decide), e_take h, b2_, hd.hd, if_neg (show ¬ (128 : Int32) ≤ nI v from nI_ge (b := 128) (by omega) (by decide)), show nI v &&& (127 : Int32) = nI (v &&& 127) from nI_and (b := 127), show v &&& 127 = v % 128 from Nat.and_two_pow_sub_one_eq_mod v 7, Nat.mod_eq_of_lt (show v < 128 by omega), nI_shl (by decide), nI_or, or_add2 ha]
    rfl
  | succ d ih =>
    intro v sh acc n f c h hn hs hv hf ha hd
    obtain ⟨f, rfl⟩ : ∃ f', f = f' + 1 := ⟨f - 1, by omega⟩
    have hsh : sh ≤ 21 := by omega
    have h35 : ¬ (35 : Int32) ≤ nI sh := nI_ge (b := 35) (by omega) (by decide)
    by_cases c1 : v ≤ 127
    · rw [encU_s c1] at hd ⊢
      rw [L_X0_takeU_4, if_neg h35, e_take h, b2_, hd.hd, if_neg (show ¬ (128 : Int32) ≤ nI v from nI_ge (b := 128) (by omega) (by decide)), show nI v &&& (127 : Int32) = nI (v &&& 127) from nI_and (b := 127), show v &&& 127 = v % 128 from Nat.and_two_pow_sub_one_eq_mod v 7, Nat.mod_eq_of_lt (show v < 128 by omega), nI_shl (by omega), nI_or, or_add2 ha]
      rfl
    · rw [encU_b c1] at hd ⊢
      have hvd : v / 128 < 2 ^ (31 - (sh + 7)) := by
        rw [Nat.div_lt_iff_lt_mul (by decide)]
        rw [show (128 : Nat) = 2 ^ 7 from rfl, ← Nat.pow_add, show 31 - (sh + 7) + 7 = 31 - sh by omega]
        exact hv
      have ha' : acc + v % 128 * 2 ^ sh < 2 ^ (sh + 7) := by
        have h1 : v % 128 ≤ 127 := by omega
        have h2 : v % 128 * 2 ^ sh ≤ 127 * 2 ^ sh := Nat.mul_le_mul_right _ h1
        rw [Nat.pow_add, show (2 : Nat) ^ 7 = 128 from rfl]
        omega
      rw [L_X0_takeU_4, if_neg h35, e_take h, b2_, hd.hd, if_pos (show (128 : Int32) ≤ nI (v % 128 + 128) from nI_le (a := 128) (by omega) (by omega)), show nI (v % 128 + 128) &&& (127 : Int32) = nI ((v % 128 + 128) &&& 127) from nI_and (b := 127), show (v % 128 + 128) &&& 127 = (v % 128 + 128) % 128 from Nat.and_two_pow_sub_one_eq_mod _ 7, show (v % 128 + 128) % 128 = v % 128 by omega, nI_shl (by omega), nI_or, or_add2 ha, show nI sh + (7 : Int32) = nI (sh + 7) from nI_add sh 7]
      rw [ih (v / 128) (sh + 7) (acc + v % 128 * 2 ^ sh) (n + 1) f _ (rdA_u h (by omega)) (by omega) (by omega) hvd (by omega) ha' hd.tl, uI_uI, List.length_cons, show n + 1 + (encU (v / 128)).length = n + ((encU (v / 128)).length + 1) by omega]
      congr 2
      have e := Nat.div_add_mod v 128
      rw [Nat.pow_add, show (2 : Nat) ^ 7 = 128 from rfl]
      have : v * 2 ^ sh = (128 * (v / 128) + v % 128) * 2 ^ sh := by rw [e]
      rw [this, Nat.add_mul, Nat.mul_comm (2 ^ sh) 128, ← Nat.mul_assoc, Nat.mul_comm (v / 128) 128]
      omega
theorem e_takeU {N : Nat} {c : vC} {l : List Nat} {n v : Nat} (h : rdA c l n) (hn : n < 4000) (hv : v < 2 ^ 31) (hd : Dr l n (encU v)) : F_X0_takeU N c 1 = some (uI c 2 1 (nI (n + (encU v).length)), nI v) := by
  unfold F_X0_takeU
  rw [← nI_0, q_takeU 4 v 0 0 n fu c h (by omega) rfl hv (by decide) (by decide) hd]
  congr 3
  omega
