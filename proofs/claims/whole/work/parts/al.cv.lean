/-! ===== the class reads its disk ===== -/
theorem lN_32 (m : Nat) : (lN m).toInt32 = nI m := by
  apply Int32.toBitVec_inj.mp
  show (BitVec.ofNat 64 m).signExtend 32 = BitVec.ofNat 32 m
  apply BitVec.eq_of_getLsbD_eq
  intro i hi
  rw [BitVec.getLsbD_signExtend, if_pos (by omega), BitVec.getLsbD_ofNat, BitVec.getLsbD_ofNat, decide_eq_true hi, decide_eq_true (show i < 64 by omega)]
  simp
theorem e_dByte {N : Nat} {c : vC} {r a : Nat} (ha : a < 32768) : F_X2_byteAt N c r (nI a) = some (c, nI (dk (cJ c r) a)) := by
  have e3 : nI a >>> ((3 : Int32) &&& 31) = nI (a / 8) := pk_shrN (n := a) (by omega) _ 3 (by decide)
  have e5 : (56 : Int32) - 8 * (nI a &&& 7) = nI (56 - 8 * (a % 8)) := by rw [pk_andN (n := a) (by omega) 3 rfl, show (8 : Int32) = nI 8 from rfl, pk_mul, show (56 : Int32) = nI 56 from rfl, pk_sub (by omega)]
  have g1 : cGJ c r (nI (a / 8)) = some (cJ c r (a / 8)) := by
    unfold cGJ
    rw [nIt (by omega), if_neg (fun q => q.elim (nIn (by omega)) (fun q => by omega))]
  unfold F_X2_byteAt
  rw [e3, if_neg (nIn (by omega)), if_pos (show nI (a / 8) < Int32.ofNat (al 200) from Int32.not_le.mp (nI_ge (b := 4096) (by omega) (by decide))), g1, Option.bind_some, e5]
  obtain ⟨n, hn, e⟩ := wb_of (cJ c r (a / 8))
  unfold dk
  rw [e, wb_shr hn (by omega), lN_32, jb_lN hn, show nI (n / 2 ^ (56 - 8 * (a % 8))) &&& (255 : Int32) = nI (n / 2 ^ (56 - 8 * (a % 8)) &&& 255) from nI_and (b := 255), show n / 2 ^ (56 - 8 * (a % 8)) &&& 255 = n / 2 ^ (56 - 8 * (a % 8)) % 256 from Nat.and_two_pow_sub_one_eq_mod _ 8]
theorem dk_lt (J : Nat → Int64) (a : Nat) : dk J a < 256 := jb_lt _ _
theorem e_dTwo {N : Nat} {c : vC} {r a : Nat} (ha : a + 1 < 32768) : F_X2_twoLowFirst N c r (nI a) = some (c, nI (dk (cJ c r) (a + 1) * 2 ^ 8 + dk (cJ c r) a)) := by
  have h0 := dk_lt (cJ c r) a
  unfold F_X2_twoLowFirst
  rw [e_dByte (by omega), b2_, nI_add1, e_dByte ha, b2_, show nI (dk (cJ c r) (a + 1)) <<< ((8 : Int32) &&& 31) = nI (dk (cJ c r) (a + 1) * 2 ^ 8) from nI_shl (k := 8) (by decide), nI_or, or_add2 (show dk (cJ c r) a < 2 ^ 8 from h0), Nat.add_comm]
theorem e_dFour {N : Nat} {c : vC} {r a : Nat} (ha : a + 3 < 32768) : F_X2_fourLowFirst N c r (nI a) = some (c, nI ((dk (cJ c r) (a + 3) * 2 ^ 8 + dk (cJ c r) (a + 2)) * 2 ^ 16 + (dk (cJ c r) (a + 1) * 2 ^ 8 + dk (cJ c r) a))) := by
  have h0 := dk_lt (cJ c r) a
  have h1 := dk_lt (cJ c r) (a + 1)
  unfold F_X2_fourLowFirst
  rw [e_dTwo (by omega), b2_, show nI a + (2 : Int32) = nI (a + 2) from nI_add a 2, e_dTwo (by omega), b2_, show nI (dk (cJ c r) (a + 2 + 1) * 2 ^ 8 + dk (cJ c r) (a + 2)) <<< ((16 : Int32) &&& 31) = nI ((dk (cJ c r) (a + 2 + 1) * 2 ^ 8 + dk (cJ c r) (a + 2)) * 2 ^ 16) from nI_shl (k := 16) (by decide), nI_or, or_add2 (show dk (cJ c r) (a + 1) * 2 ^ 8 + dk (cJ c r) a < 2 ^ 16 by omega), Nat.add_comm (dk (cJ c r) (a + 1) * 2 ^ 8 + dk (cJ c r) a)]
/-- bytes on a disk -/
def Dk (J : Nat → Int64) (a : Nat) (x : List Nat) : Prop := ∀ k, k < x.length → dk J (a + k) = byA x k
theorem Dk.a {J : Nat → Int64} {x y : List Nat} {n : Nat} (h : Dk J n (x ++ y)) : Dk J n x := fun k hk => by
  rw [h k (by rw [List.length_append]; omega)]
  unfold byA
  rw [List.getD_eq_getElem?_getD, List.getD_eq_getElem?_getD, List.getElem?_append_left hk]
theorem Dk.b {J : Nat → Int64} {x y : List Nat} {n : Nat} (h : Dk J n (x ++ y)) : Dk J (n + x.length) y := fun k hk => by
  have := h (x.length + k) (by rw [List.length_append]; omega)
  rw [← Nat.add_assoc] at this
  rw [this]
  unfold byA
  rw [List.getD_eq_getElem?_getD, List.getD_eq_getElem?_getD, List.getElem?_append_right (by omega), show x.length + k - x.length = k by omega]
theorem le4_v (v : Int32) : nI ((by8 (shr v 24) * 2 ^ 8 + by8 (shr v 16)) * 2 ^ 16 + (by8 (shr v 8) * 2 ^ 8 + by8 (shr v 0))) = v := by
  have hv := v.toBitVec.isLt
  rw [show by8 (shr v 24) = _ from by8_shr v 24 (by decide), show by8 (shr v 16) = _ from by8_shr v 16 (by decide), show by8 (shr v 8) = _ from by8_shr v 8 (by decide), show by8 (shr v 0) = _ from by8_shr v 0 (by decide)]
  have : (v.toBitVec.toNat / 2 ^ 24 % 256 * 2 ^ 8 + v.toBitVec.toNat / 2 ^ 16 % 256) * 2 ^ 16 + (v.toBitVec.toNat / 2 ^ 8 % 256 * 2 ^ 8 + v.toBitVec.toNat / 2 ^ 0 % 256) = v.toBitVec.toNat := by omega
  rw [this, nI_self]
theorem q_dck {ρ : Type} {N : Nat} {c : vC} {r a : Nat} {x : List Nat} {kx : vC → Int32 → Option ρ} (hd : Dk (cJ c r) a x) (ha : a + x.length < 32768) : ∀ (d k f : Nat) (ck : Int32), k + d = x.length → d < f → L_X2_isChecked_5 N r (nI a) (nI x.length) kx f c ck (nI k) = kx c (crcL ck (x.drop k)) := by
  intro d
  induction d with
  | zero =>
    intro k f ck h1 h2
    obtain ⟨f, rfl⟩ : ∃ f', f = f' + 1 := ⟨f - 1, by omega⟩
    rw [L_X2_isChecked_5, if_pos (nI_le (by omega) (by omega)), List.drop_eq_nil_of_le (by omega)]; rfl
  | succ d ih =>
    intro k f ck h1 h2
    obtain ⟨f, rfl⟩ : ∃ f', f = f' + 1 := ⟨f - 1, by omega⟩
    rw [L_X2_isChecked_5, if_neg (nI_ge (show k < x.length by omega) (by omega)), nI_add, e_dByte (by omega), b2_, hd k (by omega), e_checkStep, b2_, nI_add1, ih (k + 1) f _ (by omega) (by omega), drop_byA (show k < x.length by omega)]; rfl
theorem e_dck {N : Nat} {c : vC} {r a : Nat} {x : List Nat} (hd : Dk (cJ c r) a (x ++ le4 (chk x))) (ha : a + x.length + 4 < 32768) : F_X2_isChecked N c r (nI a) (nI x.length) = some (c, 1) := by
  have hb := hd.b
  have b0 : dk (cJ c r) (a + x.length) = by8 (shr (chk x) 0) := hb 0 (show 0 < 4 by decide)
  have b1 : dk (cJ c r) (a + x.length + 1) = by8 (shr (chk x) 8) := hb 1 (show 1 < 4 by decide)
  have b2' : dk (cJ c r) (a + x.length + 2) = by8 (shr (chk x) 16) := hb 2 (show 2 < 4 by decide)
  have b3 : dk (cJ c r) (a + x.length + 3) = by8 (shr (chk x) 24) := hb 3 (show 3 < 4 by decide)
  unfold F_X2_isChecked
  rw [← nI_0, q_dck hd.a (by omega) x.length 0 fu (-1) (by omega) (by show _ < 32768; omega), List.drop_zero, nI_add, e_dFour (by omega), b2_, b0, b1, b2', b3, le4_v, if_pos (show crcL (-1) x ^^^ (-1) = chk x from rfl), zb1]
theorem q_rn {ρ : Type} {N : Nat} {c : vC} {r a : Nat} {l4 l5 : Int32} {x : List Nat} {kx : vC → Option ρ} (hb : Bts x) (hd : Dk (cJ c r) (a + 2) x) (ha : a + 2 + x.length < 32768) (hx : x.length ≤ 2048) (e4 : l4 = nI x.length) : ∀ (d k f : Nat), k + d = x.length → d < f → L_X2_readNext_82 N r 1 (nI a) l4 l5 kx f (sB c 1 (x.take k)) (nI k) = kx (sB c 1 x) := by
  subst e4
  intro d
  induction d with
  | zero =>
    intro k f h1 h2
    obtain ⟨f, rfl⟩ : ∃ f', f = f' + 1 := ⟨f - 1, by omega⟩
    rw [L_X2_readNext_82, if_pos (nI_le (by omega) (by omega)), List.take_of_length_le (by omega)]
  | succ d ih =>
    intro k f h1 h2
    obtain ⟨f, rfl⟩ : ∃ f', f = f' + 1 := ⟨f - 1, by omega⟩
    have hk : k < x.length := by omega
    have e : cJ (sB c 1 (x.take k)) r = cJ c r := rfl
    rw [L_X2_readNext_82, if_neg (nI_ge hk (by omega)), show nI a + (2 : Int32) = nI (a + 2) from nI_add a 2, nI_add, e_dByte (by omega), b2_, e, hd k hk, e_put _ (by rw [List.length_take]; omega), Option.bind_some, nI_add1, by8_n (byA_lt hb k), show x.take k ++ [byA x k] = x.take (k + 1) from by
      rw [List.take_add_one]
      unfold byA
      rw [List.getD_eq_getElem?_getD, List.getElem?_eq_getElem hk]; rfl]
    exact ih (k + 1) f (by omega) (by omega)
/-- the next record -/
theorem e_readNext {N : Nat} {c : vC} {r h u : Nat} {x : List Nat} (hb : Bts x) (hx1 : 1 ≤ x.length) (hx : x.length ≤ 198) (hh : h ≤ 1) (hu : u ≤ 12000) (e9 : cI c 209 r = nI h) (e7 : cI c 207 r = nI u) (hd : Dk (cJ c r) (y_hs h + u) (recL x)) : F_X2_readNext N c r 1 = some (uI (uI (sB (uI c 2 1 0) 1 x) 207 r (nI (u + (recL x).length))) 206 r (cI c 206 r + 1), 1) := by
  have hl := recL_len x
  have hhs : y_hs h ≤ 16896 := by unfold y_hs; split <;> omega
  have hr : recL x = recZ x ++ (le4 (chk (recZ x)) ++ (if x.length % 2 = 1 then [0] else [])) := rfl
  have hzl : (recZ x).length = x.length + 2 := by unfold recZ; simp
  have hd1 : Dk (cJ c r) (y_hs h + u) (recZ x ++ le4 (chk (recZ x))) := by
    rw [hr, ← List.append_assoc] at hd; exact hd.a
  have b0 : dk (cJ c r) (y_hs h + u) = x.length % 256 := hd1 0 (by rw [List.length_append, hzl]; omega)
  have b1 : dk (cJ c r) (y_hs h + u + 1) = x.length / 256 := hd1 1 (by rw [List.length_append, hzl]; omega)
  have hd2 : Dk (cJ c r) (y_hs h + u + 2) x := fun k hk => by
    have := hd1.a (k + 2) (by rw [hzl]; omega)
    rw [show y_hs h + u + 2 + k = y_hs h + u + (k + 2) by omega, this]; rfl
  unfold F_X2_readNext
  rw [e7, show (15872 : Int32) - nI u = nI (15872 - u) from nI_sub (a := 15872) (by omega), if_pos (show (2 : Int32) ≤ nI (15872 - u) from nI_le (a := 2) (by omega) (by omega)), e9]
  have es : F_X2_startOf N c (nI h) = some (c, nI (y_hs h)) := by
    have : h = 0 ∨ h = 1 := by omega
    rcases this with rfl | rfl
    · rfl
    · rfl
  rw [es, b2_, e7, nI_add, e_dTwo (by omega), b2_, b0, b1, show x.length / 256 * 2 ^ 8 + x.length % 256 = x.length by omega, if_neg (show ¬ nI x.length < (1 : Int32) from Int32.not_lt.mpr (nI_le (a := 1) hx1 (by omega))), nI_odd, show (2 : Int32) + nI x.length = nI (2 + x.length) from nI_add 2 _, show nI (2 + x.length) + (4 : Int32) = nI (2 + x.length + 4) from nI_add _ 4, nI_add, show 2 + x.length + 4 + x.length % 2 = (recL x).length by omega, if_neg (show ¬ nI (15872 - u) < nI (recL x).length from Int32.not_lt.mpr (nI_le (by omega) (by omega))), show 2 + x.length = (recZ x).length by omega, e_dck hd1 (by omega), b2_, if_neg (show ¬ (1 : Int32) = 0 by decide), e_clear, Option.bind_some]
  have hq := q_rn (N := N) (c := uI c 2 1 0) (r := r) (a := y_hs h + u) (l4 := nI x.length) (l5 := nI (recL x).length) (kx := fun (M12 : vC) => lt1 (uI M12 207 r (((cI M12 207 r) + nI (recL x).length))) fun M13 => lt1 (uI M13 206 r (((cI M13 206 r) + (1 : Int32)))) fun M14 => zb ((1 : Int32)) (some (M14, (1 : Int32)))) hb hd2 (by omega) (by omega) rfl x.length 0 fu (by omega) (by show _ < 32768; omega)
  rw [List.take_zero, nI_0] at hq
  rw [hq, l1_, l1_, zb1, uI_f _ _ _ (show 206 ≠ 207 by decide), sB_I _ _ _ _ (show 207 ≠ 1 by decide), sB_I _ _ _ _ (show 206 ≠ 1 by decide), uI_f _ _ _ (show 207 ≠ 2 by decide), uI_f _ _ _ (show 206 ≠ 2 by decide), e7, nI_add]
theorem e_readEnd {N : Nat} {c : vC} {r h u : Nat} (hh : h ≤ 1) (hu : u ≤ 12000) (e9 : cI c 209 r = nI h) (e7 : cI c 207 r = nI u) (b0 : dk (cJ c r) (y_hs h + u) = 0) (b1 : dk (cJ c r) (y_hs h + u + 1) = 0) : F_X2_readNext N c r 1 = some (c, 0) := by
  have hhs : y_hs h ≤ 16896 := by unfold y_hs; split <;> omega
  unfold F_X2_readNext
  rw [e7, show (15872 : Int32) - nI u = nI (15872 - u) from nI_sub (a := 15872) (by omega), if_pos (show (2 : Int32) ≤ nI (15872 - u) from nI_le (a := 2) (by omega) (by omega)), e9]
  have es : F_X2_startOf N c (nI h) = some (c, nI (y_hs h)) := by
    have : h = 0 ∨ h = 1 := by omega
    rcases this with rfl | rfl
    · rfl
    · rfl
  rw [es, b2_, e7, nI_add, e_dTwo (by omega), b2_, b0, b1, if_pos (show nI (0 * 2 ^ 8 + 0) < (1 : Int32) by decide), zb0]
