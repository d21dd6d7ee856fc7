/-! ===== loops that lay bytes ===== -/
theorem loop_app {ρ : Type} (g : Nat → vM → Int32 → Option ρ) (kx : vM → Option ρ) (M : vM) (n B : Nat) (enc : Nat → List Nat) (hB : ∀ k, (enc k).length ≤ B) (hexit : ∀ f l, g (f + 1) (sl M l) (nI n) = kx (sl M l)) (hstep : ∀ f k l, k < n → l.length + B ≤ 2400 → g (f + 1) (sl M l) (nI k) = g f (sl M (l ++ enc k)) (nI (k + 1))) :
    ∀ d k f l, k + d = n → d < f → l.length + B * d ≤ 2400 → g f (sl M l) (nI k) = kx (sl M (l ++ (List.range' k d).flatMap enc)) := by
  intro d
  induction d with
  | zero =>
    intro k f l h1 h2 h3
    obtain ⟨f, rfl⟩ : ∃ f', f = f' + 1 := ⟨f - 1, by omega⟩
    obtain rfl : k = n := by omega
    rw [hexit]
    simp
  | succ d ih =>
    intro k f l h1 h2 h3
    obtain ⟨f, rfl⟩ : ∃ f', f = f' + 1 := ⟨f - 1, by omega⟩
    have hb := hB k
    rw [Nat.mul_succ] at h3
    rw [hstep f k l (by omega) (by omega), ih (k + 1) f (l ++ enc k) (by omega) (by omega) (by rw [List.length_append]; omega)]
    rw [List.range'_succ, List.flatMap_cons, List.append_assoc]
theorem by8_bits {x y : Int32} (h : ∀ i, i < 8 → x.toBitVec.getLsbD i = y.toBitVec.getLsbD i) : by8 x = by8 y := by
  have e : x.toBitVec.setWidth 8 = y.toBitVec.setWidth 8 := by
    apply BitVec.eq_of_getLsbD_eq
    intro i hi
    rw [BitVec.getLsbD_setWidth, BitVec.getLsbD_setWidth, h i hi]
  have e2 := congrArg BitVec.toNat e
  rw [BitVec.toNat_setWidth, BitVec.toNat_setWidth] at e2
  exact e2
theorem sar_bit (v : Int32) (k : Nat) (hk : k ≤ 24) (s : Int32) (hs : (s.toBitVec.smod 32).toNat = k) (i : Nat) (hi : i + k < 32) : (v >>> s).toBitVec.getLsbD i = v.toBitVec.getLsbD (k + i) := by
  rw [Int32.toBitVec_shiftRight, BitVec.sshiftRight_eq', hs, BitVec.getLsbD_sshiftRight, if_pos (by omega)]
  have : decide (32 ≤ i) = false := by simp; omega
  rw [this]; rfl
theorem shr_bit (v : Int32) (k : Nat) (s : Int32) (hs : ((s.toUInt32 &&& Int32.toUInt32 31).toBitVec % 32).toNat = k) (i : Nat) : (shr v s).toBitVec.getLsbD i = v.toBitVec.getLsbD (k + i) := by
  show (v.toBitVec >>> ((s.toUInt32 &&& Int32.toUInt32 31).toBitVec % 32)).getLsbD i = _
  rw [BitVec.ushiftRight_eq', hs, BitVec.getLsbD_ushiftRight]
theorem sar8 (v : Int32) : by8 (v >>> ((8 : Int32) &&& 31)) = by8 (shr v 8) := by8_bits fun i hi => by
  rw [sar_bit v 8 (by decide) _ (by decide) i (by omega), shr_bit v 8 8 (by decide) i]
theorem sar16 (v : Int32) : by8 (v >>> ((16 : Int32) &&& 31)) = by8 (shr v 16) := by8_bits fun i hi => by
  rw [sar_bit v 16 (by decide) _ (by decide) i (by omega), shr_bit v 16 16 (by decide) i]
theorem sar24 (v : Int32) : by8 (shr (v >>> ((16 : Int32) &&& 31)) 8) = by8 (shr v 24) := by8_bits fun i hi => by
  rw [shr_bit _ 8 8 (by decide) i, sar_bit v 16 (by decide) _ (by decide) (8 + i) (by omega), shr_bit v 24 24 (by decide) i]
  congr 1
  omega
theorem shr0 (v : Int32) : by8 (shr v 0) = by8 v := by8_bits fun i hi => by
  rw [shr_bit v 0 0 (by decide) i]
  congr 1
  omega
theorem e_layTwo {M : vM} {l : List Nat} (v : Int32) (h : l.length + 2 ≤ 2400) : F_X12_layTwo (sl M l) v = some (sl M (l ++ be2 v)) := by
  unfold F_X12_layTwo
  rw [e_lay _ (by omega)]
  rw [Option.bind_some]
  rw [e_lay _ (by rw [List.length_append]; simp; omega), sar8, List.append_assoc]
  rfl
theorem e_layFour {M : vM} {l : List Nat} (v : Int32) (h : l.length + 4 ≤ 2400) : F_X12_layFour (sl M l) v = some (sl M (l ++ be4 v)) := by
  unfold F_X12_layFour
  rw [e_layTwo _ (by omega)]
  rw [Option.bind_some]
  rw [e_layTwo _ (by rw [List.length_append]; show l.length + 2 + 2 ≤ 2400; omega), List.append_assoc]
  unfold be2 be4
  rw [sar24, sar16, shr0]
  rfl
/-- is key k written -/
def wbit (w : Int32) (k : Nat) : Prop := ((w >>> (nI k &&& 31)) &&& (1 : Int32)) = (1 : Int32)
/-- the values of the written keys -/
def encV (w : Int32) (vs : Nat → Int32) (k : Nat) : List Nat := if ((w >>> (nI k &&& 31)) &&& (1 : Int32)) = (1 : Int32) then be4 (vs k) else []
theorem encV_len (w : Int32) (vs : Nat → Int32) (k : Nat) : (encV w vs k).length ≤ 4 := by
  unfold encV
  split
  · exact Nat.le_refl _
  · exact Nat.zero_le _
/-- a REQUEST's bytes -/
def encR (s : Int32) (sq sn : Nat) (rd wr : Int32) (vs : Nat → Int32) : List Nat := by8 s :: (encU sq ++ (encU sn ++ (be2 rd ++ (be2 wr ++ (List.range' 0 16).flatMap (encV wr vs)))))
theorem flatMap_len {B : Nat} (enc : Nat → List Nat) (hB : ∀ k, (enc k).length ≤ B) : ∀ d k, ((List.range' k d).flatMap enc).length ≤ B * d := by
  intro d
  induction d with
  | zero => intro k; simp
  | succ d ih =>
    intro k
    have h1 := hB k
    have h2 := ih (k + 1)
    rw [List.range'_succ, List.flatMap_cons, List.length_append, Nat.mul_succ]
    omega
theorem encR_len {s : Int32} {sq sn : Nat} {rd wr : Int32} {vs : Nat → Int32} (h1 : sq < 2 ^ 31) (h2 : sn < 2 ^ 31) : (encR s sq sn rd wr vs).length ≤ 79 := by
  have a1 := encU_len h1
  have a2 := encU_len h2
  have a3 := flatMap_len (encV wr vs) (encV_len wr vs) 16 0
  unfold encR
  simp only [List.length_cons, List.length_append]
  have a4 : (be2 rd).length = 2 := rfl
  have a5 : (be2 wr).length = 2 := rfl
  omega
theorem e_layRequest {M : vM} {l : List Nat} {q sq sn : Nat} (hq : q < 4200) (h1 : M.2 1 q = nI sq) (h2 : M.2 2 q = nI sn) (b1 : sq < 2 ^ 31) (b2 : sn < 2 ^ 31) (hl : l.length + 80 ≤ 2400) : F_X12_layRequest (sl M l) (nI q) = some (sl M (l ++ encR (M.2 0 q) sq sn (M.2 3 q) (M.2 4 q) (fun k => M.2 5 (16 * q + k)))) := by
  have a1 := encU_len b1
  have a2 := encU_len b2
  unfold F_X12_layRequest
  rw [mGv (show q < mL 0 from hq) (by omega), sl_2 _ _ _ (by decide)]
  rw [Option.bind_some]
  rw [e_lay _ (by omega)]
  rw [Option.bind_some]
  rw [mGv (show q < mL 1 from hq) (by omega), sl_2 _ _ _ (by decide), h1]
  rw [Option.bind_some]
  rw [e_layU b1 (by simp only [List.length_append, List.length_cons, List.length_nil]; omega)]
  rw [Option.bind_some]
  rw [mGv (show q < mL 2 from hq) (by omega), sl_2 _ _ _ (by decide), h2]
  rw [Option.bind_some]
  rw [e_layU b2 (by simp only [List.length_append, List.length_cons, List.length_nil]; omega)]
  rw [Option.bind_some]
  rw [mGv (show q < mL 3 from hq) (by omega), sl_2 _ _ _ (by decide)]
  rw [Option.bind_some]
  rw [e_layTwo _ (by simp only [List.length_append, List.length_cons, List.length_nil]; omega)]
  rw [Option.bind_some]
  rw [mGv (show q < mL 4 from hq) (by omega), sl_2 _ _ _ (by decide)]
  rw [Option.bind_some]
  have c1 : ∀ w : Int32, (be2 w).length = 2 := fun _ => rfl
  rw [e_layTwo _ (by simp only [List.length_append, List.length_cons, List.length_nil, c1]; omega)]
  rw [Option.bind_some, ← nI_0, loop_app (L_X12_layRequest_52 (nI q) (fun M16 => some M16)) (fun M16 => some M16) M 16 4 (encV (M.2 4 q) (fun k => M.2 5 (16 * q + k))) (encV_len _ _) ?_ ?_ 16 0 fu _ rfl (by decide) (by simp only [List.length_append, List.length_cons, List.length_nil, c1]; omega)]
  · unfold encR
    congr 2
    simp [List.append_assoc]
  · intro f l'
    rw [L_X12_layRequest_52]
    exact if_pos (nI_le (Nat.le_refl 16) (by decide))
  · intro f k l' hk hl'
    rw [L_X12_layRequest_52, if_neg (show ¬ (16 : Int32) ≤ nI k from nI_ge (b := 16) hk (by decide)), mGv (show q < mL 4 from hq) (by omega), sl_2 _ _ _ (by decide)]
    rw [Option.bind_some]
    unfold encV
    by_cases e : ((M.2 4 q >>> (nI k &&& 31)) &&& (1 : Int32)) = (1 : Int32)
    · rw [if_pos e, if_pos e, show (16 : Int32) * nI q + nI k = nI (16 * q + k) from by rw [show (16 : Int32) * nI q = nI (16 * q) from nI_mul 16 q, nI_add], mGv (show 16 * q + k < mL 5 by show 16 * q + k < 67200; omega) (by omega), sl_2 _ _ _ (by decide)]
      rw [Option.bind_some, e_layFour _ (by omega), Option.bind_some, show nI k + (1 : Int32) = nI (k + 1) from nI_add k 1]
    · rw [if_neg e, if_neg e, List.append_nil, show nI k + (1 : Int32) = nI (k + 1) from nI_add k 1]
