/-! ===== rows put behind rows; records of the class ===== -/
theorem loopC_from {ρ : Type} (g : Nat → vC → Int32 → Option ρ) (kx : vC → Option ρ) (c : vC) (i s n : Nat) (enc : Nat → List Nat) (hB : ∀ k, (enc k).length ≤ 1) (hexit : ∀ f l, g (f + 1) (sB c i l) (nI n) = kx (sB c i l)) (hstep : ∀ f k l, s ≤ k → k < n → l.length + 1 ≤ 2048 → g (f + 1) (sB c i l) (nI k) = g f (sB c i (l ++ enc k)) (nI (k + 1))) :
    ∀ d k f l, s ≤ k → k + d = n → d < f → l.length + d ≤ 2048 → g f (sB c i l) (nI k) = kx (sB c i (l ++ (List.range' k d).flatMap enc)) := by
  intro d
  induction d with
  | zero =>
    intro k f l h0 h1 h2 h3
    obtain ⟨f, rfl⟩ : ∃ f', f = f' + 1 := ⟨f - 1, by omega⟩
    obtain rfl : k = n := by omega
    rw [hexit]
    simp
  | succ d ih =>
    intro k f l h0 h1 h2 h3
    obtain ⟨f, rfl⟩ : ∃ f', f = f' + 1 := ⟨f - 1, by omega⟩
    have hb := hB k
    rw [hstep f k l h0 (by omega) (by omega), ih (k + 1) f (l ++ enc k) (by omega) (by omega) (by omega) (by rw [List.length_append]; omega)]
    rw [List.range'_succ, List.flatMap_cons, List.append_assoc]
theorem mx0 {s : Nat} (h : s < 2 ^ 31) : mxI 0 (nI s) = nI s := by
  unfold mxI
  by_cases e : (0 : Int32) < nI s
  · rw [if_pos e]
  · rw [if_neg e]
    cases s with
    | zero => rfl
    | succ s => exact absurd (show (0 : Int32) < nI (s + 1) from nI_lt (a := 0) (by omega) h) e
theorem e_putAll {N : Nat} {c : vC} {i f k s e L : Nat} {l : List Nat} {rd : Nat → Int32} (h1 : ∀ l', hL (sB c i l') f k = some (nI L)) (h2 : ∀ l' j, s ≤ j → j < e → hG (sB c i l') f k (nI j) = some (rd j)) (hs : s ≤ e) (he : e ≤ L) (hL' : L < 2 ^ 31) (hl : l.length + (e - s) ≤ 2048) : F_X0_putAll N (sB c i l) i f k (nI s) (nI e) = some (sB c i (l ++ (List.range' s (e - s)).flatMap (fun j => [by8 (rd j)]))) := by
  unfold F_X0_putAll
  rw [mx0 (by omega)]
  refine loopC_from (L_X0_putAll_7 N i f k (nI e) (fun M6 => some M6)) (fun M6 => some M6) c i s e (fun j => [by8 (rd j)]) (fun _ => Nat.le_refl 1) (fun f' l' => ?_) (fun f' j l' h0 hj hl' => ?_) (e - s) s fu l (Nat.le_refl _) (by omega) (by show e - s < 32768; omega) (by omega)
  · rw [L_X0_putAll_7, if_pos (Int32.le_refl _)]
  · rw [L_X0_putAll_7, if_neg (nI_ge hj (by omega)), h1, Option.bind_some, if_neg (nI_ge (by omega) (by omega)), h2 _ _ h0 hj, Option.bind_some, e_put _ (by omega), Option.bind_some, show nI j + (1 : Int32) = nI (j + 1) from nI_add j 1]
theorem range_drop {x : List Nat} : ∀ d k, k + d = x.length → (List.range' k d).flatMap (fun j => [byA x j]) = x.drop k := by
  intro d
  induction d with
  | zero => intro k h; rw [List.drop_eq_nil_of_le (by omega)]; rfl
  | succ d ih =>
    intro k h
    rw [List.range'_succ, List.flatMap_cons, ih (k + 1) (by omega), drop_byA (l := x) (k := k) (by omega)]
    rfl
theorem range_all (x : List Nat) : (List.range' 0 x.length).flatMap (fun j => [byA x j]) = x := by
  rw [range_drop x.length 0 (by omega), List.drop_zero]
theorem flatMap_eq {d k : Nat} {f g : Nat → List Nat} (h : ∀ j, k ≤ j → j < k + d → f j = g j) : (List.range' k d).flatMap f = (List.range' k d).flatMap g := by
  induction d generalizing k with
  | zero => rfl
  | succ d ih =>
    rw [List.range'_succ, List.flatMap_cons, List.flatMap_cons, h k (Nat.le_refl _) (by omega), ih (fun j h1 h2 => h j (by omega) (by omega))]
theorem nI_and {a b : Nat} : nI a &&& nI b = nI (a &&& b) := by
  apply Int32.toBitVec_inj.mp
  rw [Int32.toBitVec_and]
  show BitVec.ofNat 32 a &&& BitVec.ofNat 32 b = BitVec.ofNat 32 (a &&& b)
  apply BitVec.eq_of_toNat_eq
  rw [BitVec.toNat_and, BitVec.toNat_ofNat, BitVec.toNat_ofNat, BitVec.toNat_ofNat, ← Nat.and_mod_two_pow]
theorem nI_odd (a : Nat) : nI a &&& (1 : Int32) = nI (a % 2) := by
  rw [show nI a &&& (1 : Int32) = nI (a &&& 1) from nI_and (b := 1), Nat.and_one_is_mod]
/-- what lies in a row of the class's -/
def inB (c : vC) (i : Nat) (l : List Nat) : Prop := cI c 1 i = nI l.length ∧ l.length ≤ 2048 ∧ Bts l ∧ ∀ j, j < l.length → cR c 0 i j = sb_b (byA l j)
theorem inB_sB {c : vC} {i : Nat} {l : List Nat} (h : l.length ≤ 2048) (hb : Bts l) : inB (sB c i l) i l := ⟨sB_1 _ _ _, h, hb, fun _ hj => sB_0 _ _ _ hj⟩
theorem inB_o {c : vC} {i k : Nat} {l p : List Nat} (h : inB c i l) (hk : i ≠ k) : inB (sB c k p) i l := by
  refine ⟨(sB_I2 _ _ _ hk _).trans h.1, h.2.1, h.2.2.1, fun j hj => ?_⟩
  rw [← h.2.2.2 j hj]
  exact if_neg (fun q => hk q.2.1)
theorem e_putRow {N : Nat} {c : vC} {i k : Nat} {l x : List Nat} (hk : k ≠ i) (hx : inB c k x) (hl : l.length + x.length ≤ 2048) : F_X0_putAll N (sB c i l) i 0 k 0 (nI x.length) = some (sB c i (l ++ x)) := by
  have h := e_putAll (N := N) (c := c) (i := i) (f := 0) (k := k) (s := 0) (e := x.length) (L := 2048) (l := l) (rd := fun j => cR c 0 k j) (fun l' => rfl) (fun l' j _ hj => ?_) (Nat.zero_le _) hx.2.1 (by decide) (by omega)
  · rw [nI_0] at h
    rw [h, Nat.sub_zero, flatMap_eq (g := fun j => [byA x j]) (fun j _ hj => by rw [hx.2.2.2 j (by omega), by8_sbb (byA_lt hx.2.2.1 j)]), range_all]
  · have hb := hx.2.1
    show cG (sB c i l') 0 k (nI j) = _
    rw [cGv (show j < al 0 by show j < 2048; omega) (by omega)]
    congr 1
    exact if_neg (fun q => hk q.2.1)
theorem e_addRecord {N : Nat} {c : vC} {r : Nat} {p x : List Nat} (hx : inB c 1 x) (hp : Bts p) (hl : p.length + x.length + 8 ≤ 2048) : F_X2_addRecord N (sB c 2 p) r 1 = some (uI (uI (sB c 2 (p ++ recL x)) 202 r (cI c 202 r + 1)) 203 r (nI (p ++ recL x).length)) := by
  have e1 : ∀ l', cI (sB c 2 l') 1 1 = nI x.length := fun l' => (sB_I2 _ _ _ (by decide) _).trans hx.1
  have b8 : by8 (nI x.length) = x.length % 256 := by
    unfold by8
    show (BitVec.ofNat 32 x.length).toNat % 256 = x.length % 256
    rw [BitVec.toNat_ofNat, Nat.mod_eq_of_lt (show x.length < 2 ^ 32 by omega)]
  have b9 : by8 (((nI x.length).toUInt32 >>> (((8 : Int32)).toUInt32 &&& Int32.toUInt32 31)).toInt32) = x.length / 256 := by
    show by8 (shr (nI x.length) 8) = _
    rw [← sar8, sarN (by omega), by8_n (by omega)]
  unfold F_X2_addRecord
  rw [e1, e_put _ (by omega), Option.bind_some, e1, e_put _ (by simp only [List.length_append, List.length_cons, List.length_nil]; omega), Option.bind_some, e1, b8, b9, e_putRow (by decide) hx (by simp only [List.length_append, List.length_cons, List.length_nil]; omega), Option.bind_some, sB_1]
  have ez : p ++ [x.length % 256] ++ [x.length / 256] ++ x = p ++ recZ x := by unfold recZ; simp only [List.append_assoc]; rfl
  have hz : (p ++ recZ x).length = p.length + x.length + 2 := by unfold recZ; simp; omega
  rw [ez, e_putCheck (hp.app (Bts.recZ hx.2.2.1 (by omega))) (by omega) (by omega), Option.bind_some, List.drop_left, jn_, e1, nI_odd]
  have fin : ∀ l', (lt1 (uI (sB c 2 l') 202 r (cI (sB c 2 l') 202 r + (1 : Int32))) fun M9 => lt1 (uI M9 203 r (cI M9 1 2)) fun M10 => some M10) = some (uI (uI (sB c 2 l') 202 r (cI c 202 r + 1)) 203 r (nI l'.length)) := by
    intro l'
    rw [l1_, l1_, sB_I _ _ _ _ (by decide)]
    congr 2
  unfold recL
  by_cases e : x.length % 2 = 1
  · rw [if_pos (show nI (x.length % 2) = (1 : Int32) by rw [e]; rfl), if_pos e, e_put _ (by rw [List.length_append, hz]; show p.length + x.length + 2 + 4 < 2048; omega), Option.bind_some]
    refine (fin _).trans ?_
    simp only [List.append_assoc]
    rfl
  · rw [if_neg (show ¬ nI (x.length % 2) = (1 : Int32) from fun q => e ((nI_eq (b := 1) (by omega) (by decide)).mp q)), if_neg e]
    refine (fin _).trans ?_
    simp only [List.append_assoc, List.append_nil]
