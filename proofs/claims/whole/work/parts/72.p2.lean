/-! ===== the class's rows of bytes ===== -/
theorem l1_ {α ρ : Type} (x : α) (K : α → Option ρ) : lt1 x K = K x := rfl
theorem jn_ {κ ρ : Type} (K : κ) (B : κ → Option ρ) : jn K B = B K := rfl
theorem b2_ {α β ρ : Type} (a : α) (b : β) (K : α → β → Option ρ) : b2 (some (a, b)) K = K a b := rfl
theorem gd_ {ρ : Type} {p : Prop} [Decidable p] (h : p) (x : Option ρ) : gd p x = x := if_pos h
theorem zb0 {ρ : Type} (x : Option ρ) : zb 0 x = x := rfl
theorem zb1 {ρ : Type} (x : Option ρ) : zb 1 x = x := rfl
def sB (c : vC) (i : Nat) (l : List Nat) : vC := (fun f k => if f = 1 ∧ k = i then nI l.length else cI c f k, cP c, fun f k j => if f = 0 ∧ k = i ∧ j < l.length then sb_b (byA l j) else cR c f k j, cJ c, cQ c, cK c, cN c, cD c, cz c)
theorem sB_I (c : vC) (i : Nat) (l : List Nat) {f : Nat} (k : Nat) (h : f ≠ 1) : cI (sB c i l) f k = cI c f k := if_neg (fun q => h q.1)
theorem sB_I2 (c : vC) (i : Nat) (l : List Nat) {k : Nat} (h : k ≠ i) (f : Nat) : cI (sB c i l) f k = cI c f k := if_neg (fun q => h q.2)
theorem sB_1 (c : vC) (i : Nat) (l : List Nat) : cI (sB c i l) 1 i = nI l.length := by
  show (if 1 = 1 ∧ i = i then nI l.length else cI c 1 i) = _
  exact if_pos ⟨rfl, rfl⟩
theorem sB_R (c : vC) (i : Nat) (l : List Nat) {f : Nat} (k j : Nat) (h : f ≠ 0) : cR (sB c i l) f k j = cR c f k j := if_neg (fun q => h q.1)
theorem sB_0 (c : vC) (i : Nat) (l : List Nat) {j : Nat} (h : j < l.length) : cR (sB c i l) 0 i j = sb_b (byA l j) := by
  show (if 0 = 0 ∧ i = i ∧ j < l.length then sb_b (byA l j) else cR c 0 i j) = _
  exact if_pos ⟨rfl, rfl, h⟩
theorem vC_ext {c d : vC} (h1 : ∀ f k, cI c f k = cI d f k) (h2 : cP c = cP d) (h3 : ∀ f k j, cR c f k j = cR d f k j) (h4 : cJ c = cJ d) (h5 : cQ c = cQ d) (h6 : cK c = cK d) (h7 : cN c = cN d) (h8 : cD c = cD d) (h9 : cz c = cz d) : c = d := by
  refine Prod.ext (funext fun f => funext fun k => h1 f k) (Prod.ext h2 (Prod.ext (funext fun f => funext fun k => funext fun j => h3 f k j) (Prod.ext h4 (Prod.ext h5 (Prod.ext h6 (Prod.ext h7 (Prod.ext h8 h9)))))))
theorem cSv {c : vC} {f i j : Nat} {v : Int32} (h : j < al f) (hj : j < 2 ^ 31) : cS c f i (nI j) v = some (uR c f i j v) := by
  unfold cS
  rw [nIt hj, if_neg (fun q => q.elim (nIn hj) (fun q => by omega))]
theorem cGv {c : vC} {f i j : Nat} (h : j < al f) (hj : j < 2 ^ 31) : cG c f i (nI j) = some (cR c f i j) := by
  unfold cG
  rw [nIt hj, if_neg (fun q => q.elim (nIn hj) (fun q => by omega))]
theorem by8_sbb {n : Nat} (h : n < 256) : by8 (sb_b n) = n := by
  have e := (sb_byte n h).1
  rw [a255] at e
  exact (nI_eq (by have := by8_lt (sb_b n); omega) (by omega)).mp e
theorem e_put {N : Nat} {c : vC} {i : Nat} {l : List Nat} (v : Int32) (h : l.length < 2048) : F_X0_put N (sB c i l) i v = some (sB c i (l ++ [by8 v])) := by
  unfold F_X0_put
  rw [sB_1, if_neg (show ¬ Int32.ofNat (al 0) ≤ nI l.length from nI_ge (b := 2048) h (by decide)), cSv (show l.length < al 0 from h) (by omega)]
  show some (uI (uR (sB c i l) 0 i l.length (((v).toInt8.toInt32).toInt8.toInt32)) 1 i (cI (sB c i l) 1 i + nI 1)) = _
  rw [sB_1, nI_add, by8_sb, by8_sb, by8_sbb (by8_lt v)]
  congr 1
  refine vC_ext (fun f k => ?_) rfl (fun f k j => ?_) rfl rfl rfl rfl rfl rfl
  · show vi_u2 (cI (sB c i l)) 1 i (nI (l.length + 1)) f k = if f = 1 ∧ k = i then nI (l ++ [by8 v]).length else cI c f k
    rw [List.length_append]
    by_cases e : f = 1 ∧ k = i
    · obtain ⟨rfl, rfl⟩ := e
      rw [vi_u2s, if_pos ⟨rfl, rfl⟩]; rfl
    · rw [vi_u2v _ _ _ _ e, if_neg e]
      exact if_neg e
  · show vi_u2 (cR (sB c i l)) 0 i (va_up (cR (sB c i l) 0 i) l.length (sb_b (by8 v))) f k j = if f = 0 ∧ k = i ∧ j < (l ++ [by8 v]).length then sb_b (byA (l ++ [by8 v]) j) else cR c f k j
    rw [List.length_append]
    by_cases e : f = 0 ∧ k = i
    · obtain ⟨rfl, rfl⟩ := e
      rw [vi_u2s]
      by_cases e2 : j = l.length
      · subst e2
        rw [va_up_self, if_pos ⟨rfl, rfl, by simp⟩, byA_r (Nat.le_refl _), Nat.sub_self]; rfl
      · rw [va_up_ne _ _ e2]
        by_cases e3 : j < l.length
        · rw [sB_0 _ _ _ e3, if_pos ⟨rfl, rfl, by omega⟩, byA_l e3]
        · show (if 0 = 0 ∧ k = k ∧ j < l.length then sb_b (byA l j) else cR c 0 k j) = _
          rw [if_neg (fun q => e3 q.2.2), if_neg (fun q => by have := q.2.2; simp at this; omega)]
    · rw [vi_u2v _ _ _ _ e, if_neg (fun q => e ⟨q.1, q.2.1⟩)]
      exact if_neg (fun q => e ⟨q.1, q.2.1⟩)
theorem e_clear {N : Nat} {c : vC} {i : Nat} : F_X0_clear N c i = some (sB (uI c 2 i 0) i []) := by
  unfold F_X0_clear
  show some (uI (uI c 1 i 0) 2 i 0) = _
  congr 1
  refine vC_ext (fun f k => ?_) rfl (fun f k j => ?_) rfl rfl rfl rfl rfl rfl
  · show vi_u2 (vi_u2 (cI c) 1 i 0) 2 i 0 f k = if f = 1 ∧ k = i then nI 0 else vi_u2 (cI c) 2 i 0 f k
    unfold vi_u2
    by_cases e : f = 1 ∧ k = i
    · rw [if_pos e, if_neg (by omega), if_pos e]; rfl
    · rw [if_neg e, if_neg e]
  · show cR c f k j = if f = 0 ∧ k = i ∧ j < 0 then _ else cR c f k j
    rw [if_neg (by omega)]
theorem e_putTwo {N : Nat} {c : vC} {i : Nat} {l : List Nat} (v : Int32) (h : l.length + 2 ≤ 2048) : F_X0_putTwo N (sB c i l) i v = some (sB c i (l ++ be2 v)) := by
  unfold F_X0_putTwo
  rw [e_put _ (by omega)]
  rw [Option.bind_some, e_put _ (by rw [List.length_append]; simp; omega), List.append_assoc]
  rfl
theorem e_putFour {N : Nat} {c : vC} {i : Nat} {l : List Nat} (v : Int32) (h : l.length + 4 ≤ 2048) : F_X0_putFour N (sB c i l) i v = some (sB c i (l ++ be4 v)) := by
  unfold F_X0_putFour
  rw [show fu = 32763 + 1 + 1 + 1 + 1 + 1 from rfl]
  have st : ∀ f (l' : List Nat) (s : Int32), ¬ s < 0 → l'.length < 2048 → L_X0_putFour_3 N i v (fun M3 => some M3) (f + 1) (sB c i l') s = L_X0_putFour_3 N i v (fun M3 => some M3) f (sB c i (l' ++ [by8 (shr v s)])) (s + (-8)) := by
    intro f l' s hs hl
    rw [L_X0_putFour_3, if_neg hs, e_put _ hl, Option.bind_some]
    rfl
  rw [st _ _ _ (by decide) (by omega), st _ _ _ (by decide) (by simp only [List.length_append, List.length_cons, List.length_nil]; omega), st _ _ _ (by decide) (by simp only [List.length_append, List.length_cons, List.length_nil]; omega), st _ _ _ (by decide) (by simp only [List.length_append, List.length_cons, List.length_nil]; omega)]
  rw [L_X0_putFour_3, if_pos (by decide)]
  congr 2
  simp only [List.append_assoc]
  rfl
theorem loopC_app {ρ : Type} (g : Nat → vC → Int32 → Option ρ) (kx : vC → Option ρ) (c : vC) (i n B : Nat) (enc : Nat → List Nat) (hB : ∀ k, (enc k).length ≤ B) (hexit : ∀ f l, g (f + 1) (sB c i l) (nI n) = kx (sB c i l)) (hstep : ∀ f k l, k < n → l.length + B ≤ 2048 → g (f + 1) (sB c i l) (nI k) = g f (sB c i (l ++ enc k)) (nI (k + 1))) :
    ∀ d k f l, k + d = n → d < f → l.length + B * d ≤ 2048 → g f (sB c i l) (nI k) = kx (sB c i (l ++ (List.range' k d).flatMap enc)) := by
  intro d
  induction d with
  | zero =>
    intro k f l h1 h2 h3
    obtain ⟨f, rfl⟩ : ∃ f', f = f' + 1 := ⟨f - 1, by omega⟩
    obtain rfl : k = n := by omega
    rw [hexit]
    simp
  | succ d ih =>
    intro k f l h1 h2 h3
    obtain ⟨f, rfl⟩ : ∃ f', f = f' + 1 := ⟨f - 1, by omega⟩
    have hb := hB k
    rw [Nat.mul_succ] at h3
    rw [hstep f k l (by omega) (by omega), ih (k + 1) f (l ++ enc k) (by omega) (by omega) (by rw [List.length_append]; omega)]
    rw [List.range'_succ, List.flatMap_cons, List.append_assoc]
theorem u7 {n : Nat} (h : n < 2 ^ 31) : ((nI n).toUInt32 >>> (((7 : Int32)).toUInt32 &&& Int32.toUInt32 31)).toInt32 = nI (n / 128) := by
  apply Int32.toBitVec_inj.mp
  apply BitVec.eq_of_toNat_eq
  have e1 : ∀ m, m < 2 ^ 31 → (nI m).toBitVec.toNat = m := fun m hm => by
    show (BitVec.ofNat 32 m).toNat = m
    rw [BitVec.toNat_ofNat]
    exact Nat.mod_eq_of_lt (by omega)
  show ((nI n).toBitVec >>> ((((7 : Int32)).toUInt32 &&& Int32.toUInt32 31).toBitVec % 32)).toNat = _
  rw [BitVec.ushiftRight_eq', BitVec.toNat_ushiftRight, e1 n h, e1 (n / 128) (by omega), show ((((7 : Int32)).toUInt32 &&& Int32.toUInt32 31).toBitVec % 32).toNat = 7 from by decide, Nat.shiftRight_eq_div_pow]
theorem u127 {n : Nat} (h : n < 2 ^ 31) : by8 ((nI n &&& (127 : Int32)) ||| (128 : Int32)) = n % 128 + 128 := by
  unfold by8
  rw [Int32.toBitVec_or, Int32.toBitVec_and, BitVec.toNat_or, BitVec.toNat_and]
  have e1 : (nI n).toBitVec.toNat = n := by
    show (BitVec.ofNat 32 n).toNat = n
    rw [BitVec.toNat_ofNat]
    exact Nat.mod_eq_of_lt (by omega)
  rw [e1, show ((127 : Int32)).toBitVec.toNat = 2 ^ 7 - 1 from by decide, show ((128 : Int32)).toBitVec.toNat = 128 from by decide, Nat.and_two_pow_sub_one_eq_mod]
  have e2 : ∀ k, k < 128 → (k ||| 128) % 256 = k + 128 := by decide
  exact e2 _ (Nat.mod_lt _ (by decide))
theorem e_putU_l {N : Nat} {c : vC} {i : Nat} : ∀ (t f n k : Nat) (l : List Nat), k + t = 4 → t < f → n < 2 ^ 31 → n < 2 ^ (7 * t + 7) → l.length + (encU n).length ≤ 2048 → L_X0_putU_4 N i (fun (M4 : vC) (l5 : Int32) => (F_X0_put N M4 i (l5)).bind fun M6 => some M6) f (sB c i l) (nI n) (nI k) = some (sB c i (l ++ encU n)) := by
  intro t
  induction t with
  | zero =>
    intro f n k l h1 h2 h3 h4 h5
    obtain ⟨f, rfl⟩ : ∃ f', f = f' + 1 := ⟨f - 1, by omega⟩
    obtain rfl : k = 4 := by omega
    rw [L_X0_putU_4, if_pos (show (4 : Int32) ≤ nI 4 from nI_le (Nat.le_refl 4) (by decide))]
    rw [encU_s (by omega)] at h5 ⊢
    rw [e_put _ (by simp at h5; omega), by8_n (by omega)]; rfl
  | succ t ih =>
    intro f n k l h1 h2 h3 h4 h5
    obtain ⟨f, rfl⟩ : ∃ f', f = f' + 1 := ⟨f - 1, by omega⟩
    rw [L_X0_putU_4, if_neg (show ¬ (4 : Int32) ≤ nI k from nI_ge (b := 4) (by omega) (by decide))]
    by_cases e : n ≤ 127
    · rw [if_pos (show nI n ≤ (127 : Int32) from nI_le (b := 127) e (by decide))]
      rw [encU_s e] at h5 ⊢
      rw [e_put _ (by simp at h5; omega), by8_n (by omega)]; rfl
    · rw [if_neg (show ¬ nI n ≤ (127 : Int32) from fun q => e ((nI_leI (b := 127) h3 (by decide)).mp q))]
      rw [encU_b e] at h5 ⊢
      rw [List.length_cons] at h5
      rw [e_put _ (by omega), u127 h3, u7 h3]
      rw [Option.bind_some, show nI k + (1 : Int32) = nI (k + 1) from nI_add k 1, ih f (n / 128) (k + 1) (l ++ [n % 128 + 128]) (by omega) (by omega) (by omega) (by rw [Nat.div_lt_iff_lt_mul (by decide)]; rw [show 7 * (t + 1) + 7 = 7 * t + 7 + 7 by omega, Nat.pow_add] at h4; exact h4) (by rw [List.length_append]; simp; omega), List.append_assoc]
      rfl
theorem e_putU {N : Nat} {c : vC} {i : Nat} {l : List Nat} {n : Nat} (h : n < 2 ^ 31) (hl : l.length + 5 ≤ 2048) : F_X0_putU N (sB c i l) i (nI n) = some (sB c i (l ++ encU n)) := by
  have hl2 := encU_len h
  have := e_putU_l (N := N) (c := c) (i := i) 4 fu n 0 l rfl (by decide) h (by omega) (by omega)
  rw [nI_0] at this
  unfold F_X0_putU
  exact this
