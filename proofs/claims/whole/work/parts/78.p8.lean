/-! ===== the reference's arrays; blocks of its disks ===== -/
def uE (M : vM) (j i : Nat) (v : Int32) : vM := (M.1, vi_u2 M.2 j i v)
def uA (M : vM) (j : Nat) (g : Nat → Int32) : vM := (M.1, fun k i => if k = j then g i else M.2 k i)
theorem mSe {M : vM} {j i : Nat} {v : Int32} (h : i < mL j) (hi : i < 2 ^ 31) : mS M j (nI i) v = some (uE M j i v) := mSv h hi
theorem uE_s (M : vM) (j i : Nat) (v : Int32) : (uE M j i v).2 j i = v := vi_u2s _ _ _ _
theorem uE_j (M : vM) {j i k : Nat} (v : Int32) (x : Nat) (h : k ≠ j) : (uE M j i v).2 k x = M.2 k x := vi_u2i _ _ h
theorem uE_i (M : vM) {j i k x : Nat} (v : Int32) (h : x ≠ i) : (uE M j i v).2 k x = M.2 k x := vi_u2a _ _ h
theorem uE_sl (M : vM) (l : List Nat) {j : Nat} (i : Nat) (v : Int32) (h : j ≠ 38) : uE (sl M l) j i v = sl (uE M j i v) l := by
  refine Prod.ext rfl (funext fun k => funext fun x => ?_)
  show vi_u2 (sl M l).2 j i v k x = if k = 38 ∧ x < l.length then nI (byA l x) else vi_u2 M.2 j i v k x
  by_cases e : k = j ∧ x = i
  · obtain ⟨rfl, rfl⟩ := e
    rw [vi_u2s, if_neg (fun q => h q.1), vi_u2s]
  · rw [vi_u2v _ _ _ _ e, vi_u2v _ _ _ _ e]; rfl
theorem uE_uA (M : vM) (j : Nat) (g : Nat → Int32) (i : Nat) (v : Int32) : uE (uA M j g) j i v = uA M j (va_up g i v) := by
  refine Prod.ext rfl (funext fun k => funext fun x => ?_)
  show vi_u2 (uA M j g).2 j i v k x = if k = j then va_up g i v x else M.2 k x
  by_cases e : k = j
  · subst e
    rw [if_pos rfl]
    by_cases e2 : x = i
    · subst e2; rw [vi_u2s, va_up_self]
    · rw [vi_u2a _ _ e2, va_up_ne _ _ e2]
      exact if_pos rfl
  · rw [if_neg e, vi_u2i _ _ e]
    exact if_neg e
theorem uA_id (M : vM) (j : Nat) : uA M j (M.2 j) = M := by
  refine Prod.ext rfl (funext fun k => funext fun x => ?_)
  show (if k = j then M.2 j x else M.2 k x) = M.2 k x
  by_cases e : k = j
  · rw [if_pos e, e]
  · rw [if_neg e]
theorem nI_tn {m : Nat} (hm : m < 2 ^ 32) : (nI m).toBitVec.toNat = m := by
  show (BitVec.ofNat 32 m).toNat = m
  rw [BitVec.toNat_ofNat]
  exact Nat.mod_eq_of_lt hm
theorem nI_subneg {x y : Nat} (h : x < y) (hy : y < 2 ^ 31) : nI x - nI y < 0 := by
  by_cases e : nI x - nI y < 0
  · exact e
  · exfalso
    obtain ⟨j, hj, ej⟩ := nI_of e
    have e2 : nI x = nI (j + y) := by
      rw [← nI_add, ← ej, Int32.sub_add_cancel]
    have e3 := congrArg (fun v : Int32 => v.toBitVec.toNat) e2
    have e4 : (nI x).toBitVec.toNat = (nI (j + y)).toBitVec.toNat := e3
    rw [nI_tn (by omega), nI_tn (by omega)] at e4
    omega
theorem nI_ssub (k f g : Nat) : nI k - (nI f - nI g) = nI (k + g) - nI f := by
  rw [← nI_add]
  grind
theorem q_pb {ρ : Type} {M : vM} {r b f g : Nat} {l : List Nat} {kx : vM → Option ρ} {d0 : Nat → Int32} (hr : r < 9) (hb : b < 64) (hf : f < 65536) (hg : g < 65536) (hl : Bts l) (hll : l.length ≤ 2400) : ∀ (d k fl : Nat), k + d = 512 → d < fl → L_X12_putBlock_59 (nI r) (nI b) (nI f - nI g) kx fl (sl (uA M 36 (plM d0 l (32768 * r + 512 * b) g f k)) l) (nI k) = kx (sl (uA M 36 (plM d0 l (32768 * r + 512 * b) g f 512)) l) := by
  intro d
  induction d with
  | zero =>
    intro k fl h1 h2
    obtain ⟨fl, rfl⟩ : ∃ f', fl = f' + 1 := ⟨fl - 1, by omega⟩
    obtain rfl : k = 512 := by omega
    rw [L_X12_putBlock_59, if_pos (show (512 : Int32) ≤ nI 512 from nI_le (Nat.le_refl 512) (by decide))]
  | succ d ih =>
    intro k fl h1 h2
    obtain ⟨fl, rfl⟩ : ∃ f', fl = f' + 1 := ⟨fl - 1, by omega⟩
    rw [L_X12_putBlock_59, if_neg (show ¬ (512 : Int32) ≤ nI k from nI_ge (b := 512) (by omega) (by decide)), nI_ssub, show nI k + (1 : Int32) = nI (k + 1) from nI_add k 1]
    have eix : (32768 : Int32) * nI r + (512 : Int32) * nI b + nI k = nI (32768 * r + 512 * b + k) := by
      rw [show (32768 : Int32) * nI r = nI (32768 * r) from nI_mul 32768 r, show (512 : Int32) * nI b = nI (512 * b) from nI_mul 512 b, nI_add, nI_add]
    have hin : 32768 * r + 512 * b + k < mL 36 := by show _ < 294912; omega
    by_cases e : k + g < f
    · rw [if_pos (nI_subneg e (by omega))]
      have e2 : plM d0 l (32768 * r + 512 * b) g f k = plM d0 l (32768 * r + 512 * b) g f (k + 1) := by
        funext p
        unfold plM
        by_cases e3 : 32768 * r + 512 * b ≤ p ∧ p < 32768 * r + 512 * b + k ∧ f ≤ g + (p - (32768 * r + 512 * b))
        · rw [if_pos e3, if_pos (by omega)]
        · rw [if_neg e3, if_neg (by omega)]
      rw [e2]
      exact ih (k + 1) fl (by omega) (by omega)
    · rw [nI_sub (by omega), if_neg (nIn (by omega)), sl_45, eix]
      have up : va_up (plM d0 l (32768 * r + 512 * b) g f k) (32768 * r + 512 * b + k) (sb_b (byA l (k + g - f))) = plM d0 l (32768 * r + 512 * b) g f (k + 1) := by
        funext p
        by_cases e3 : p = 32768 * r + 512 * b + k
        · subst e3
          rw [va_up_self]
          unfold plM
          rw [if_pos (by omega)]
          congr 2
          omega
        · rw [va_up_ne _ _ e3]
          unfold plM
          by_cases e4 : 32768 * r + 512 * b ≤ p ∧ p < 32768 * r + 512 * b + k ∧ f ≤ g + (p - (32768 * r + 512 * b))
          · rw [if_pos e4, if_pos (by omega)]
          · rw [if_neg e4, if_neg (by omega)]
      by_cases e5 : l.length ≤ k + g - f
      · rw [if_pos (nI_le e5 (by omega)), mSe hin (by omega), Option.bind_some, uE_sl _ _ _ _ (by decide), uE_uA]
        have z : (((0 : Int32)).toInt8.toInt32).toInt8.toInt32 = sb_b (byA l (k + g - f)) := by
          have : byA l (k + g - f) = 0 := by
            unfold byA
            rw [List.getD_eq_getElem?_getD, List.getElem?_eq_none e5]; rfl
          rw [this]; decide
        rw [z, up]
        exact ih (k + 1) fl (by omega) (by omega)
      · rw [if_neg (nI_ge (by omega) (by omega)), mGv (show k + g - f < mL 38 by show _ < 2400; omega) (by omega), Option.bind_some, sl_38 _ _ (by omega), mSe hin (by omega), Option.bind_some, uE_sl _ _ _ _ (by decide), uE_uA, by8_sb, by8_sb, by8_sbb (by8_lt _), by8_n (byA_lt hl _), up]
        exact ih (k + 1) fl (by omega) (by omega)
theorem e_putBlock {M : vM} {r b f g : Nat} {l : List Nat} (hr : r < 9) (hb : b < 64) (hf : f < 65536) (hg : g < 65536) (hl : Bts l) (hll : l.length ≤ 2400) (hd : ¬ M.2 35 r = 0) : F_X12_putBlock (sl M l) (nI r) (nI b) (nI f - nI g) = some (sl (uA (uE (uE M 35 r (dueN' (M.2 35 r))) 34 r (M.2 34 r + 1)) 36 (plM (M.2 36) l (32768 * r + 512 * b) g f 512)) l, 1) := by
  have h9 : ∀ j, mL j = 9 → r < mL j := fun j hj => by rw [hj]; exact hr
  have due : ∀ kx : Int32 → Option (vM × Int32), jn kx (fun k => if M.2 35 r ≤ 0 then (k 0) else (k 1)) = kx (if M.2 35 r ≤ 0 then 0 else 1) := fun kx => by rw [jn_]; split <;> rfl
  have ed : M.2 35 r - (if M.2 35 r ≤ 0 then (0 : Int32) else 1) = dueN' (M.2 35 r) := by
    unfold dueN'
    split
    · exact Int32.sub_zero _
    · rfl
  unfold F_X12_putBlock
  rw [mGv (h9 35 rfl) (by omega), Option.bind_some, sl_2 _ _ _ (by decide), if_neg hd, Option.bind_some, Option.bind_some, due, ed, mSe (h9 35 rfl) (by omega), Option.bind_some, uE_sl _ _ _ _ (by decide), mGv (h9 34 rfl) (by omega), Option.bind_some, sl_2 _ _ _ (by decide), uE_j _ _ _ (by decide), mSe (h9 34 rfl) (by omega), Option.bind_some, uE_sl _ _ _ _ (by decide)]
  have h := q_pb (M := uE (uE M 35 r (dueN' (M.2 35 r))) 34 r (M.2 34 r + 1)) (kx := fun (M15 : vM) => zb ((1 : Int32)) (some (M15, (1 : Int32)))) (d0 := M.2 36) hr hb hf hg hl hll 512 0 fu rfl (by decide)
  rw [plM_0, nI_0] at h
  have e36 : uA (uE (uE M 35 r (dueN' (M.2 35 r))) 34 r (M.2 34 r + 1)) 36 (M.2 36) = uE (uE M 35 r (dueN' (M.2 35 r))) 34 r (M.2 34 r + 1) := by
    have e : M.2 36 = (uE (uE M 35 r (dueN' (M.2 35 r))) 34 r (M.2 34 r + 1)).2 36 := by
      funext x
      rw [uE_j _ _ _ (by decide), uE_j _ _ _ (by decide)]
    rw [e]
    exact uA_id _ _
  rw [e36] at h
  rw [h, zb1]
