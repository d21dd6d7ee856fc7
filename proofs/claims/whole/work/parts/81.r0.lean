/-! ===== the reference against the middle machine ===== -/
def tr {α : Type} (x : Option α) (P : α → Prop) : Prop := ∃ a, x = some a ∧ P a
theorem tr_some {α : Type} {a : α} {P : α → Prop} (h : P a) : tr (some a) P := ⟨a, rfl, h⟩
theorem tr_bind {α β : Type} {x : Option α} {f : α → Option β} {P : α → Prop} {Q : β → Prop} (h : tr x P) (g : ∀ a, P a → tr (f a) Q) : tr (x.bind f) Q := by
  obtain ⟨a, e, p⟩ := h
  rw [e, Option.bind_some]
  exact g a p
theorem tr_b2 {α β γ : Type} {x : Option (α × β)} {f : α → β → Option γ} {P : α × β → Prop} {Q : γ → Prop} (h : tr x P) (g : ∀ a b, P (a, b) → tr (f a b) Q) : tr (b2 x f) Q := by
  obtain ⟨⟨a, b⟩, e, p⟩ := h
  rw [e, b2_]
  exact g a b p
theorem tr_l1 {α ρ : Type} {x : α} {K : α → Option ρ} {Q : ρ → Prop} (h : tr (K x) Q) : tr (lt1 x K) Q := by rw [l1_]; exact h
theorem tr_jn {κ ρ : Type} {K : κ} {B : κ → Option ρ} {Q : ρ → Prop} (h : tr (B K) Q) : tr (jn K B) Q := by rw [jn_]; exact h
theorem tr_z0 {ρ : Type} {x : Option ρ} {Q : ρ → Prop} (h : tr x Q) : tr (zb 0 x) Q := by rw [zb0]; exact h
theorem tr_z1 {ρ : Type} {x : Option ρ} {Q : ρ → Prop} (h : tr x Q) : tr (zb 1 x) Q := by rw [zb1]; exact h
theorem tr_gd {ρ : Type} {p : Prop} [Decidable p] {x : Option ρ} {Q : ρ → Prop} (hp : p) (h : tr x Q) : tr (gd p x) Q := by rw [gd_ hp]; exact h
theorem tr_G {ρ : Type} {M : vM} {j i : Nat} {f : Int32 → Option ρ} {Q : ρ → Prop} (h : i < mL j) (hi : i < 2 ^ 31) (g : tr (f (M.2 j i)) Q) : tr ((mG M j (nI i)).bind f) Q := by
  rw [mGv h hi, Option.bind_some]; exact g
theorem tr_S {ρ : Type} {M : vM} {j i : Nat} {v : Int32} {f : vM → Option ρ} {Q : ρ → Prop} (h : i < mL j) (hi : i < 2 ^ 31) (g : tr (f (uE M j i v)) Q) : tr ((mS M j (nI i) v).bind f) Q := by
  rw [mSe h hi, Option.bind_some]; exact g
theorem tr_imp {α : Type} {x : Option α} {P Q : α → Prop} (h : tr x P) (g : ∀ a, P a → Q a) : tr x Q := by
  obtain ⟨a, e, p⟩ := h
  exact ⟨a, e, g a p⟩
/-! the places of one replica -/
def zs (j : Nat) : Nat := match j with
  | 6 => 1
  | 7 => 1
  | 8 => 1
  | 9 => 1
  | 10 => 1
  | 11 => 1
  | 12 => 1
  | 13 => 1
  | 14 => 640
  | 15 => 40
  | 16 => 40
  | 17 => 16
  | 18 => 16
  | 19 => 1
  | 20 => 1
  | 21 => 1
  | 22 => 1
  | 23 => 1
  | 24 => 1
  | 25 => 1
  | 26 => 8
  | 27 => 1
  | 28 => 256
  | 29 => 6400
  | 30 => 1
  | 31 => 1
  | 32 => 1
  | 33 => 1
  | 34 => 1
  | 35 => 1
  | 36 => 32768
  | 43 => 1
  | 44 => 1
  | _ => 0
theorem zs_mL (j : Nat) (h : zs j ≠ 0) : mL j = 9 * zs j := by
  by_cases hj : j < 45
  · have : ∀ j : Fin 45, zs j.1 ≠ 0 → mL j.1 = 9 * zs j.1 := by decide
    exact this ⟨j, hj⟩ h
  · exfalso
    apply h
    unfold zs
    split <;> first | omega | rfl
def vw (M : vM) (r j i : Nat) : Int32 := if i < zs j then M.2 j (zs j * r + i) else 0
theorem vw_a {M : vM} {r j i : Nat} (h : i < zs j) : vw M r j i = M.2 j (zs j * r + i) := if_pos h
theorem vw_1 {M : vM} {r j : Nat} (h : zs j = 1) : vw M r j 0 = M.2 j r := by
  rw [vw_a (by omega), h, Nat.one_mul, Nat.add_zero]
theorem zs_in {r r' z i i' : Nat} (hi : i < z) (hi' : i' < z) (e : z * r' + i' = z * r + i) : r' = r ∧ i' = i := by
  have h1 : (z * r + i) / z = r := by
    rw [Nat.mul_add_div (by omega), Nat.div_eq_of_lt hi, Nat.add_zero]
  have h2 : (z * r' + i') / z = r' := by
    rw [Nat.mul_add_div (by omega), Nat.div_eq_of_lt hi', Nat.add_zero]
  have e1 : r' = r := by rw [← h2, ← h1, e]
  subst e1
  exact ⟨rfl, by omega⟩
theorem vw_u {M : vM} {r j i : Nat} {v : Int32} (h : i < zs j) : vw (uE M j (zs j * r + i) v) r = vi_u2 (vw M r) j i v := by
  funext j' i'
  by_cases e : j' = j ∧ i' = i
  · obtain ⟨rfl, rfl⟩ := e
    rw [vi_u2s, vw_a h, uE_s]
  · rw [vi_u2v _ _ _ _ e]
    unfold vw
    by_cases h2 : i' < zs j'
    · rw [if_pos h2, if_pos h2]
      by_cases ej : j' = j
      · subst ej
        exact uE_i _ _ (fun q => e ⟨rfl, (zs_in h h2 q).2⟩)
      · exact uE_j _ _ _ ej
    · rw [if_neg h2, if_neg h2]
theorem vw_o {M : vM} {r r' j i : Nat} {v : Int32} (h : i < zs j) (hr : r' ≠ r) : vw (uE M j (zs j * r + i) v) r' = vw M r' := by
  funext j' i'
  unfold vw
  by_cases h2 : i' < zs j'
  · rw [if_pos h2, if_pos h2]
    by_cases ej : j' = j
    · subst ej
      exact uE_i _ _ (fun q => hr (zs_in h h2 q).1)
    · exact uE_j _ _ _ ej
  · rw [if_neg h2, if_neg h2]
theorem vw_z {M : vM} {r j x : Nat} {v : Int32} (h : zs j = 0) : vw (uE M j x v) r = vw M r := by
  funext j' i'
  unfold vw
  by_cases h2 : i' < zs j'
  · rw [if_pos h2, if_pos h2]
    exact uE_j _ _ _ (fun q => by rw [q, h] at h2; exact absurd h2 (Nat.not_lt_zero _))
  · rw [if_neg h2, if_neg h2]
theorem vw_sl {M : vM} {r : Nat} {l : List Nat} : vw (sl M l) r = vw M r := by
  funext j' i'
  unfold vw
  by_cases h2 : i' < zs j'
  · rw [if_pos h2, if_pos h2]
    exact sl_2 _ _ _ (fun q => by rw [q] at h2; exact absurd h2 (Nat.not_lt_zero _))
  · rw [if_neg h2, if_neg h2]
def sc (j : Nat) : Bool := match j with
  | 6 => true
  | 7 => true
  | 8 => true
  | 9 => true
  | 10 => true
  | 11 => true
  | 12 => true
  | 13 => true
  | 19 => true
  | 20 => true
  | 21 => true
  | 22 => true
  | 23 => true
  | 24 => true
  | 25 => true
  | 31 => true
  | 32 => true
  | 33 => true
  | 34 => true
  | 35 => true
  | 43 => true
  | 44 => true
  | _ => false
theorem sc_1 {j : Nat} (h : sc j = true) : zs j = 1 := by
  by_cases hj : j < 45
  · have : ∀ j : Fin 45, sc j.1 = true → zs j.1 = 1 := by decide
    exact this ⟨j, hj⟩ h
  · exfalso
    have : sc j = false := by
      unfold sc
      split <;> first | omega | rfl
    rw [this] at h
    exact absurd h (by decide)
/-- a row that holds the state at an index -/
def imA (f : Nat → Int32) (a : Nat) (V : Nat) (s : Sta) (i : Nat) : Prop := f a = nI i ∧ (∀ k, k < 16 → f (a + 1 + k) = s.1 k) ∧ (∀ k, k < 16 → f (a + 17 + k) = nI (s.2.1 k)) ∧ (∀ k, k < 16 → f (a + 33 + k) = nI (s.2.2.1 k)) ∧ ∀ v, v < V → f (a + 49 + v) = y_wn s i v
def ntA (V : Nat) (st : Nat → Sta) (w : Nat → Nat → Int32) (k : Nat) (n : Nt) : Prop := w 28 (4 * k) = nI n.1 ∧ w 28 (4 * k + 1) = nI n.2.1 ∧ w 28 (4 * k + 2) = nI n.2.2.1 ∧ w 28 (4 * k + 3) = nI n.2.2.2.1 ∧ (n.1 = 4 → imA (w 29) (100 * k) V (st n.2.2.2.2) n.2.2.2.2) ∧ (n.1 = 5 → ∀ x, x < 16 → w 29 (100 * k + x) = (st n.2.2.2.2).1 x)
def ntD : Nt := (0, 0, 0, 0, 0)
def RR (V : Nat) (st : Nat → Sta) (lg : Nat → Nat) (w : Nat → Nat → Int32) (R : Rp) : Prop :=
  (∀ j, sc j = true → w j 0 = nI (R.1 j)) ∧
  (∀ i k, R.1 8 ≤ i → i ≤ R.1 7 → k < 16 → w 14 (16 * (i % 40) + k) = (st i).1 k) ∧
  (∀ i, 1 ≤ i → R.1 7 < i + V → i ≤ R.1 7 → w 15 (i % 40) = (st i).2.2.2 i) ∧
  (∀ i, R.1 9 < i → i ≤ R.1 7 → w 16 (i % 40) = nI (lg i)) ∧
  (∀ s, s < 16 → w 17 s = nI ((st (R.1 7)).2.1 s)) ∧
  (∀ s, s < 16 → w 18 s = nI ((st (R.1 7)).2.2.1 s)) ∧
  (∀ k, k < R.2.1.length → w 26 k = nI (R.2.1.getD k 0)) ∧ w 27 0 = nI R.2.1.length ∧
  (∀ k, k < R.2.2.1.length → ntA V st w k (R.2.2.1.getD k ntD)) ∧ w 30 0 = nI R.2.2.1.length ∧
  (∀ a, a < 32768 → w 36 a = sb_b (R.2.2.2 a))
def sf (f : Nat) : Bool := match f with
  | 1 => true
  | 2 => true
  | 3 => true
  | 4 => true
  | 11 => true
  | 54 => true
  | 55 => true
  | 56 => true
  | _ => false
def sse (f : Nat) : Bool := match f with
  | 46 => true
  | 47 => true
  | 48 => true
  | 49 => true
  | 52 => true
  | 53 => true
  | _ => false
def RT (A : Nat → Nat → Int32) (tb : Nat → Rq) (n : Nat) : Prop := ∀ q, 0 < q → q < n → (∀ f, f < 3 → A f q = nI ((tb q).1 f)) ∧ A 3 q = (tb q).2.1 3 ∧ A 4 q = (tb q).2.1 4 ∧ ∀ k, k < 16 → A 5 (16 * q + k) = (tb q).2.2 k
def RS (A : Nat → Nat → Int32) (s : Nat) (e : Se) : Prop := (∀ f, sse f = true → A f s = nI (e.1 f)) ∧ A 50 s = e.2.1 50 ∧ A 51 s = e.2.1 51 ∧ ∀ k, k < 16 → A 54 (16 * s + k) = e.2.2 k
def RG (A : Nat → Nat → Int32) (V : Nat) (st : Nat → Sta) (i : Nat) (m : Mg) : Prop := (∀ f, f < 8 → A 39 (8 * i + f) = nI (m f)) ∧ A 41 i = (if m 0 = 8 then nI (m 8) else -1) ∧ (m 0 = 8 → imA (A 40) (100 * i) V (st (m 4)) (m 4))
def mgD : Mg := fun _ => 0
def WM (M : vM) (S : Sx) : Prop :=
  (∀ f, sf f = true → M.1 f = nI (S.1 f)) ∧ M.1 53 = nI S.fl.length ∧ RT M.2 S.tb (S.1 4) ∧
  (∀ r, r < 9 → RR S.V S.sta S.lg (vw M r) (S.rp r)) ∧ (∀ s, s < 16 → RS M.2 s (S.se s)) ∧
  (∀ i, i < S.fl.length → RG M.2 S.V S.sta i (S.fl.getD i mgD))
