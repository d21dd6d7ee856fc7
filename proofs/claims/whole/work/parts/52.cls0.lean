/-! ===== the class as a pure machine ===== -/
/-- ints and references by field and object; rows by field, object and place; disks; rows of references; requests and their rows by address: kind, length, contents; the next address -/
abbrev vC : Type := (Nat → Nat → Int32) × (Nat → Nat → Option Nat) × (Nat → Nat → Nat → Int32) × (Nat → Nat → Int64) × (Nat → Nat → Nat → Option Nat) × (Nat → Nat) × (Nat → Nat) × (Nat → Nat → Int32) × Nat
def cI (c : vC) : Nat → Nat → Int32 := c.1
def cP (c : vC) : Nat → Nat → Option Nat := c.2.1
def cR (c : vC) : Nat → Nat → Nat → Int32 := c.2.2.1
def cJ (c : vC) : Nat → Nat → Int64 := c.2.2.2.1
def cQ (c : vC) : Nat → Nat → Nat → Option Nat := c.2.2.2.2.1
def cK (c : vC) : Nat → Nat := c.2.2.2.2.2.1
def cN (c : vC) : Nat → Nat := c.2.2.2.2.2.2.1
def cD (c : vC) : Nat → Nat → Int32 := c.2.2.2.2.2.2.2.1
def cz (c : vC) : Nat := c.2.2.2.2.2.2.2.2
def uI (c : vC) (f i : Nat) (v : Int32) : vC := (vi_u2 (cI c) f i v, cP c, cR c, cJ c, cQ c, cK c, cN c, cD c, cz c)
def uP (c : vC) (f i : Nat) (v : Option Nat) : vC := (cI c, vi_u2 (cP c) f i v, cR c, cJ c, cQ c, cK c, cN c, cD c, cz c)
def uR (c : vC) (f i j : Nat) (v : Int32) : vC := (cI c, cP c, vi_u2 (cR c) f i (va_up (cR c f i) j v), cJ c, cQ c, cK c, cN c, cD c, cz c)
def uJ (c : vC) (i j : Nat) (v : Int64) : vC := (cI c, cP c, cR c, vi_u2 (cJ c) i j v, cQ c, cK c, cN c, cD c, cz c)
def uQ (c : vC) (f i j : Nat) (v : Option Nat) : vC := (cI c, cP c, cR c, cJ c, vi_u2 (cQ c) f i (va_up (cQ c f i) j v), cK c, cN c, cD c, cz c)
def uD (c : vC) (a j : Nat) (v : Int32) : vC := (cI c, cP c, cR c, cJ c, cQ c, cK c, cN c, vi_u2 (cD c) a j v, cz c)
/-- a new request -/
def nQ (c : vC) : vC := (fun f i => if i = cz c ∧ 800 ≤ f ∧ f < 900 then 0 else cI c f i, fun f i => if i = cz c ∧ f = 805 then none else cP c f i, cR c, cJ c, cQ c, va_up (cK c) (cz c) 9, cN c, cD c, cz c + 1)
/-- a new row -/
def nD (c : vC) (k n : Nat) : vC := (cI c, cP c, cR c, cJ c, cQ c, va_up (cK c) (cz c) k, va_up (cN c) (cz c) n, va_up (cD c) (cz c) (fun _ => 0), cz c + 1)
/-- the address of object i of class k -/
def ad (z x k i : Nat) : Nat := match k with
  | 0 => if i = 0 then z else if i = 1 then z + 239 else z + 241
  | 1 => z + 4 + i
  | 2 => z + 250 + 14 * i
  | 3 => z + 2
  | 4 => z + 257 + 14 * i
  | 5 => z + 255 + 14 * i
  | 6 => z + 253 + 14 * i
  | 7 => z + 252 + 14 * i
  | 9 => z + 207 + 2 * i
  | 10 => z + 244 + 14 * i
  | _ => x
def okS (N k i : Nat) : Prop := match k with
  | 0 => i < 3
  | 1 => i < 202
  | 2 => i < N
  | 3 => i = 0
  | 4 => i < N
  | 5 => i < N
  | 6 => i < N
  | 7 => i < N
  | 9 => i < 16
  | 10 => i < N
  | 11 => i = 0
  | _ => False
/-- rows that are there from the start: kind, length, address -/
def ak (f : Nat) : Nat := match f with
  | 0 => 20
  | 200 => 22
  | 300 => 24
  | 500 => 20
  | 600 => 26
  | 900 => 21
  | 1002 => 21
  | 1003 => 21
  | 1004 => 21
  | 1005 => 21
  | 1006 => 26
  | _ => 0
def al (f : Nat) : Nat := match f with
  | 0 => 2048
  | 200 => 4096
  | 300 => 200
  | 500 => 256
  | 600 => 8
  | 900 => 16
  | 1002 => 16
  | 1003 => 16
  | 1004 => 16
  | 1005 => 272
  | 1006 => 32
  | _ => 0
def aa (z x f i : Nat) : Nat := match f with
  | 0 => ad z x 0 i + 1
  | 200 => z + 251 + 14 * i
  | 300 => z + 3
  | 500 => z + 256 + 14 * i
  | 600 => z + 254 + 14 * i
  | 900 => z + 208 + 2 * i
  | 1002 => z + 245 + 14 * i
  | 1003 => z + 246 + 14 * i
  | 1004 => z + 247 + 14 * i
  | 1005 => z + 248 + 14 * i
  | 1006 => z + 249 + 14 * i
  | _ => 0
def okA (N f i : Nat) : Prop := okS N (f / 100) i ∧ ak f ≠ 0
def sref (z x f i : Nat) : Option Nat := match f with
  | 0 => some (aa z x 0 i)
  | 200 => some (aa z x 200 i)
  | 300 => some (aa z x 300 i)
  | 500 => some (aa z x 500 i)
  | 600 => some (aa z x 600 i)
  | 900 => some (aa z x 900 i)
  | 1002 => some (aa z x 1002 i)
  | 1003 => some (aa z x 1003 i)
  | 1004 => some (aa z x 1004 i)
  | 1005 => some (aa z x 1005 i)
  | 1006 => some (aa z x 1006 i)
  | 201 => some (ad z x 0 2)
  | 302 => some (ad z x 1 1)
  | 703 => some (ad z x 10 i)
  | 704 => some (ad z x 2 i)
  | 705 => some (ad z x 6 i)
  | 706 => some (ad z x 5 i)
  | 707 => some (ad z x 4 i)
  | 708 => some (ad z x 3 0)
  | 710 => some (ad z x 0 1)
  | 1105 => some (ad z x 3 0)
  | 1106 => some (ad z x 0 0)
  | 709 => some (z + 206)
  | 1104 => some (z + 206)
  | 1103 => some (z + 243)
  | _ => none
def drf (f : Nat) : Bool := f == 105 || f == 107 || f == 403 || f == 404 || f == 713 || f == 908
def RC (S : vS) (z x N d0 : Nat) (c : vC) : Prop :=
  (x < z ∧ z + 244 + 14 * N ≤ d0 ∧ d0 ≤ cz c) ∧
  (∀ k i, okS N k i → vK S (ad z x k i) = k + 1 ∧ ∀ j, j < 100 → vI S (100 * k + j) (ad z x k i) = cI c (100 * k + j) i) ∧
  (∀ k j i t, okS N k i → j < 100 → sref z x (100 * k + j) i = some t → vP S (100 * k + j) (ad z x k i) = some t) ∧
  (∀ k j i, okS N k i → j < 100 → drf (100 * k + j) = true → vP S (100 * k + j) (ad z x k i) = cP c (100 * k + j) i) ∧
  vP S 301 (z + 2) = (cP c 301 0).map (ad z x 1) ∧
  (∀ f i, okA N f i → vK S (aa z x f i) = ak f ∧ vN S (aa z x f i) = al f ∧ (ak f = 20 ∨ ak f = 21 → vR S (aa z x f i) = cR c f i) ∧ (ak f = 22 → vJ S (aa z x f i) = cJ c i) ∧ (ak f = 26 → vQ S (aa z x f i) = cQ c f i) ∧ (ak f = 24 → ∀ j, j < 200 → vQ S (aa z x f i) j = (cQ c f i j).map (ad z x 1))) ∧
  (vK S (z + 206) = 27 ∧ vN S (z + 206) = 16 ∧ (∀ s, s < 16 → vQ S (z + 206) s = some (ad z x 9 s)) ∧ vK S (z + 243) = 25 ∧ vN S (z + 243) = N ∧ ∀ r, r < N → vQ S (z + 243) r = some (ad z x 7 r)) ∧
  ∀ a, cK c a ≠ 0 → (d0 ≤ a ∧ a < cz c) ∧ vK S a = cK c a ∧ (cK c a = 9 ∨ cK c a = 20 ∨ cK c a = 21) ∧ (cK c a = 9 → (∀ j, j < 100 → vI S (800 + j) a = cI c (800 + j) a) ∧ vP S 805 a = cP c 805 a) ∧ (cK c a = 20 ∨ cK c a = 21 → vN S a = cN c a ∧ vR S a = cD c a)
/-- nothing changed but what is the class's -/
def cF (S0 S : vS) (z x N d0 : Nat) : Prop := ∀ a, a < d0 → a ≠ x → ¬ (z ≤ a ∧ a < z + 244 + 14 * N) → vK S a = vK S0 a ∧ vN S a = vN S0 a ∧ (∀ f, vI S f a = vI S0 f a) ∧ (∀ f, vP S f a = vP S0 f a) ∧ vR S a = vR S0 a ∧ vJ S a = vJ S0 a ∧ vQ S a = vQ S0 a
theorem cF.refl (S : vS) (z x N d0 : Nat) : cF S S z x N d0 := fun _ _ _ _ => ⟨rfl, rfl, fun _ => rfl, fun _ => rfl, rfl, rfl, rfl⟩
theorem cF.tr {S S1 S2 : vS} {z x N d0 : Nat} (h : cF S S1 z x N d0) (g : cF S1 S2 z x N d0) : cF S S2 z x N d0 := fun a h1 h2 h3 => by
  obtain ⟨a1, a2, a3, a4, a5, a6, a7⟩ := h a h1 h2 h3
  obtain ⟨b1, b2, b3, b4, b5, b6, b7⟩ := g a h1 h2 h3
  exact ⟨b1.trans a1, b2.trans a2, fun f => (b3 f).trans (a3 f), fun f => (b4 f).trans (a4 f), b5.trans a5, b6.trans a6, b7.trans a7⟩
theorem okc {N k i : Nat} (h : okS N k i) : k = 0 ∧ i < 3 ∨ k = 1 ∧ i < 202 ∨ k = 2 ∧ i < N ∨ k = 3 ∧ i = 0 ∨ k = 4 ∧ i < N ∨ k = 5 ∧ i < N ∨ k = 6 ∧ i < N ∨ k = 7 ∧ i < N ∨ k = 9 ∧ i < 16 ∨ k = 10 ∧ i < N ∨ k = 11 ∧ i = 0 := by
  unfold okS at h
  split at h <;> first | omega | (exfalso; exact h)
theorem adI {z x N k i i' : Nat} (h : okS N k i) (h' : okS N k i') (e : ad z x k i = ad z x k i') : i = i' := by
  rcases okc h with ⟨rfl, g⟩ | ⟨rfl, g⟩ | ⟨rfl, g⟩ | ⟨rfl, g⟩ | ⟨rfl, g⟩ | ⟨rfl, g⟩ | ⟨rfl, g⟩ | ⟨rfl, g⟩ | ⟨rfl, g⟩ | ⟨rfl, g⟩ | ⟨rfl, g⟩ <;> simp only [ad] at e <;> simp only [okS] at h' <;> first | omega | (split at e <;> split at e <;> (try split at e) <;> (try split at e) <;> omega)
theorem adO {z x N k i : Nat} (h : okS N k i) : ad z x k i = x ∨ (z ≤ ad z x k i ∧ ad z x k i < z + 244 + 14 * N) := by
  rcases okc h with ⟨rfl, g⟩ | ⟨rfl, g⟩ | ⟨rfl, g⟩ | ⟨rfl, g⟩ | ⟨rfl, g⟩ | ⟨rfl, g⟩ | ⟨rfl, g⟩ | ⟨rfl, g⟩ | ⟨rfl, g⟩ | ⟨rfl, g⟩ | ⟨rfl, g⟩ <;> simp only [ad, true_or] <;> first | omega | (split <;> (try split) <;> omega)
theorem akc {N f i : Nat} (h : okA N f i) : f = 0 ∧ i < 3 ∨ f = 200 ∧ i < N ∨ f = 300 ∧ i = 0 ∨ f = 500 ∧ i < N ∨ f = 600 ∧ i < N ∨ f = 900 ∧ i < 16 ∨ f = 1002 ∧ i < N ∨ f = 1003 ∧ i < N ∨ f = 1004 ∧ i < N ∨ f = 1005 ∧ i < N ∨ f = 1006 ∧ i < N := by
  obtain ⟨h1, h2⟩ := h
  unfold ak at h2
  split at h2 <;> first | (simp only [okS] at h1; omega) | exact absurd rfl h2
theorem ad0 {z x i : Nat} (h : i < 3) : ad z x 0 i = z ∧ i = 0 ∨ ad z x 0 i = z + 239 ∧ i = 1 ∨ ad z x 0 i = z + 241 ∧ i = 2 := by
  simp only [ad]
  rcases (show i = 0 ∨ i = 1 ∨ i = 2 by omega) with rfl | rfl | rfl <;> simp
theorem aaO {z x N f i : Nat} (h : okA N f i) : z ≤ aa z x f i ∧ aa z x f i < z + 244 + 14 * N ∧ aa z x f i ≠ z + 206 ∧ aa z x f i ≠ z + 243 := by
  rcases akc h with ⟨rfl, g⟩ | ⟨rfl, g⟩ | ⟨rfl, g⟩ | ⟨rfl, g⟩ | ⟨rfl, g⟩ | ⟨rfl, g⟩ | ⟨rfl, g⟩ | ⟨rfl, g⟩ | ⟨rfl, g⟩ | ⟨rfl, g⟩ | ⟨rfl, g⟩ <;> simp only [aa] <;> first | omega | (have := ad0 (z := z) (x := x) g; omega)
theorem aaI {z x N f i f' i' : Nat} (h : okA N f i) (h' : okA N f' i') (e : aa z x f i = aa z x f' i') : f = f' ∧ i = i' := by
  rcases akc h with ⟨rfl, g⟩ | ⟨rfl, g⟩ | ⟨rfl, g⟩ | ⟨rfl, g⟩ | ⟨rfl, g⟩ | ⟨rfl, g⟩ | ⟨rfl, g⟩ | ⟨rfl, g⟩ | ⟨rfl, g⟩ | ⟨rfl, g⟩ | ⟨rfl, g⟩ <;> rcases akc h' with ⟨rfl, g2⟩ | ⟨rfl, g2⟩ | ⟨rfl, g2⟩ | ⟨rfl, g2⟩ | ⟨rfl, g2⟩ | ⟨rfl, g2⟩ | ⟨rfl, g2⟩ | ⟨rfl, g2⟩ | ⟨rfl, g2⟩ | ⟨rfl, g2⟩ | ⟨rfl, g2⟩ <;> simp only [aa] at e <;> first | omega | (have q1 := ad0 (z := z) (x := x) g; first | omega | (have q2 := ad0 (z := z) (x := x) g2; omega)) | (have q2 := ad0 (z := z) (x := x) g2; omega)
theorem okS8 {N k i : Nat} (h : okS N k i) : k ≠ 8 ∧ k < 12 := by
  rcases okc h with ⟨rfl, g⟩ | ⟨rfl, g⟩ | ⟨rfl, g⟩ | ⟨rfl, g⟩ | ⟨rfl, g⟩ | ⟨rfl, g⟩ | ⟨rfl, g⟩ | ⟨rfl, g⟩ | ⟨rfl, g⟩ | ⟨rfl, g⟩ | ⟨rfl, g⟩ <;> decide
theorem rcI {S S0 : vS} {z x N d0 k j i : Nat} {c : vC} (h : RC S z x N d0 c) (g : cF S0 S z x N d0) (ho : okS N k i) (hj : j < 100) (v : Int32) : RC (sI S (100 * k + j) (ad z x k i) v) z x N d0 (uI c (100 * k + j) i v) ∧ cF S0 (sI S (100 * k + j) (ad z x k i) v) z x N d0 := by
  obtain ⟨h1, h2, h3, h4, h5, h6, h7, h8⟩ := h
  refine ⟨⟨h1, fun k' i' ho' => ⟨(h2 k' i' ho').1, fun j' hj' => ?_⟩, h3, h4, h5, h6, h7, fun a ha => ?_⟩, fun a a1 a2 a3 => ?_⟩
  · show vi_u2 (vI S) (100 * k + j) (ad z x k i) v (100 * k' + j') (ad z x k' i') = vi_u2 (cI c) (100 * k + j) i v (100 * k' + j') i'
    by_cases e : 100 * k' + j' = 100 * k + j
    · have e1 : k' = k := by omega
      have e2 : j' = j := by omega
      subst e1 e2
      by_cases e3 : i' = i
      · subst e3; rw [vi_u2s, vi_u2s]
      · rw [vi_u2a _ _ (fun q => e3 (adI ho' ho q)), vi_u2a _ _ e3]; exact (h2 k' i' ho').2 j' hj'
    · rw [vi_u2i _ _ e, vi_u2i _ _ e]; exact (h2 k' i' ho').2 j' hj'
  · obtain ⟨q1, q2, q3, q4, q5⟩ := h8 a ha
    refine ⟨q1, q2, q3, fun e => ⟨fun j' hj' => ?_, (q4 e).2⟩, q5⟩
    have := (okS8 ho).1
    show vi_u2 (vI S) (100 * k + j) (ad z x k i) v (800 + j') a = vi_u2 (cI c) (100 * k + j) i v (800 + j') a
    rw [vi_u2i _ _ (by omega), vi_u2i _ _ (by omega)]
    exact (q4 e).1 j' hj'
  · obtain ⟨b1, b2, b3, b4, b5, b6, b7⟩ := g a a1 a2 a3
    refine ⟨b1, b2, fun f => ?_, b4, b5, b6, b7⟩
    show vi_u2 (vI S) (100 * k + j) (ad z x k i) v f a = _
    have := adO (z := z) (x := x) ho
    rw [vi_u2a _ _ (by omega)]; exact b3 f
theorem drfS {z x f i : Nat} (h : drf f = true) : sref z x f i = none := by
  unfold drf at h
  simp only [Bool.or_eq_true, beq_iff_eq] at h
  rcases h with ((((rfl | rfl) | rfl) | rfl) | rfl) | rfl <;> rfl
theorem rcP {S S0 : vS} {z x N d0 k j i : Nat} {c : vC} (h : RC S z x N d0 c) (g : cF S0 S z x N d0) (ho : okS N k i) (hj : j < 100) (hd : drf (100 * k + j) = true) (v : Option Nat) : RC (sP S (100 * k + j) (ad z x k i) v) z x N d0 (uP c (100 * k + j) i v) ∧ cF S0 (sP S (100 * k + j) (ad z x k i) v) z x N d0 := by
  obtain ⟨h1, h2, h3, h4, h5, h6, h7, h8⟩ := h
  have hn : 100 * k + j ≠ 301 ∧ 100 * k + j ≠ 805 := ⟨fun e => by rw [e] at hd; revert hd; decide, fun e => by rw [e] at hd; revert hd; decide⟩
  refine ⟨⟨h1, h2, fun k' j' i' t ho' hj' ht => ?_, fun k' j' i' ho' hj' hd' => ?_, ?_, h6, h7, fun a ha => ?_⟩, fun a a1 a2 a3 => ?_⟩
  · show vi_u2 (vP S) (100 * k + j) (ad z x k i) v (100 * k' + j') (ad z x k' i') = some t
    rw [vi_u2i _ _ (fun e => by rw [e, drfS hd] at ht; cases ht)]
    exact h3 k' j' i' t ho' hj' ht
  · show vi_u2 (vP S) (100 * k + j) (ad z x k i) v (100 * k' + j') (ad z x k' i') = vi_u2 (cP c) (100 * k + j) i v (100 * k' + j') i'
    by_cases e : 100 * k' + j' = 100 * k + j
    · have e1 : k' = k := by omega
      have e2 : j' = j := by omega
      subst e1 e2
      by_cases e3 : i' = i
      · subst e3; rw [vi_u2s, vi_u2s]
      · rw [vi_u2a _ _ (fun q => e3 (adI ho' ho q)), vi_u2a _ _ e3]; exact h4 k' j' i' ho' hj' hd'
    · rw [vi_u2i _ _ e, vi_u2i _ _ e]; exact h4 k' j' i' ho' hj' hd'
  · show vi_u2 (vP S) (100 * k + j) (ad z x k i) v 301 (z + 2) = (vi_u2 (cP c) (100 * k + j) i v 301 0).map (ad z x 1)
    rw [vi_u2i _ _ (Ne.symm hn.1), vi_u2i _ _ (Ne.symm hn.1)]; exact h5
  · obtain ⟨q1, q2, q3, q4, q5⟩ := h8 a ha
    refine ⟨q1, q2, q3, fun e => ⟨(q4 e).1, ?_⟩, q5⟩
    show vi_u2 (vP S) (100 * k + j) (ad z x k i) v 805 a = vi_u2 (cP c) (100 * k + j) i v 805 a
    rw [vi_u2i _ _ (Ne.symm hn.2), vi_u2i _ _ (Ne.symm hn.2)]; exact (q4 e).2
  · obtain ⟨b1, b2, b3, b4, b5, b6, b7⟩ := g a a1 a2 a3
    refine ⟨b1, b2, b3, fun f => ?_, b5, b6, b7⟩
    show vi_u2 (vP S) (100 * k + j) (ad z x k i) v f a = _
    have := adO (z := z) (x := x) ho
    rw [vi_u2a _ _ (by omega)]; exact b4 f
theorem rcPF {S S0 : vS} {z x N d0 : Nat} {c : vC} (h : RC S z x N d0 c) (g : cF S0 S z x N d0) (v : Option Nat) : RC (sP S 301 (z + 2) (v.map (ad z x 1))) z x N d0 (uP c 301 0 v) ∧ cF S0 (sP S 301 (z + 2) (v.map (ad z x 1))) z x N d0 := by
  obtain ⟨h1, h2, h3, h4, h5, h6, h7, h8⟩ := h
  refine ⟨⟨h1, h2, fun k' j' i' t ho' hj' ht => ?_, fun k' j' i' ho' hj' hd' => ?_, ?_, h6, h7, fun a ha => ?_⟩, fun a a1 a2 a3 => ?_⟩
  · show vi_u2 (vP S) 301 (z + 2) (v.map (ad z x 1)) (100 * k' + j') (ad z x k' i') = some t
    rw [vi_u2i _ _ (fun e => by rw [e] at ht; cases ht)]
    exact h3 k' j' i' t ho' hj' ht
  · show vi_u2 (vP S) 301 (z + 2) (v.map (ad z x 1)) (100 * k' + j') (ad z x k' i') = vi_u2 (cP c) 301 0 v (100 * k' + j') i'
    have e : 100 * k' + j' ≠ 301 := fun e => by rw [e] at hd'; revert hd'; decide
    rw [vi_u2i _ _ e, vi_u2i _ _ e]; exact h4 k' j' i' ho' hj' hd'
  · show vi_u2 (vP S) 301 (z + 2) (v.map (ad z x 1)) 301 (z + 2) = (vi_u2 (cP c) 301 0 v 301 0).map (ad z x 1)
    rw [vi_u2s, vi_u2s]
  · obtain ⟨q1, q2, q3, q4, q5⟩ := h8 a ha
    refine ⟨q1, q2, q3, fun e => ⟨(q4 e).1, ?_⟩, q5⟩
    show vi_u2 (vP S) 301 (z + 2) (v.map (ad z x 1)) 805 a = vi_u2 (cP c) 301 0 v 805 a
    rw [vi_u2i _ _ (by decide), vi_u2i _ _ (by decide)]; exact (q4 e).2
  · obtain ⟨b1, b2, b3, b4, b5, b6, b7⟩ := g a a1 a2 a3
    refine ⟨b1, b2, b3, fun f => ?_, b5, b6, b7⟩
    show vi_u2 (vP S) 301 (z + 2) (v.map (ad z x 1)) f a = _
    rw [vi_u2a _ _ (by omega)]; exact b4 f
/-- fields of a request -/
theorem rcID {S S0 : vS} {z x N d0 j a : Nat} {c : vC} (h : RC S z x N d0 c) (g : cF S0 S z x N d0) (ha : cK c a = 9) (hj : j < 100) (v : Int32) : RC (sI S (800 + j) a v) z x N d0 (uI c (800 + j) a v) ∧ cF S0 (sI S (800 + j) a v) z x N d0 := by
  obtain ⟨h1, h2, h3, h4, h5, h6, h7, h8⟩ := h
  refine ⟨⟨h1, fun k' i' ho' => ⟨(h2 k' i' ho').1, fun j' hj' => ?_⟩, h3, h4, h5, h6, h7, fun a' ha' => ?_⟩, fun a' a1 a2 a3 => ?_⟩
  · show vi_u2 (vI S) (800 + j) a v (100 * k' + j') (ad z x k' i') = vi_u2 (cI c) (800 + j) a v (100 * k' + j') i'
    have := (okS8 ho').1
    rw [vi_u2i _ _ (by omega), vi_u2i _ _ (by omega)]; exact (h2 k' i' ho').2 j' hj'
  · obtain ⟨q1, q2, q3, q4, q5⟩ := h8 a' ha'
    refine ⟨q1, q2, q3, fun e => ⟨fun j' hj' => ?_, (q4 e).2⟩, q5⟩
    show vi_u2 (vI S) (800 + j) a v (800 + j') a' = vi_u2 (cI c) (800 + j) a v (800 + j') a'
    unfold vi_u2
    split
    · rfl
    · exact (q4 e).1 j' hj'
  · obtain ⟨b1, b2, b3, b4, b5, b6, b7⟩ := g a' a1 a2 a3
    refine ⟨b1, b2, fun f => ?_, b4, b5, b6, b7⟩
    show vi_u2 (vI S) (800 + j) a v f a' = _
    have := (h8 a (by omega)).1
    rw [vi_u2a _ _ (by omega)]; exact b3 f
theorem rcPD {S S0 : vS} {z x N d0 a : Nat} {c : vC} (h : RC S z x N d0 c) (g : cF S0 S z x N d0) (ha : cK c a = 9) (v : Option Nat) : RC (sP S 805 a v) z x N d0 (uP c 805 a v) ∧ cF S0 (sP S 805 a v) z x N d0 := by
  obtain ⟨h1, h2, h3, h4, h5, h6, h7, h8⟩ := h
  refine ⟨⟨h1, h2, fun k' j' i' t ho' hj' ht => ?_, fun k' j' i' ho' hj' hd' => ?_, ?_, h6, h7, fun a' ha' => ?_⟩, fun a' a1 a2 a3 => ?_⟩
  · show vi_u2 (vP S) 805 a v (100 * k' + j') (ad z x k' i') = some t
    have := (okS8 ho').1
    rw [vi_u2i _ _ (by omega)]; exact h3 k' j' i' t ho' hj' ht
  · show vi_u2 (vP S) 805 a v (100 * k' + j') (ad z x k' i') = vi_u2 (cP c) 805 a v (100 * k' + j') i'
    have := (okS8 ho').1
    rw [vi_u2i _ _ (by omega), vi_u2i _ _ (by omega)]; exact h4 k' j' i' ho' hj' hd'
  · show vi_u2 (vP S) 805 a v 301 (z + 2) = (vi_u2 (cP c) 805 a v 301 0).map (ad z x 1)
    rw [vi_u2i _ _ (by decide), vi_u2i _ _ (by decide)]; exact h5
  · obtain ⟨q1, q2, q3, q4, q5⟩ := h8 a' ha'
    refine ⟨q1, q2, q3, fun e => ⟨(q4 e).1, ?_⟩, q5⟩
    show vi_u2 (vP S) 805 a v 805 a' = vi_u2 (cP c) 805 a v 805 a'
    unfold vi_u2
    split
    · rfl
    · exact (q4 e).2
  · obtain ⟨b1, b2, b3, b4, b5, b6, b7⟩ := g a' a1 a2 a3
    refine ⟨b1, b2, b3, fun f => ?_, b5, b6, b7⟩
    show vi_u2 (vP S) 805 a v f a' = _
    have := (h8 a (by omega)).1
    rw [vi_u2a _ _ (by omega)]; exact b4 f
theorem vi_u2w2 {α : Type} (f : Nat → Nat → α) (a i : Nat) (v : α) : vi_u2 f a i v a = va_up (f a) i v := by
  funext j
  by_cases e : j = i
  · subst e; rw [vi_u2s, va_up_self]
  · rw [vi_u2a _ _ e, va_up_ne _ _ e]
theorem vi_u2v {α : Type} (f : Nat → Nat → α) (i a : Nat) (v : α) {j b : Nat} (h : ¬ (j = i ∧ b = a)) : vi_u2 f i a v j b = f j b := by
  unfold vi_u2
  rw [if_neg h]

theorem rcR {S S0 : vS} {z x N d0 f i : Nat} {c : vC} (h : RC S z x N d0 c) (g : cF S0 S z x N d0) (ho : okA N f i) (j : Nat) (v : Int32) : RC (sR S (aa z x f i) j v) z x N d0 (uR c f i j v) ∧ cF S0 (sR S (aa z x f i) j v) z x N d0 := by
  obtain ⟨h1, h2, h3, h4, h5, h6, h7, h8⟩ := h
  have hO := aaO (z := z) (x := x) ho
  refine ⟨⟨h1, h2, h3, h4, h5, fun f' i' ho' => ?_, h7, fun a ha => ?_⟩, fun a a1 a2 a3 => ?_⟩
  · obtain ⟨q1, q2, q3, q4, q5, q6⟩ := h6 f' i' ho'
    refine ⟨q1, q2, fun e => ?_, q4, q5, q6⟩
    show vi_u2 (vR S) (aa z x f i) j v (aa z x f' i') = vi_u2 (cR c) f i (va_up (cR c f i) j v) f' i'
    by_cases e1 : f' = f ∧ i' = i
    · obtain ⟨rfl, rfl⟩ := e1
      rw [vi_u2w2, vi_u2s, q3 e]
    · rw [vi_u2v _ _ _ _ e1, vi_u2r _ _ (fun q => e1 (aaI ho' ho q))]; exact q3 e
  · obtain ⟨q1, q2, q3, q4, q5⟩ := h8 a ha
    refine ⟨q1, q2, q3, q4, fun e => ⟨(q5 e).1, ?_⟩⟩
    show vi_u2 (vR S) (aa z x f i) j v a = cD c a
    rw [vi_u2r _ _ (by omega)]; exact (q5 e).2
  · obtain ⟨b1, b2, b3, b4, b5, b6, b7⟩ := g a a1 a2 a3
    refine ⟨b1, b2, b3, b4, ?_, b6, b7⟩
    show vi_u2 (vR S) (aa z x f i) j v a = _
    rw [vi_u2r _ _ (by omega)]; exact b5
theorem rcJ {S S0 : vS} {z x N d0 i : Nat} {c : vC} (h : RC S z x N d0 c) (g : cF S0 S z x N d0) (hi : i < N) (j : Nat) (v : Int64) : RC (sJ S (aa z x 200 i) j v) z x N d0 (uJ c i j v) ∧ cF S0 (sJ S (aa z x 200 i) j v) z x N d0 := by
  obtain ⟨h1, h2, h3, h4, h5, h6, h7, h8⟩ := h
  have ho : okA N 200 i := ⟨hi, by decide⟩
  have hO := aaO (z := z) (x := x) ho
  refine ⟨⟨h1, h2, h3, h4, h5, fun f' i' ho' => ?_, h7, h8⟩, fun a a1 a2 a3 => ?_⟩
  · obtain ⟨q1, q2, q3, q4, q5, q6⟩ := h6 f' i' ho'
    refine ⟨q1, q2, q3, fun e => ?_, q5, q6⟩
    show vi_u2 (vJ S) (aa z x 200 i) j v (aa z x f' i') = vi_u2 (cJ c) i j v i'
    by_cases e1 : f' = 200 ∧ i' = i
    · obtain ⟨rfl, rfl⟩ := e1
      rw [vi_u2w2, vi_u2w2, q4 e]
    · have e2 : i' ≠ i := fun q => e1 ⟨by rcases akc ho' with ⟨rfl, _⟩ | ⟨rfl, _⟩ | ⟨rfl, _⟩ | ⟨rfl, _⟩ | ⟨rfl, _⟩ | ⟨rfl, _⟩ | ⟨rfl, _⟩ | ⟨rfl, _⟩ | ⟨rfl, _⟩ | ⟨rfl, _⟩ | ⟨rfl, _⟩ <;> first | rfl | (revert e; decide), q⟩
      rw [vi_u2r _ _ (fun q => e1 (aaI ho' ho q)), vi_u2r _ _ e2]; exact q4 e
  · obtain ⟨b1, b2, b3, b4, b5, b6, b7⟩ := g a a1 a2 a3
    refine ⟨b1, b2, b3, b4, b5, ?_, b7⟩
    show vi_u2 (vJ S) (aa z x 200 i) j v a = _
    rw [vi_u2r _ _ (by omega)]; exact b6
theorem rcQ {S S0 : vS} {z x N d0 f i : Nat} {c : vC} (h : RC S z x N d0 c) (g : cF S0 S z x N d0) (ho : okA N f i) (hf : ak f = 26) (j : Nat) (v : Option Nat) : RC (sQ S (aa z x f i) j v) z x N d0 (uQ c f i j v) ∧ cF S0 (sQ S (aa z x f i) j v) z x N d0 := by
  obtain ⟨h1, h2, h3, h4, h5, h6, h7, h8⟩ := h
  have hO := aaO (z := z) (x := x) ho
  refine ⟨⟨h1, h2, h3, h4, h5, fun f' i' ho' => ?_, ?_, h8⟩, fun a a1 a2 a3 => ?_⟩
  · obtain ⟨q1, q2, q3, q4, q5, q6⟩ := h6 f' i' ho'
    refine ⟨q1, q2, q3, q4, fun e => ?_, fun e => ?_⟩
    · show vi_u2 (vQ S) (aa z x f i) j v (aa z x f' i') = vi_u2 (cQ c) f i (va_up (cQ c f i) j v) f' i'
      by_cases e1 : f' = f ∧ i' = i
      · obtain ⟨rfl, rfl⟩ := e1
        rw [vi_u2w2, vi_u2s, q5 e]
      · rw [vi_u2v _ _ _ _ e1, vi_u2r _ _ (fun q => e1 (aaI ho' ho q))]; exact q5 e
    · have e1 : f' ≠ f := fun q => by rw [q, hf] at e; cases e
      intro j' hj'
      show vi_u2 (vQ S) (aa z x f i) j v (aa z x f' i') j' = (vi_u2 (cQ c) f i (va_up (cQ c f i) j v) f' i' j').map (ad z x 1)
      rw [vi_u2v _ _ _ _ (fun q => e1 q.1), vi_u2r _ _ (fun q => e1 (aaI ho' ho q).1)]; exact q6 e j' hj'
  · obtain ⟨p1, p2, p3, p4, p5, p6⟩ := h7
    refine ⟨p1, p2, fun s hs => ?_, p4, p5, fun r hr => ?_⟩
    · show vi_u2 (vQ S) (aa z x f i) j v (z + 206) s = _
      rw [vi_u2i _ _ (by omega)]; exact p3 s hs
    · show vi_u2 (vQ S) (aa z x f i) j v (z + 243) r = _
      rw [vi_u2i _ _ (by omega)]; exact p6 r hr
  · obtain ⟨b1, b2, b3, b4, b5, b6, b7⟩ := g a a1 a2 a3
    refine ⟨b1, b2, b3, b4, b5, b6, ?_⟩
    show vi_u2 (vQ S) (aa z x f i) j v a = _
    rw [vi_u2r _ _ (by omega)]; exact b7
theorem rcQF {S S0 : vS} {z x N d0 : Nat} {c : vC} (h : RC S z x N d0 c) (g : cF S0 S z x N d0) (j : Nat) (v : Option Nat) : RC (sQ S (aa z x 300 0) j (v.map (ad z x 1))) z x N d0 (uQ c 300 0 j v) ∧ cF S0 (sQ S (aa z x 300 0) j (v.map (ad z x 1))) z x N d0 := by
  obtain ⟨h1, h2, h3, h4, h5, h6, h7, h8⟩ := h
  have ho : okA N 300 0 := ⟨rfl, by decide⟩
  have hO := aaO (z := z) (x := x) ho
  refine ⟨⟨h1, h2, h3, h4, h5, fun f' i' ho' => ?_, ?_, h8⟩, fun a a1 a2 a3 => ?_⟩
  · obtain ⟨q1, q2, q3, q4, q5, q6⟩ := h6 f' i' ho'
    refine ⟨q1, q2, q3, q4, fun e => ?_, fun e => ?_⟩
    · have e1 : f' ≠ 300 := fun q => by rw [q] at e; revert e; decide
      show vi_u2 (vQ S) (aa z x 300 0) j (v.map (ad z x 1)) (aa z x f' i') = vi_u2 (cQ c) 300 0 (va_up (cQ c 300 0) j v) f' i'
      rw [vi_u2v _ _ _ _ (fun q => e1 q.1), vi_u2r _ _ (fun q => e1 (aaI ho' ho q).1)]; exact q5 e
    · intro j' hj'
      show vi_u2 (vQ S) (aa z x 300 0) j (v.map (ad z x 1)) (aa z x f' i') j' = (vi_u2 (cQ c) 300 0 (va_up (cQ c 300 0) j v) f' i' j').map (ad z x 1)
      by_cases e1 : f' = 300 ∧ i' = 0
      · obtain ⟨rfl, rfl⟩ := e1
        rw [vi_u2w2, vi_u2s]
        by_cases e2 : j' = j
        · subst e2; rw [va_up_self, va_up_self]
        · rw [va_up_ne _ _ e2, va_up_ne _ _ e2]; exact q6 e j' hj'
      · rw [vi_u2v _ _ _ _ e1, vi_u2r _ _ (fun q => e1 (aaI ho' ho q))]; exact q6 e j' hj'
  · obtain ⟨p1, p2, p3, p4, p5, p6⟩ := h7
    refine ⟨p1, p2, fun s hs => ?_, p4, p5, fun r hr => ?_⟩
    · show vi_u2 (vQ S) (aa z x 300 0) j (v.map (ad z x 1)) (z + 206) s = _
      rw [vi_u2i _ _ (by omega)]; exact p3 s hs
    · show vi_u2 (vQ S) (aa z x 300 0) j (v.map (ad z x 1)) (z + 243) r = _
      rw [vi_u2i _ _ (by omega)]; exact p6 r hr
  · obtain ⟨b1, b2, b3, b4, b5, b6, b7⟩ := g a a1 a2 a3
    refine ⟨b1, b2, b3, b4, b5, b6, ?_⟩
    show vi_u2 (vQ S) (aa z x 300 0) j (v.map (ad z x 1)) a = _
    rw [vi_u2r _ _ (by omega)]; exact b7
theorem rcD {S S0 : vS} {z x N d0 a : Nat} {c : vC} (h : RC S z x N d0 c) (g : cF S0 S z x N d0) (ha : cK c a = 20 ∨ cK c a = 21) (j : Nat) (v : Int32) : RC (sR S a j v) z x N d0 (uD c a j v) ∧ cF S0 (sR S a j v) z x N d0 := by
  obtain ⟨h1, h2, h3, h4, h5, h6, h7, h8⟩ := h
  have hA := (h8 a (by omega)).1
  refine ⟨⟨h1, h2, h3, h4, h5, fun f' i' ho' => ?_, h7, fun a' ha' => ?_⟩, fun a' a1 a2 a3 => ?_⟩
  · obtain ⟨q1, q2, q3, q4, q5, q6⟩ := h6 f' i' ho'
    refine ⟨q1, q2, fun e => ?_, q4, q5, q6⟩
    have hO := aaO (z := z) (x := x) ho'
    show vi_u2 (vR S) a j v (aa z x f' i') = cR c f' i'
    rw [vi_u2r _ _ (by omega)]; exact q3 e
  · obtain ⟨q1, q2, q3, q4, q5⟩ := h8 a' ha'
    refine ⟨q1, q2, q3, q4, fun e => ⟨(q5 e).1, ?_⟩⟩
    show vi_u2 (vR S) a j v a' = vi_u2 (cD c) a j v a'
    by_cases e1 : a' = a
    · subst e1; rw [vi_u2w2, vi_u2w2, (q5 e).2]
    · rw [vi_u2r _ _ e1, vi_u2r _ _ e1]; exact (q5 e).2
  · obtain ⟨b1, b2, b3, b4, b5, b6, b7⟩ := g a' a1 a2 a3
    refine ⟨b1, b2, b3, b4, ?_, b6, b7⟩
    show vi_u2 (vR S) a j v a' = _
    rw [vi_u2r _ _ (by omega)]; exact b5
theorem rcNQ {S S0 : vS} {z x N d0 : Nat} {c : vC} (h : RC S z x N d0 c) (g : cF S0 S z x N d0) : RC (nO S (cz c) 8) z x N d0 (nQ c) ∧ cF S0 (nO S (cz c) 8) z x N d0 := by
  obtain ⟨h1, h2, h3, h4, h5, h6, h7, h8⟩ := h
  have sk : ∀ a, a ≠ cz c → vK (nO S (cz c) 8) a = vK S a := fun a e => va_up_ne _ _ e
  have si : ∀ f a, a ≠ cz c → vI (nO S (cz c) 8) f a = vI S f a := fun f a e => if_neg e
  have sp : ∀ f a, a ≠ cz c → vP (nO S (cz c) 8) f a = vP S f a := fun f a e => if_neg e
  have ha : ∀ k i, okS N k i → ad z x k i ≠ cz c := fun k i ho => by have := adO (z := z) (x := x) ho; omega
  have haa : ∀ f i, okA N f i → aa z x f i ≠ cz c := fun f i ho => by have := aaO (z := z) (x := x) ho; omega
  refine ⟨⟨⟨h1.1, h1.2.1, Nat.le_succ_of_le h1.2.2⟩, fun k i ho => ⟨by rw [sk _ (ha k i ho)]; exact (h2 k i ho).1, fun j hj => ?_⟩, fun k j i t ho hj ht => by rw [sp _ _ (ha k i ho)]; exact h3 k j i t ho hj ht, fun k j i ho hj hd => ?_, ?_, fun f i ho => ?_, ?_, fun a hk => ?_⟩, fun a a1 a2 a3 => ?_⟩
  · rw [si _ _ (ha k i ho), (h2 k i ho).2 j hj]
    have h8' := (okS8 ho).1
    show _ = if i = cz c ∧ 800 ≤ 100 * k + j ∧ 100 * k + j < 900 then (0 : Int32) else cI c (100 * k + j) i
    rw [if_neg (by omega)]
  · rw [sp _ _ (ha k i ho), h4 k j i ho hj hd]
    have h8' := (okS8 ho).1
    show _ = if i = cz c ∧ 100 * k + j = 805 then none else cP c (100 * k + j) i
    rw [if_neg (by omega)]
  · rw [sp _ _ (by omega), h5]
    show _ = (if 0 = cz c ∧ 301 = 805 then none else cP c 301 0).map (ad z x 1)
    rw [if_neg (by omega)]
  · rw [sk _ (haa f i ho)]; exact h6 f i ho
  · rw [sk _ (by omega), sk _ (by omega)]; exact h7
  · by_cases e : a = cz c
    · subst e
      have e9 : cK (nQ c) (cz c) = 9 := va_up_self _ _ _
      refine ⟨⟨h1.2.2, Nat.lt_succ_self _⟩, ?_, Or.inl e9, fun _ => ⟨fun j hj => ?_, ?_⟩, fun e => ?_⟩
      · rw [e9]; exact va_up_self _ _ _
      · show (if cz c = cz c then (0 : Int32) else _) = if cz c = cz c ∧ 800 ≤ 800 + j ∧ 800 + j < 900 then (0 : Int32) else _
        rw [if_pos rfl, if_pos ⟨rfl, by omega, by omega⟩]
      · show (if cz c = cz c then none else _) = if cz c = cz c ∧ 805 = 805 then none else _
        rw [if_pos rfl, if_pos ⟨rfl, rfl⟩]
      · rw [e9] at e; omega
    · have ek : cK (nQ c) a = cK c a := va_up_ne _ _ e
      rw [ek] at hk
      obtain ⟨q1, q2, q3, q4, q5⟩ := h8 a hk
      rw [ek]
      refine ⟨⟨q1.1, Nat.lt_succ_of_lt q1.2⟩, by rw [sk _ e]; exact q2, q3, fun e9 => ⟨fun j hj => ?_, ?_⟩, q5⟩
      · rw [si _ _ e, (q4 e9).1 j hj]
        show _ = if a = cz c ∧ _ then (0 : Int32) else cI c (800 + j) a
        rw [if_neg (fun q => e q.1)]
      · rw [sp _ _ e, (q4 e9).2]
        show _ = if a = cz c ∧ _ then none else cP c 805 a
        rw [if_neg (fun q => e q.1)]
  · obtain ⟨b1, b2, b3, b4, b5, b6, b7⟩ := g a a1 a2 a3
    have e : a ≠ cz c := by omega
    exact ⟨by rw [sk _ e]; exact b1, b2, fun f => by rw [si _ _ e]; exact b3 f, fun f => by rw [sp _ _ e]; exact b4 f, b5, b6, b7⟩
theorem rcND {S S0 : vS} {z x N d0 k n : Nat} {c : vC} (h : RC S z x N d0 c) (g : cF S0 S z x N d0) (hk : k = 20 ∨ k = 21) : RC (nA S (cz c) k n) z x N d0 (nD c k n) ∧ cF S0 (nA S (cz c) k n) z x N d0 := by
  obtain ⟨h1, h2, h3, h4, h5, h6, h7, h8⟩ := h
  have sk : ∀ a, a ≠ cz c → vK (nA S (cz c) k n) a = vK S a := fun a e => va_up_ne _ _ e
  have sn : ∀ a, a ≠ cz c → vN (nA S (cz c) k n) a = vN S a := fun a e => va_up_ne _ _ e
  have sr : ∀ a, a ≠ cz c → vR (nA S (cz c) k n) a = vR S a := fun a e => va_up_ne _ _ e
  have sj : ∀ a, a ≠ cz c → vJ (nA S (cz c) k n) a = vJ S a := fun a e => va_up_ne _ _ e
  have sq : ∀ a, a ≠ cz c → vQ (nA S (cz c) k n) a = vQ S a := fun a e => va_up_ne _ _ e
  have ha : ∀ k i, okS N k i → ad z x k i ≠ cz c := fun k i ho => by have := adO (z := z) (x := x) ho; omega
  have haa : ∀ f i, okA N f i → aa z x f i ≠ cz c := fun f i ho => by have := aaO (z := z) (x := x) ho; omega
  refine ⟨⟨⟨h1.1, h1.2.1, Nat.le_succ_of_le h1.2.2⟩, fun k i ho => ⟨by rw [sk _ (ha k i ho)]; exact (h2 k i ho).1, (h2 k i ho).2⟩, h3, h4, h5, fun f i ho => ?_, ?_, fun a hk' => ?_⟩, fun a a1 a2 a3 => ?_⟩
  · rw [sk _ (haa f i ho), sn _ (haa f i ho), sr _ (haa f i ho), sj _ (haa f i ho), sq _ (haa f i ho)]; exact h6 f i ho
  · rw [sk _ (by omega), sk _ (by omega), sn _ (by omega), sn _ (by omega), sq _ (by omega), sq _ (by omega)]; exact h7
  · by_cases e : a = cz c
    · subst e
      have e9 : cK (nD c k n) (cz c) = k := va_up_self _ _ _
      refine ⟨⟨h1.2.2, Nat.lt_succ_self _⟩, ?_, ?_, fun e => ?_, fun _ => ⟨?_, ?_⟩⟩
      · rw [e9]; exact va_up_self _ _ _
      · rw [e9]; omega
      · rw [e9] at e; omega
      · show va_up (vN S) (cz c) n (cz c) = va_up (cN c) (cz c) n (cz c)
        rw [va_up_self, va_up_self]
      · show va_up (vR S) (cz c) (fun _ => 0) (cz c) = va_up (cD c) (cz c) (fun _ => 0) (cz c)
        rw [va_up_self, va_up_self]
    · have ek : cK (nD c k n) a = cK c a := va_up_ne _ _ e
      rw [ek] at hk'
      obtain ⟨q1, q2, q3, q4, q5⟩ := h8 a hk'
      rw [ek]
      refine ⟨⟨q1.1, Nat.lt_succ_of_lt q1.2⟩, by rw [sk _ e]; exact q2, q3, q4, fun e9 => ⟨?_, ?_⟩⟩
      · rw [sn _ e, (q5 e9).1]
        show _ = va_up (cN c) (cz c) n a
        rw [va_up_ne _ _ e]
      · rw [sr _ e, (q5 e9).2]
        show _ = va_up (cD c) (cz c) (fun _ => 0) a
        rw [va_up_ne _ _ e]
  · obtain ⟨b1, b2, b3, b4, b5, b6, b7⟩ := g a a1 a2 a3
    have e : a ≠ cz c := by omega
    exact ⟨by rw [sk _ e]; exact b1, by rw [sn _ e]; exact b2, b3, b4, by rw [sr _ e]; exact b5, by rw [sj _ e]; exact b6, by rw [sq _ e]; exact b7⟩
