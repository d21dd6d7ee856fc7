/-! ===== agreement: proposals and votes, which no replica keeps ===== -/
/-- what was proposed at a slot and a ballot (0: nothing); who voted for it -/
abbrev Gh : Type := (Nat → Nat → Nat) × (Nat → Nat → Nat → Prop)
def Quo (N : Nat) (P : Nat → Prop) : Prop := ∃ a, N < 2 * y_count N a ∧ ∀ k, k < N → a.testBit k = true → P k
theorem cnt_two (p q : Nat → Bool) : ∀ l : List Nat, (∀ k, k ∈ l → ¬ (p k = true ∧ q k = true)) → l.countP p + l.countP q ≤ l.length := by
  intro l
  induction l with
  | nil => intro _; exact Nat.le_refl _
  | cons x l ih =>
    intro h
    have := ih (fun k hk => h k (List.mem_cons_of_mem _ hk))
    have hx := h x List.mem_cons_self
    rw [List.countP_cons, List.countP_cons, List.length_cons]
    by_cases a : p x = true
    · by_cases b : q x = true
      · exact absurd ⟨a, b⟩ hx
      · rw [if_pos a, if_neg b]; omega
    · by_cases b : q x = true
      · rw [if_neg a, if_pos b]; omega
      · rw [if_neg a, if_neg b]; omega
theorem Quo.two {N : Nat} {P Q : Nat → Prop} (h : Quo N P) (g : Quo N Q) : ∃ k, k < N ∧ P k ∧ Q k := by
  obtain ⟨a, a1, a2⟩ := h
  obtain ⟨b, b1, b2⟩ := g
  by_cases e : ∃ k, k < N ∧ a.testBit k = true ∧ b.testBit k = true
  · obtain ⟨k, k1, k2, k3⟩ := e
    exact ⟨k, k1, a2 k k1 k2, b2 k k1 k3⟩
  · exfalso
    have := cnt_two (fun k => a.testBit k) (fun k => b.testBit k) (List.range' 0 N) (fun k hk q => e ⟨k, by have := List.mem_range'_1.mp hk; omega, q.1, q.2⟩)
    rw [List.length_range'] at this
    have a1' : N < 2 * (List.range' 0 N).countP (fun k => a.testBit k) := a1
    have b1' : N < 2 * (List.range' 0 N).countP (fun k => b.testBit k) := b1
    omega
theorem Quo.mono {N : Nat} {P Q : Nat → Prop} (h : Quo N P) (f : ∀ k, k < N → P k → Q k) : Quo N Q := by
  obtain ⟨a, a1, a2⟩ := h
  exact ⟨a, a1, fun k k1 k2 => f k k1 (a2 k k1 k2)⟩
def Blk (N : Nat) (g : Gh) (pm : Nat → Nat) (s b : Nat) : Prop := Quo N (fun k => b < pm k ∧ ¬ g.2 s b k)
def Chs (N : Nat) (g : Gh) (s q : Nat) : Prop := 0 < q ∧ ∃ b, g.1 s b = q ∧ Quo N (fun k => g.2 s b k)
def Prm (g : Gh) (pm : Nat → Nat) (t s b q o : Nat) : Prop := b ≤ pm t ∧ ∀ b', b' < b → (∀ s', s < s' → ¬ g.2 s' b' t) ∧ (q = 0 ∨ o < b' → ¬ g.2 s b' t)
def PI (N : Nat) (g : Gh) (pm ix : Nat → Nat) : Prop := (∀ s b r, r < N → g.2 s b r → 0 < g.1 s b ∧ b ≤ pm r ∧ s ≤ ix r + 1) ∧ (∀ s b, 0 < g.1 s b → ∀ b', b' < b → g.1 s b' = g.1 s b ∨ Blk N g pm s b') ∧ ∀ s b, 0 < g.1 s b → 0 < b ∧ b ≤ pm (b % N)
theorem Chs.one {N : Nat} {g : Gh} {pm ix : Nat → Nat} {s q q' : Nat} (hP : PI N g pm ix) (h : Chs N g s q) (h' : Chs N g s q') : q = q' := by
  have key : ∀ q q' b b', b' < b → 0 < q → g.1 s b = q → g.1 s b' = q' → Quo N (fun k => g.2 s b' k) → q = q' := fun q q' b b' hb h0 e e' hq => by
    rcases hP.2.1 s b (by omega) b' hb with h | h
    · omega
    · obtain ⟨k, k1, k2, k3⟩ := Quo.two h hq
      exact absurd k3 k2.2
  obtain ⟨h0, b, e, hq⟩ := h
  obtain ⟨h0', b', e', hq'⟩ := h'
  rcases Nat.lt_trichotomy b b' with c | c | c
  · exact (key q' q b' b c h0' e' e hq).symm
  · subst c; omega
  · exact key q q' b b' c h0 e e' hq'
/-- later: no proposal is lost, votes are new only above what was promised -/
def Ex (g : Gh) (pm : Nat → Nat) (g' : Gh) (pm' : Nat → Nat) : Prop := (∀ s b, 0 < g.1 s b → g'.1 s b = g.1 s b) ∧ (∀ s b r, g.2 s b r → g'.2 s b r) ∧ (∀ r, pm r ≤ pm' r) ∧ ∀ s b r, g'.2 s b r → g.2 s b r ∨ pm r ≤ b
theorem Ex.refl {g : Gh} {pm pm' : Nat → Nat} (h : ∀ r, pm r ≤ pm' r) : Ex g pm g pm' := ⟨fun _ _ _ => rfl, fun _ _ _ h => h, h, fun _ _ _ h => Or.inl h⟩
theorem Ex.tr {g g1 g2 : Gh} {pm pm1 pm2 : Nat → Nat} (h : Ex g pm g1 pm1) (k : Ex g1 pm1 g2 pm2) : Ex g pm g2 pm2 := by
  refine ⟨fun s b q => ?_, fun s b r q => k.2.1 s b r (h.2.1 s b r q), fun r => Nat.le_trans (h.2.2.1 r) (k.2.2.1 r), fun s b r q => ?_⟩
  · have := h.1 s b q
    rw [k.1 s b (by omega), this]
  · rcases k.2.2.2 s b r q with a | a
    · exact h.2.2.2 s b r a
    · exact Or.inr (Nat.le_trans (h.2.2.1 r) a)
theorem Blk.e {N : Nat} {g g' : Gh} {pm pm' : Nat → Nat} {s b : Nat} (h : Blk N g pm s b) (e : Ex g pm g' pm') : Blk N g' pm' s b :=
  Quo.mono h (fun k _ q => ⟨Nat.lt_of_lt_of_le q.1 (e.2.2.1 k), fun w => by
    rcases e.2.2.2 s b k w with a | a
    · exact q.2 a
    · omega⟩)
theorem Chs.e {N : Nat} {g g' : Gh} {pm pm' : Nat → Nat} {s q : Nat} (h : Chs N g s q) (e : Ex g pm g' pm') : Chs N g' s q := by
  obtain ⟨h0, b, h1, h2⟩ := h
  exact ⟨h0, b, by rw [e.1 s b (by omega)]; exact h1, Quo.mono h2 (fun k _ w => e.2.1 s b k w)⟩
theorem Prm.e {g g' : Gh} {pm pm' : Nat → Nat} {t s b q o : Nat} (h : Prm g pm t s b q o) (e : Ex g pm g' pm') : Prm g' pm' t s b q o := by
  have key : ∀ s' b', b' < b → ¬ g.2 s' b' t → ¬ g'.2 s' b' t := fun s' b' hb hn w => by
    rcases e.2.2.2 s' b' t w with a | a
    · exact hn a
    · have := h.1; omega
  exact ⟨Nat.le_trans h.1 (e.2.2.1 t), fun b' hb => ⟨fun s' hs => key s' b' hb ((h.2 b' hb).1 s' hs), fun hq => key s b' hb ((h.2 b' hb).2 hq)⟩⟩
theorem PI.raise {N : Nat} {g : Gh} {pm ix pm' ix' : Nat → Nat} (h : PI N g pm ix) (h1 : ∀ r, pm r ≤ pm' r) (h2 : ∀ r, r < N → ix r ≤ ix' r) : PI N g pm' ix' := by
  refine ⟨fun s b r hr hv => ?_, fun s b hb b' hb' => ?_, fun s b hb => ⟨(h.2.2 s b hb).1, Nat.le_trans (h.2.2 s b hb).2 (h1 _)⟩⟩
  · obtain ⟨a1, a2, a3⟩ := h.1 s b r hr hv
    exact ⟨a1, Nat.le_trans a2 (h1 r), by have := h2 r hr; omega⟩
  · rcases h.2.1 s b hb b' hb' with a | a
    · exact Or.inl a
    · exact Or.inr (a.e (Ex.refl h1))
def gVote (g : Gh) (s b r : Nat) : Gh := (g.1, fun s' b' r' => g.2 s' b' r' ∨ (s' = s ∧ b' = b ∧ r' = r))
theorem Ex.vote {g : Gh} {pm : Nat → Nat} {s b r : Nat} (h : pm r ≤ b) : Ex g pm (gVote g s b r) (va_up pm r b) := by
  refine ⟨fun _ _ _ => rfl, fun _ _ _ w => Or.inl w, fun k => ?_, fun s' b' r' w => ?_⟩
  · by_cases e : k = r
    · subst e; rw [va_up_self]; exact h
    · rw [va_up_ne _ _ e]; exact Nat.le_refl _
  · rcases w with w | ⟨_, rfl, rfl⟩
    · exact Or.inl w
    · exact Or.inr h
theorem PI.vote {N : Nat} {g : Gh} {pm ix : Nat → Nat} {b r : Nat} (h : PI N g pm ix) (hb : pm r ≤ b) (hp : 0 < g.1 (ix r + 1) b) : PI N (gVote g (ix r + 1) b r) (va_up pm r b) ix := by
  have e := Ex.vote (g := g) (s := ix r + 1) hb
  refine ⟨fun s' b' r' hr hv => ?_, fun s' b' hb1 b2 hb2 => ?_, fun s' b' hb1 => ⟨(h.2.2 s' b' hb1).1, Nat.le_trans (h.2.2 s' b' hb1).2 (e.2.2.1 _)⟩⟩
  · rcases hv with hv | ⟨rfl, rfl, rfl⟩
    · obtain ⟨a1, a2, a3⟩ := h.1 s' b' r' hr hv
      exact ⟨a1, Nat.le_trans a2 (e.2.2.1 r'), a3⟩
    · exact ⟨hp, by rw [va_up_self]; exact Nat.le_refl _, Nat.le_refl _⟩
  · rcases h.2.1 s' b' hb1 b2 hb2 with a | a
    · exact Or.inl a
    · exact Or.inr (a.e e)
def gProp (g : Gh) (s b q : Nat) : Gh := (fun s' b' => if s' = s ∧ b' = b then q else g.1 s' b', g.2)
theorem Ex.prop {g : Gh} {pm : Nat → Nat} {s b q : Nat} (h : g.1 s b = 0) : Ex g pm (gProp g s b q) pm :=
  ⟨fun s' b' h' => if_neg (fun e => by obtain ⟨rfl, rfl⟩ := e; omega), fun _ _ _ w => w, fun _ => Nat.le_refl _, fun _ _ _ w => Or.inl w⟩
theorem PI.prop {N : Nat} {g : Gh} {pm ix : Nat → Nat} {s b q : Nat} (h : PI N g pm ix) (h0 : g.1 s b = 0) (hb : 0 < b ∧ b ≤ pm (b % N)) (hs : ∀ b', b' < b → g.1 s b' = q ∨ Blk N g pm s b') : PI N (gProp g s b q) pm ix := by
  have e := Ex.prop (pm := pm) (q := q) h0
  have es : (gProp g s b q).1 s b = q := if_pos ⟨rfl, rfl⟩
  have en : ∀ s' b', ¬ (s' = s ∧ b' = b) → (gProp g s b q).1 s' b' = g.1 s' b' := fun s' b' w => if_neg w
  refine ⟨fun s' b' r' hr hv => ?_, fun s' b' hb1 b2 hb2 => ?_, fun s' b' hb1 => ?_⟩
  · obtain ⟨a1, a2, a3⟩ := h.1 s' b' r' hr hv
    exact ⟨by rw [e.1 s' b' a1]; exact a1, a2, a3⟩
  · by_cases c : s' = s ∧ b' = b
    · obtain ⟨rfl, rfl⟩ := c
      rw [es, en _ _ (fun w => by omega)]
      rcases hs b2 hb2 with a | a
      · exact Or.inl a
      · exact Or.inr (a.e e)
    · rw [en _ _ c] at hb1 ⊢
      rcases h.2.1 s' b' hb1 b2 hb2 with a | a
      · refine Or.inl ?_
        rw [en _ _ (fun w => by obtain ⟨rfl, rfl⟩ := w; omega)]; exact a
      · exact Or.inr (a.e e)
  · by_cases c : s' = s ∧ b' = b
    · obtain ⟨rfl, rfl⟩ := c; exact hb
    · rw [en _ _ c] at hb1; exact h.2.2 s' b' hb1
theorem safe_new {N : Nat} {g : Gh} {pm : Nat → Nat} {s b q : Nat} (h : Quo N (fun t => b ≤ pm t ∧ ∀ b', b' < b → ¬ g.2 s b' t)) : ∀ b', b' < b → g.1 s b' = q ∨ Blk N g pm s b' :=
  fun b' hb => Or.inr (Quo.mono h (fun _ _ w => ⟨by omega, w.2 b' hb⟩))
theorem safe_old {N : Nat} {g : Gh} {pm ix : Nat → Nat} {s b q o : Nat} (hP : PI N g pm ix) (hq : 0 < q) (ho : g.1 s o = q) (h : Quo N (fun t => Prm g pm t s b q o)) : ∀ b', b' < b → g.1 s b' = q ∨ Blk N g pm s b' := fun b' hb => by
  rcases Nat.lt_trichotomy b' o with c | c | c
  · have := hP.2.1 s o (by omega) b' c
    rw [ho] at this; exact this
  · subst c; exact Or.inl ho
  · exact Or.inr (Quo.mono h (fun _ _ w => ⟨by have := w.1; omega, (w.2 b' hb).2 (Or.inr c)⟩))
/-! what a replica and a message know of it -/
def AcI (g : Gh) (r : Nat) (R : Rp) : Prop := (0 < R.1 12 → g.2 (R.1 7 + 1) (R.1 11) r ∧ g.1 (R.1 7 + 1) (R.1 11) = R.1 12 ∧ ∀ b, g.2 (R.1 7 + 1) b r → b ≤ R.1 11) ∧ (R.1 12 = 0 → ∀ b, ¬ g.2 (R.1 7 + 1) b r)
def CaI (N : Nat) (g : Gh) (pm : Nat → Nat) (R : Rp) : Prop := R.1 19 = 1 → R.1 22 = 0 ∧ g.1 (R.1 7 + 1) (R.1 20) = 0 ∧ (0 < R.1 23 → g.1 (R.1 7 + 1) (R.1 24) = R.1 23) ∧ ∀ t, t < N → (R.1 21).testBit t = true → Prm g pm t (R.1 7 + 1) (R.1 20) (R.1 23) (R.1 24)
def LeI (N : Nat) (g : Gh) (pm : Nat → Nat) (R : Rp) : Prop := R.1 19 = 2 → Quo N (fun t => R.1 20 ≤ pm t ∧ ∀ b', b' < R.1 20 → ∀ s, R.1 7 + 1 < s ∨ (s = R.1 7 + 1 ∧ R.1 22 = 0) → ¬ g.2 s b' t) ∧ (R.1 22 = 0 → g.1 (R.1 7 + 1) (R.1 20) = 0 ∧ R.1 21 = 0) ∧ (0 < R.1 22 → g.1 (R.1 7 + 1) (R.1 20) = R.1 22 ∧ ∀ t, t < N → (R.1 21).testBit t = true → g.2 (R.1 7 + 1) (R.1 20) t)
def RoI (N : Nat) (g : Gh) (r : Nat) (R : Rp) : Prop := R.1 19 ≠ 0 → R.1 20 % N = r ∧ (R.1 20 = R.1 10 ∧ 0 < R.1 20) ∧ ∀ s, R.1 7 + 1 < s → g.1 s (R.1 20) = 0
def PxI (N : Nat) (g : Gh) (pm : Nat → Nat) (r : Nat) (R : Rp) : Prop := AcI g r R ∧ CaI N g pm R ∧ LeI N g pm R ∧ RoI N g r R
def MsI (N : Nat) (g : Gh) (pm : Nat → Nat) (m : Mg) : Prop := (m 0 = 2 → Prm g pm (m 1) (m 4) (m 3) (m 5) (m 6) ∧ (0 < m 5 → g.1 (m 4) (m 6) = m 5)) ∧ (m 0 = 3 → 0 < m 5 ∧ g.1 (m 4) (m 3) = m 5) ∧ (m 0 = 4 → g.2 (m 4) (m 3) (m 1)) ∧ (m 0 = 5 → Chs N g (m 4) (m 5))
theorem MsI.e {N : Nat} {g g' : Gh} {pm pm' : Nat → Nat} {m : Mg} (h : MsI N g pm m) (e : Ex g pm g' pm') : MsI N g' pm' m := by
  obtain ⟨h2, h3, h4, h5⟩ := h
  refine ⟨fun k => ⟨(h2 k).1.e e, fun q => ?_⟩, fun k => ⟨(h3 k).1, ?_⟩, fun k => e.2.1 _ _ _ (h4 k), fun k => (h5 k).e e⟩
  · have := (h2 k).2 q
    rw [e.1 _ _ (by omega)]; exact this
  · have := h3 k
    rw [e.1 _ _ (by omega)]; exact this.2
/-- another replica is not touched: its own votes and the proposals of its ballots are as they were -/
theorem PxI.e {N : Nat} {g g' : Gh} {pm pm' : Nat → Nat} {r : Nat} {R : Rp} (h : PxI N g pm r R) (e : Ex g pm g' pm') (hv : ∀ s b, g'.2 s b r → g.2 s b r) (hp : ∀ s b, b % N = r → 0 < g'.1 s b → 0 < g.1 s b) : PxI N g' pm' r R := by
  obtain ⟨⟨a1, a2⟩, h2, h3, h4⟩ := h
  have hz : ∀ s b, b % N = r → g.1 s b = 0 → g'.1 s b = 0 := fun s b hb h0 => by
    rcases Nat.eq_zero_or_pos (g'.1 s b) with q | q
    · exact q
    · have := hp s b hb q; omega
  refine ⟨⟨fun q => ?_, fun q b w => a2 q b (hv _ _ w)⟩, fun q => ?_, fun q => ?_, fun q => ?_⟩
  · obtain ⟨b1, b2, b3⟩ := a1 q
    exact ⟨e.2.1 _ _ _ b1, by rw [e.1 _ _ (by omega)]; exact b2, fun b w => b3 b (hv _ _ w)⟩
  · obtain ⟨c0, c1, c2, c3⟩ := h2 q
    refine ⟨c0, hz _ _ (h4 (by omega)).1 c1, fun w => ?_, fun t t1 t2 => (c3 t t1 t2).e e⟩
    have := c2 w
    rw [e.1 _ _ (by omega)]; exact this
  · obtain ⟨c1, c2, c3⟩ := h3 q
    refine ⟨Quo.mono c1 (fun t _ w => ⟨Nat.le_trans w.1 (e.2.2.1 t), fun b' hb s hs x => ?_⟩), fun w => ⟨hz _ _ (h4 (by omega)).1 (c2 w).1, (c2 w).2⟩, fun w => ?_⟩
    · rcases e.2.2.2 s b' t x with y | y
      · exact w.2 b' hb s hs y
      · have := w.1; omega
    · have := c3 w
      exact ⟨by rw [e.1 _ _ (by omega)]; exact this.1, fun t t1 t2 => e.2.1 _ _ _ (this.2 t t1 t2)⟩
  · obtain ⟨c1, c2, c3⟩ := h4 q
    exact ⟨c1, c2, fun s hs => hz _ _ c1 (c3 s hs)⟩
