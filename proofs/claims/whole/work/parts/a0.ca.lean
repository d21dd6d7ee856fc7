/-! ===== the class against the middle machine ===== -/
/-- a request at an address -/
def RqA (c : vC) (a : Nat) (q : Rq) : Prop := a < cz c ∧ cK c a = 9 ∧ cI c 800 a = nI (q.1 0) ∧ cI c 801 a = nI (q.1 1) ∧ cI c 802 a = nI (q.1 2) ∧ cI c 803 a = q.2.1 3 ∧ cI c 804 a = q.2.1 4 ∧ ∃ v, cP c 805 a = some v ∧ v < cz c ∧ cK c v = 21 ∧ cN c v = 16 ∧ ∀ k, k < 16 → ((q.2.1 4 >>> (nI k &&& 31)) &&& (1 : Int32)) = (1 : Int32) → cD c v k = q.2.2 k
def RqO (c : vC) (tb : Nat → Rq) (o : Option Nat) (q : Nat) : Prop := (q = 0 → o = none) ∧ (0 < q → ∃ a, o = some a ∧ RqA c a (tb q))
/-- bytes at an address -/
def BtA (c : vC) (a : Nat) (l : List Nat) : Prop := a < cz c ∧ cK c a = 20 ∧ cN c a = l.length ∧ ∀ j, j < l.length → cD c a j = sb_b (byA l j)
def FrA (c : vC) (V : Nat) (st : Nat → Sta) (tb : Nat → Rq) (k : Nat) (m : Mg) : Prop := (∀ f, f < 5 → cI c (100 + f) k = nI (m f)) ∧ RqO c tb (cP c 105 k) (m 5) ∧ cI c 106 k = nI (m 6) ∧ (m 0 ≠ 8 → cP c 107 k = none ∧ cI c 108 k = -1) ∧ (m 0 = 8 → cI c 108 k = nI (m 8) ∧ ∃ a, cP c 107 k = some a ∧ BtA c a (encSt V (st (m 4)) (m 4))) ∧ (m 7 = 0 → cI c 109 k = -1) ∧ (0 < m 7 → cI c 109 k = nI ((m 7 - 1) / 8) ∧ cI c 110 k = nI ((m 7 - 1) % 8))
def SeA (c : vC) (tb : Nat → Rq) (s : Nat) (e : Se) : Prop := cI c 901 s = nI (e.1 46) ∧ cI c 902 s = nI (e.1 47) ∧ cI c 903 s = (if e.1 46 = 1 ∨ e.1 46 = 2 then nI (e.1 48) else -1) ∧ cI c 904 s = nI (e.1 49) ∧ cI c 905 s = e.2.1 50 ∧ cI c 906 s = e.2.1 51 ∧ cI c 907 s = nI (e.1 52) ∧ (e.1 46 = 2 → RqO c tb (cP c 908 s) (e.1 53)) ∧ ∀ k, k < 16 → cR c 900 s k = e.2.2 k
def sci (f : Nat) : Option Nat := match f with
  | 712 => some 10
  | 715 => some 25
  | 716 => some 13
  | 400 => some 19
  | 401 => some 20
  | 402 => some 21
  | 405 => some 24
  | 208 => some 32
  | 209 => some 33
  | 207 => some 31
  | _ => none
def pci (f : Nat) : Option Nat := match f with
  | 403 => some 22
  | 404 => some 23
  | 713 => some 12
  | _ => none
def sca (f : Nat) : Option Nat := match f with
  | 711 => some 6
  | 204 => some 34
  | 205 => some 35
  | _ => none
def QuA (c : vC) (S : Sx) (r : Nat) (R : Rp) : Prop := cI c 601 r = nI R.2.1.length ∧ ∀ k, k < R.2.1.length → RqO c S.tb (cQ c 600 r k) (R.2.1.getD k 0)
def PiA (c : vC) (S : Sx) (r : Nat) (R : Rp) : Prop := cI c 501 r = (if R.1 43 = 0 then -1 else nI (R.1 43)) ∧ cI c 502 r = nI (R.1 44) ∧ (0 < R.1 43 → ∃ e, cI c 503 r = nI e ∧ e ≤ (S.enc (R.1 43)).length ∧ ∀ k, k < 4 → (R.1 44).testBit k = true → min (S.enc (R.1 43)).length (64 * k + 64) ≤ e ∧ ∀ j, 64 * k ≤ j → j < 64 * k + 64 → j < (S.enc (R.1 43)).length → cR c 500 r j = sb_b (byA (S.enc (R.1 43)) j))
def StA (c : vC) (S : Sx) (r : Nat) (R : Rp) : Prop := cI c 1007 r = nI (R.1 7) ∧ cI c 1008 r = nI (R.1 8) ∧ cI c 1009 r = nI (R.1 7 - R.1 9) ∧ (∀ s, s < 16 → cR c 1002 r s = nI ((S.sta (R.1 7)).2.1 s)) ∧ (∀ s, s < 16 → cR c 1003 r s = nI ((S.sta (R.1 7)).2.2.1 s)) ∧ (∀ v, v < S.V → cR c 1004 r v = y_wn (S.sta (R.1 7)) (R.1 7) v) ∧ (∀ i k, R.1 8 ≤ i → i ≤ R.1 7 → k < 16 → cR c 1005 r (16 * (i % 17) + k) = (S.sta i).1 k) ∧ ∀ i, R.1 9 < i → i ≤ R.1 7 → RqO c S.tb (cQ c 1006 r (i % 32)) (S.lg i)
def RpA (c : vC) (S : Sx) (r : Nat) (R : Rp) : Prop := (∀ f g, sci f = some g → cI c f r = nI (R.1 g)) ∧ (∀ f g, pci f = some g → RqO c S.tb (cP c f r) (R.1 g)) ∧ (0 < R.1 12 → cI c 714 r = nI (R.1 11)) ∧ cI c 206 r = nI R.2.2.1.length ∧ QuA c S r R ∧ PiA c S r R ∧ StA c S r R
def AlA (c : vC) (S : Sx) (r : Nat) (R : Rp) : Prop := (cI c 1000 r = nI S.V ∧ cI c 1001 r = nI S.L ∧ cI c 700 r = nI r ∧ cI c 701 r = nI S.N ∧ cI c 702 r = nI S.T) ∧ (∀ f g, sca f = some g → cI c f r = nI (R.1 g)) ∧ ∀ a, a < 32768 → dk (cJ c r) a = R.2.2.2 a
def PmA (c : vC) (S : Sx) (p : Nat → Nat) (t : Nat) : Prop := (∀ i, i < 200 → cQ c 300 0 i = some (p i) ∧ p i < 202 ∧ p i ≠ 1) ∧ cP c 301 0 = some t ∧ t < 202 ∧ t ≠ 1 ∧ (∀ i j, i < 200 → j < 200 → p i = p j → i = j) ∧ (∀ i, i < 200 → p i ≠ t) ∧ ∀ i, i < S.fl.length → FrA c S.V S.sta S.tb (p i) (S.fl.getD i mgD)
/-- what is in hand: the frame that came, requests -/
abbrev Kp : Type := Option (Nat × Mg) × List (Nat × Nat)
def HdA (mm : Kp) (c : vC) (S : Sx) : Prop := (∀ k m, mm.1 = some (k, m) → cP c 301 0 = some k ∧ FrA c S.V S.sta S.tb k m) ∧ ∀ a q, (a, q) ∈ mm.2 → RqA c a (S.tb q)
def NwA (mm : Kp) (c : vC) (S : Sx) : Prop := HdA mm c S ∧ cI c 303 0 = nI S.fl.length ∧ cI c 304 0 = nI (S.1 54) ∧ cI c 305 0 = nI (S.1 55) ∧ cI c 306 0 = nI (S.1 56) ∧ ∃ p t, PmA c S p t
def WC (mm : Kp) (c : vC) (S : Sx) : Prop := (∀ a, cz c ≤ a → cK c a = 0) ∧ (cI c 1100 0 = nI S.V ∧ cI c 1101 0 = nI S.L ∧ cI c 1102 0 = nI S.T) ∧ NwA mm c S ∧ (∀ s, s < 16 → SeA c S.tb s (S.se s)) ∧ ∀ r, r < S.N → AlA c S r (S.rp r) ∧ ((S.rp r).1 6 = 1 → RpA c S r (S.rp r))
/-! what one replica's work may touch -/
def rpf (f : Nat) : Bool := (decide (200 ≤ f) && decide (f < 300)) || (decide (400 ≤ f) && decide (f < 800)) || (decide (1000 ≤ f) && decide (f < 1100))
/-- the dynamic objects that were there are as they were -/
def ze (c' c : vC) : Prop := cz c ≤ cz c' ∧ (∀ a, a < cz c → cK c' a = cK c a ∧ cN c' a = cN c a ∧ cD c' a = cD c a ∧ (∀ f, 800 ≤ f → f < 900 → cI c' f a = cI c f a) ∧ cP c' 805 a = cP c 805 a) ∧ ((∀ a, cz c ≤ a → cK c a = 0) → ∀ a, cz c' ≤ a → cK c' a = 0)
def zc (r : Nat) (c' c : vC) : Prop := ze c' c ∧ (∀ f i, 100 ≤ f → ¬ (800 ≤ f ∧ f < 900) → ¬ (i = r ∧ rpf f = true) → cI c' f i = cI c f i) ∧ (∀ f i, f ≠ 805 → ¬ (i = r ∧ rpf f = true) → cP c' f i = cP c f i) ∧ (∀ f i, f ≠ 0 → ¬ (i = r ∧ rpf f = true) → cR c' f i = cR c f i) ∧ (∀ i, i ≠ r → cJ c' i = cJ c i) ∧ ∀ f i, ¬ (i = r ∧ rpf f = true) → cQ c' f i = cQ c f i
theorem ze.refl {c : vC} : ze c c := ⟨Nat.le_refl _, fun _ _ => ⟨rfl, rfl, rfl, fun _ _ _ => rfl, rfl⟩, id⟩
theorem ze.tr {a b c : vC} (h : ze a b) (g : ze b c) : ze a c := by
  obtain ⟨h1, h2, h3⟩ := h
  obtain ⟨g1, g2, g3⟩ := g
  refine ⟨Nat.le_trans g1 h1, fun x hx => ?_, fun q => h3 (g3 q)⟩
  obtain ⟨a1, a2, a3, a4, a5⟩ := h2 x (by omega)
  obtain ⟨b1, b2, b3, b4, b5⟩ := g2 x hx
  exact ⟨a1.trans b1, a2.trans b2, a3.trans b3, fun f f1 f2 => (a4 f f1 f2).trans (b4 f f1 f2), a5.trans b5⟩
theorem ze_s {c' c : vC} (h1 : cK c' = cK c) (h2 : cN c' = cN c) (h3 : cD c' = cD c) (h4 : cz c' = cz c) (h5 : ∀ f, 800 ≤ f → f < 900 → cI c' f = cI c f) (h6 : cP c' 805 = cP c 805) : ze c' c := ⟨by rw [h4]; exact Nat.le_refl _, fun a _ => ⟨by rw [h1], by rw [h2], by rw [h3], fun f f1 f2 => by rw [h5 f f1 f2], by rw [h6]⟩, fun q a ha => by rw [h1]; exact q a (by rw [← h4]; exact ha)⟩
theorem zc.refl {r : Nat} {c : vC} : zc r c c := ⟨ze.refl, fun _ _ _ _ _ => rfl, fun _ _ _ _ => rfl, fun _ _ _ _ => rfl, fun _ _ => rfl, fun _ _ _ => rfl⟩
theorem zc.tr {r : Nat} {a b c : vC} (h : zc r a b) (g : zc r b c) : zc r a c := by
  obtain ⟨h1, h2, h3, h4, h5, h6⟩ := h
  obtain ⟨g1, g2, g3, g4, g5, g6⟩ := g
  exact ⟨h1.tr g1, fun f i a b c => (h2 f i a b c).trans (g2 f i a b c), fun f i a b => (h3 f i a b).trans (g3 f i a b), fun f i a b => (h4 f i a b).trans (g4 f i a b), fun i a => (h5 i a).trans (g5 i a), fun f i a => (h6 f i a).trans (g6 f i a)⟩
theorem RqA.c {c c' : vC} {a : Nat} {q : Rq} (h : RqA c a q) (z : ze c' c) : RqA c' a q := by
  obtain ⟨h1, h2, h3, h4, h5, h6, h7, v, h8, h9, h10, h11, h12⟩ := h
  obtain ⟨z1, z2, z3⟩ := z
  obtain ⟨a1, a2, a3, a4, a5⟩ := z2 a h1
  obtain ⟨b1, b2, b3, b4, b5⟩ := z2 v h9
  exact ⟨by omega, a1.trans h2, (a4 800 (by decide) (by decide)).trans h3, (a4 801 (by decide) (by decide)).trans h4, (a4 802 (by decide) (by decide)).trans h5, (a4 803 (by decide) (by decide)).trans h6, (a4 804 (by decide) (by decide)).trans h7, v, a5.trans h8, by omega, b1.trans h10, b2.trans h11, fun k hk e => by rw [b3]; exact h12 k hk e⟩
theorem RqO.c {c c' : vC} {tb : Nat → Rq} {o : Option Nat} {q : Nat} (h : RqO c tb o q) (z : ze c' c) : RqO c' tb o q := ⟨h.1, fun hq => by
  obtain ⟨a, e, g⟩ := h.2 hq
  exact ⟨a, e, g.c z⟩⟩
theorem RqO.none (c : vC) (tb : Nat → Rq) : RqO c tb none 0 := ⟨fun _ => rfl, fun h => absurd h (Nat.lt_irrefl 0)⟩
theorem RqO.some {c : vC} {tb : Nat → Rq} {a q : Nat} (h0 : 0 < q) (h : RqA c a (tb q)) : RqO c tb (some a) q := ⟨fun e => by omega, fun _ => ⟨a, rfl, h⟩⟩
theorem BtA.c {c c' : vC} {a : Nat} {l : List Nat} (h : BtA c a l) (z : ze c' c) : BtA c' a l := by
  obtain ⟨h1, h2, h3, h4⟩ := h
  obtain ⟨z1, z2, z3⟩ := z
  obtain ⟨a1, a2, a3, a4, a5⟩ := z2 a h1
  exact ⟨by omega, a1.trans h2, a2.trans h3, fun j hj => by rw [a3]; exact h4 j hj⟩
theorem FrA.c {c c' : vC} {V k : Nat} {st : Nat → Sta} {tb : Nat → Rq} {m : Mg} (h : FrA c V st tb k m) (z : ze c' c) (e1 : ∀ f, 100 ≤ f → f < 200 → cI c' f k = cI c f k) (e2 : cP c' 105 k = cP c 105 k) (e3 : cP c' 107 k = cP c 107 k) : FrA c' V st tb k m := by
  obtain ⟨h1, h2, h3, h4, h5, h6, h7⟩ := h
  refine ⟨fun f hf => by rw [e1 _ (by omega) (by omega)]; exact h1 f hf, by rw [e2]; exact h2.c z, by rw [e1 _ (by omega) (by omega)]; exact h3, fun e => by rw [e3, e1 _ (by omega) (by omega)]; exact h4 e, fun e => ?_, fun e => by rw [e1 _ (by omega) (by omega)]; exact h6 e, fun e => by rw [e1 _ (by omega) (by omega), e1 _ (by omega) (by omega)]; exact h7 e⟩
  obtain ⟨q1, a, q2, q3⟩ := h5 e
  exact ⟨by rw [e1 _ (by omega) (by omega)]; exact q1, a, by rw [e3]; exact q2, q3.c z⟩
theorem SeA.c {c c' : vC} {s : Nat} {tb : Nat → Rq} {e : Se} (h : SeA c tb s e) (z : ze c' c) (e1 : ∀ f, 900 ≤ f → f < 1000 → cI c' f s = cI c f s) (e2 : cP c' 908 s = cP c 908 s) (e3 : cR c' 900 s = cR c 900 s) : SeA c' tb s e := by
  obtain ⟨h1, h2, h3, h4, h5, h6, h7, h8, h9⟩ := h
  exact ⟨by rw [e1 _ (by omega) (by omega)]; exact h1, by rw [e1 _ (by omega) (by omega)]; exact h2, by rw [e1 _ (by omega) (by omega)]; exact h3, by rw [e1 _ (by omega) (by omega)]; exact h4, by rw [e1 _ (by omega) (by omega)]; exact h5, by rw [e1 _ (by omega) (by omega)]; exact h6, by rw [e1 _ (by omega) (by omega)]; exact h7, fun q => by rw [e2]; exact (h8 q).c z, fun k hk => by rw [e3]; exact h9 k hk⟩
theorem QuA.c {c c' : vC} {S S' : Sx} {r : Nat} {R R' : Rp} (h : QuA c S r R) (z : ze c' c) (e1 : cI c' 601 r = cI c 601 r) (e2 : cQ c' 600 r = cQ c 600 r) (eR : R'.2.1 = R.2.1) (et : S'.tb = S.tb) : QuA c' S' r R' := by
  unfold QuA
  rw [eR, et, e1, e2]
  exact ⟨h.1, fun k hk => (h.2 k hk).c z⟩
theorem PiA.c {c c' : vC} {S S' : Sx} {r : Nat} {R R' : Rp} (h : PiA c S r R) (e1 : ∀ f, 500 ≤ f → f < 600 → cI c' f r = cI c f r) (e2 : cR c' 500 r = cR c 500 r) (e43 : R'.1 43 = R.1 43) (e44 : R'.1 44 = R.1 44) (es : S'.enc (R.1 43) = S.enc (R.1 43)) : PiA c' S' r R' := by
  unfold PiA
  rw [e43, e44, es, e1 501 (by decide) (by decide), e1 502 (by decide) (by decide), e1 503 (by decide) (by decide), e2]
  exact h
theorem StA.c {c c' : vC} {S : Sx} {r : Nat} {R R' : Rp} (h : StA c S r R) (z : ze c' c) (e1 : ∀ f, 1000 ≤ f → f < 1100 → cI c' f r = cI c f r) (e2 : ∀ f, 1000 ≤ f → f < 1100 → cR c' f r = cR c f r) (e3 : cQ c' 1006 r = cQ c 1006 r) (e7 : R'.1 7 = R.1 7) (e8 : R'.1 8 = R.1 8) (e9 : R'.1 9 = R.1 9) : StA c' S r R' := by
  unfold StA
  rw [e7, e8, e9, e1 1007 (by decide) (by decide), e1 1008 (by decide) (by decide), e1 1009 (by decide) (by decide), e2 1002 (by decide) (by decide), e2 1003 (by decide) (by decide), e2 1004 (by decide) (by decide), e2 1005 (by decide) (by decide), e3]
  obtain ⟨h1, h2, h3, h4, h5, h6, h7, h8⟩ := h
  exact ⟨h1, h2, h3, h4, h5, h6, h7, fun i a b => (h8 i a b).c z⟩
theorem WC_zc {mm : Kp} {c c' : vC} {S : Sx} {r : Nat} {R R' : Rp} (h : WC mm c (S.set r R)) (z : zc r c' c) (g1 : r < S.N → AlA c' S r R') (g2 : r < S.N → R'.1 6 = 1 → RpA c' S r R') : WC mm c' (S.set r R') := by
  obtain ⟨h1, h2, h3, h4, h5⟩ := h
  obtain ⟨z1, z2, z3, z4, z5, z6⟩ := z
  have nf : ∀ f, rpf f = false → ∀ i, ¬ (i = r ∧ rpf f = true) := fun f hf i q => by rw [hf] at q; exact absurd q.2 (by decide)
  have n1 : ∀ f, 100 ≤ f → f < 200 → rpf f = false := fun f a b => by
    unfold rpf
    rw [decide_eq_false (show ¬ 200 ≤ f by omega), decide_eq_false (show ¬ 400 ≤ f by omega), decide_eq_false (show ¬ 1000 ≤ f by omega)]; rfl
  have n9 : ∀ f, 900 ≤ f → f < 1000 → rpf f = false := fun f a b => by
    unfold rpf
    rw [decide_eq_false (show ¬ f < 300 by omega), decide_eq_false (show ¬ f < 800 by omega), decide_eq_false (show ¬ 1000 ≤ f by omega)]
    simp
  have eI : ∀ f i, 100 ≤ f → ¬ (800 ≤ f ∧ f < 900) → rpf f = false → cI c' f i = cI c f i := fun f i a b d => z2 f i a b (nf f d i)
  refine ⟨z1.2.2 h1, ?_, ?_, fun s hs => ?_, fun k hk => ?_⟩
  · rw [eI 1100 0 (by decide) (by decide) rfl, eI 1101 0 (by decide) (by decide) rfl, eI 1102 0 (by decide) (by decide) rfl]; exact h2
  · obtain ⟨hd, a1, a2, a3, a4, p, t, b1, b2, b3, b4, b5, b6, b7⟩ := h3
    refine ⟨⟨fun k m e => ⟨(z3 301 0 (by decide) (nf 301 rfl 0)).trans (hd.1 k m e).1, (hd.1 k m e).2.c z1 (fun f f1 f2 => eI f _ f1 (by omega) (n1 f f1 f2)) (z3 105 _ (by decide) (nf 105 rfl _)) (z3 107 _ (by decide) (nf 107 rfl _))⟩, fun a q e => (hd.2 a q e).c z1⟩, (eI 303 0 (by decide) (by decide) rfl).trans a1, (eI 304 0 (by decide) (by decide) rfl).trans a2, (eI 305 0 (by decide) (by decide) rfl).trans a3, (eI 306 0 (by decide) (by decide) rfl).trans a4, p, t, fun i hi => ?_, (z3 301 0 (by decide) (nf 301 rfl 0)).trans b2, b3, b4, b5, b6, fun i hi => ?_⟩
    · rw [z6 300 0 (nf 300 rfl 0)]; exact b1 i hi
    · exact (b7 i hi).c z1 (fun f f1 f2 => eI f _ f1 (by omega) (n1 f f1 f2)) (z3 105 _ (by decide) (nf 105 rfl _)) (z3 107 _ (by decide) (nf 107 rfl _))
  · exact (h4 s hs).c z1 (fun f f1 f2 => eI f _ (by omega) (by omega) (n9 f f1 f2)) (z3 908 _ (by decide) (nf 908 rfl _)) (z4 900 _ (by decide) (nf 900 rfl _))
  · by_cases e : k = r
    · subst e
      rw [set_rp]
      exact ⟨g1 hk, g2 hk⟩
    · rw [set_ne _ _ e]
      have := h5 k hk
      rw [set_ne _ _ e] at this
      have nr : ∀ f, ¬ (k = r ∧ rpf f = true) := fun f q => e q.1
      obtain ⟨⟨q1, q2, q3⟩, q4⟩ := this
      have eI' : ∀ f, 100 ≤ f → ¬ (800 ≤ f ∧ f < 900) → cI c' f k = cI c f k := fun f a b => z2 f k a b (nr f)
      have sr : ∀ f g, sci f = some g → 100 ≤ f ∧ ¬ (800 ≤ f ∧ f < 900) := fun f g hf => by
        unfold sci at hf
        split at hf <;> first | decide | exact absurd hf (by simp)
      have sr2 : ∀ f g, sca f = some g → 100 ≤ f ∧ ¬ (800 ≤ f ∧ f < 900) := fun f g hf => by
        unfold sca at hf
        split at hf <;> first | decide | exact absurd hf (by simp)
      refine ⟨⟨?_, fun f g hf => ?_, fun a ha => ?_⟩, fun q => ?_⟩
      · rw [eI' 1000 (by decide) (by decide), eI' 1001 (by decide) (by decide), eI' 700 (by decide) (by decide), eI' 701 (by decide) (by decide), eI' 702 (by decide) (by decide)]; exact q1
      · rw [eI' f (sr2 f g hf).1 (sr2 f g hf).2]; exact q2 f g hf
      · rw [z5 k e]; exact q3 a ha
      · obtain ⟨w1, w2, w3, w4, w5, w6, w7⟩ := q4 q
        refine ⟨fun f g hf => ?_, fun f g hf => ?_, fun x => ?_, ?_, w5.c z1 (eI' 601 (by decide) (by decide)) (z6 600 k (nr _)) rfl rfl, w6.c (fun f f1 f2 => eI' f (by omega) (by omega)) (z4 500 k (by decide) (nr _)) rfl rfl rfl, w7.c z1 (fun f f1 f2 => eI' f (by omega) (by omega)) (fun f f1 f2 => z4 f k (by omega) (nr _)) (z6 1006 k (nr _)) rfl rfl rfl⟩
        · rw [eI' f (sr f g hf).1 (sr f g hf).2]; exact w1 f g hf
        · have : f ≠ 805 := fun e => by rw [e] at hf; cases hf
          rw [z3 f k this (nr _)]; exact (w2 f g hf).c z1
        · rw [eI' 714 (by decide) (by decide)]; exact w3 x
        · rw [eI' 206 (by decide) (by decide)]; exact w4
