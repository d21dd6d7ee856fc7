/-! ===== what a disk keeps ===== -/
/-- a state that has grown: the log and the table are longer -/
def Gw (S S' : Sx) : Prop := S'.N = S.N ∧ S'.V = S.V ∧ S'.L = S.L ∧ S.1 4 ≤ S'.1 4 ∧ S.ll ≤ S'.ll ∧ (∀ i, 1 ≤ i → i ≤ S.ll → S'.lg i = S.lg i) ∧ (∀ q, q < S.1 4 → S'.tb q = S.tb q) ∧ ∀ i, i ≤ S.ll → S'.sta i = S.sta i
def NtW (S : Sx) (n : Nt) : Prop := NbOk n ∧ NtC n ∧ (n.1 = 2 ∨ n.1 = 3 → 0 < n.2.2.2.1 ∧ n.2.2.2.1 < S.1 4) ∧ (n.1 = 4 ∨ n.1 = 5 → n.2.2.2.2 ≤ S.ll)
theorem NtW.g {S S' : Sx} {n : Nt} (h : NtW S n) (e : Gw S S') : NtW S' n := by
  obtain ⟨h1, h2, h3, h4⟩ := h
  exact ⟨h1, h2, fun q => ⟨(h3 q).1, Nat.lt_of_lt_of_le (h3 q).2 e.2.2.2.1⟩, fun q => Nat.le_trans (h4 q) e.2.2.2.2.1⟩
theorem rec_g {S S' : Sx} {n : Nt} (h : NtW S n) (e : Gw S S') : S'.rec n = S.rec n := by
  obtain ⟨h1, h2, h3, h4⟩ := h
  obtain ⟨e1, e2, e3, e4, e5, e6, e7, e8⟩ := e
  unfold Sx.rec
  congr 1
  obtain ⟨n1, n2, n3, n4, n5⟩ := n
  have hk : n1 = 1 ∨ n1 = 2 ∨ n1 = 3 ∨ n1 = 4 ∨ n1 = 5 := by
    have a := h1.1
    have b := h1.2.1
    dsimp only at a b
    omega
  rcases hk with rfl | rfl | rfl | rfl | rfl
  · have e1 : ∀ X : Sx, y_pay X.V X.tb X.sta (1, n2, n3, n4, n5) = 1 :: encU n2 := fun X => rfl
    rw [e1, e1]
  · show 2 :: (encU n2 ++ (encU n3 ++ encQ (S'.tb n4))) = 2 :: (encU n2 ++ (encU n3 ++ encQ (S.tb n4)))
    rw [e7 n4 (h3 (Or.inl rfl)).2]
  · show 3 :: encQ (S'.tb n4) = 3 :: encQ (S.tb n4)
    rw [e7 n4 (h3 (Or.inr rfl)).2]
  · show 4 :: encSt S'.V (S'.sta n5) n5 = 4 :: encSt S.V (S.sta n5) n5
    rw [e2, e8 n5 (h4 (Or.inl rfl))]
  · show 5 :: encVa (S'.sta n5).1 = 5 :: encVa (S.sta n5).1
    rw [e8 n5 (h4 (Or.inr rfl))]
theorem recs_g {S S' : Sx} (e : Gw S S') : ∀ l : List Nt, (∀ n, n ∈ l → NtW S n) → l.flatMap S'.rec = l.flatMap S.rec := by
  intro l
  induction l with
  | nil => intro _; rw [List.flatMap_nil, List.flatMap_nil]
  | cons n l ih =>
    intro h
    rw [List.flatMap_cons, List.flatMap_cons, rec_g (h n List.mem_cons_self) e, ih (fun k hk => h k (List.mem_cons_of_mem _ hk))]
def rpM (S : Sx) (R : Rp) (n : Nt) : Prop := rpN S R n ∧ (n.1 = 3 → R.1 7 + 1 ≤ S.ll)
def rpB (S : Sx) : Rp → List Nt → Prop
  | _, [] => True
  | R, n :: l => rpM S R n ∧ rpB S (y_rep S R n) l
theorem rpB.a {S : Sx} : ∀ (l : List Nt) {R : Rp}, rpB S R l → rpA S R l := by
  intro l
  induction l with
  | nil => intro R _; exact True.intro
  | cons n l ih => intro R h; exact ⟨h.1.1, ih h.2⟩
theorem rpB_app {S : Sx} {k : List Nt} : ∀ (l : List Nt) {R : Rp}, rpB S R (l ++ k) ↔ rpB S R l ∧ rpB S (l.foldl (y_rep S) R) k := by
  intro l
  induction l with
  | nil => intro R; exact ⟨fun h => ⟨True.intro, h⟩, fun h => h.2⟩
  | cons n l ih =>
    intro R
    constructor
    · intro h
      have := (ih (R := y_rep S R n)).mp h.2
      exact ⟨⟨h.1, this.1⟩, this.2⟩
    · intro h
      exact ⟨h.1.1, (ih (R := y_rep S R n)).mpr ⟨h.1.2, h.2⟩⟩
def E5 (A B : Rp) : Prop := A.1 7 = B.1 7 ∧ A.1 8 = B.1 8 ∧ A.1 10 = B.1 10 ∧ A.1 11 = B.1 11 ∧ A.1 12 = B.1 12
theorem E5.refl (A : Rp) : E5 A A := ⟨rfl, rfl, rfl, rfl, rfl⟩
theorem E5.symm {A B : Rp} (h : E5 A B) : E5 B A := ⟨h.1.symm, h.2.1.symm, h.2.2.1.symm, h.2.2.2.1.symm, h.2.2.2.2.symm⟩
theorem E5.tr {A B C : Rp} (h : E5 A B) (g : E5 B C) : E5 A C := ⟨h.1.trans g.1, h.2.1.trans g.2.1, h.2.2.1.trans g.2.2.1, h.2.2.2.1.trans g.2.2.2.1, h.2.2.2.2.trans g.2.2.2.2⟩
theorem E5.f {A B : Rp} (h : ∀ f, f ≠ 31 → f ≠ 34 → f ≠ 35 → A.1 f = B.1 f) : E5 A B := ⟨h 7 (by decide) (by decide) (by decide), h 8 (by decide) (by decide) (by decide), h 10 (by decide) (by decide) (by decide), h 11 (by decide) (by decide) (by decide), h 12 (by decide) (by decide) (by decide)⟩
/-- reading notes again looks only at five fields -/
theorem rep_5 {S S' : Sx} {A B : Rp} {n : Nt} (hV : S'.V = S.V) (h : E5 A B) : E5 (y_rep S' A n) (y_rep S B n) := by
  obtain ⟨h7, h8, h10, h11, h12⟩ := h
  unfold y_rep
  split
  · exact ⟨h7, h8, rfl, h11, h12⟩
  · rw [h7]
    split
    · exact ⟨h7, h8, rfl, rfl, rfl⟩
    · exact ⟨h7, h8, rfl, h11, h12⟩
  · refine ⟨?_, ?_, h10, rfl, rfl⟩
    · show A.1 7 + 1 = B.1 7 + 1; rw [h7]
    · show max (A.1 8) (A.1 7 + 1 - S'.V) = max (B.1 8) (B.1 7 + 1 - S.V); rw [h7, h8, hV]
  · exact ⟨rfl, rfl, h10, rfl, rfl⟩
  · refine ⟨h7, ?_, h10, h11, h12⟩
    show A.1 8 - 1 = B.1 8 - 1; rw [h8]
  · exact ⟨h7, h8, h10, h11, h12⟩
theorem rpM_5 {S S' : Sx} {A B : Rp} {n : Nt} (e : Gw S S') (h : E5 A B) (g : rpM S B n) : rpM S' A n := by
  obtain ⟨⟨g1, g2, g3, g4, g5, g6⟩, g7⟩ := g
  obtain ⟨h7, h8, h10, h11, h12⟩ := h
  obtain ⟨e1, e2, e3, e4, e5, e6, e7, e8⟩ := e
  refine ⟨⟨g1, g2, g3, fun q => ?_, g5, fun q => ?_⟩, fun q => by rw [h7]; exact Nat.le_trans (g7 q) e5⟩
  · obtain ⟨a1, a2, a3, a4⟩ := g4 q
    rw [h7]
    exact ⟨a1, Nat.lt_of_lt_of_le a2 e4, by rw [e6 _ (by omega) (g7 q)]; exact a3, a4⟩
  · rw [h7, h8, e2]; exact g6 q
theorem rpB_5 {S S' : Sx} (e : Gw S S') : ∀ (l : List Nt) {A B : Rp}, E5 A B → rpB S B l → rpB S' A l ∧ E5 (l.foldl (y_rep S') A) (l.foldl (y_rep S) B) := by
  intro l
  induction l with
  | nil => intro A B h _; exact ⟨True.intro, h⟩
  | cons n l ih =>
    intro A B h g
    have := ih (rep_5 (n := n) e.2.1 h) g.2
    exact ⟨⟨rpM_5 e h g.1, this.1⟩, this.2⟩
theorem Gw.refl (S : Sx) : Gw S S := ⟨rfl, rfl, rfl, Nat.le_refl _, Nat.le_refl _, fun _ _ _ => rfl, fun _ _ => rfl, fun _ _ => rfl⟩
theorem z0_5 (A B : Rp) : E5 (y_z0 A) (y_z0 B) := ⟨rfl, rfl, rfl, rfl, rfl⟩
/-- the disk of a replica holds its notes, and they hold what it must not forget -/
def DD (S : Sx) (R : Rp) : Prop := DkS S R ∧ 0 < R.1 32 ∧ (∀ n, n ∈ R.2.2.1 → NtW S n) ∧ rpB S (y_z0 R) R.2.2.1 ∧ E5 (y_up0 S R) R ∧ R.2.2.1.length ≤ 48 ∧ R.1 33 ≤ 1 ∧ DuOk R
theorem DkS.g {S S' : Sx} {R : Rp} (h : DkS S R) (e : Gw S S') (hn : ∀ n, n ∈ R.2.2.1 → NtW S n) : DkS S' R := by
  unfold DkS
  rw [recs_g e _ hn]; exact h
theorem DD.g {S S' : Sx} {R : Rp} (h : DD S R) (e : Gw S S') : DD S' R := by
  obtain ⟨h1, h2, h3, h4, h5, h6⟩ := h
  have := rpB_5 e R.2.2.1 (E5.refl (y_z0 R)) h4
  exact ⟨h1.g e h3, h2, fun n hn => (h3 n hn).g e, this.1, this.2.tr h5, h6⟩
theorem DD.c {S : Sx} {R R' : Rp} (h : DD S R) (e2 : R'.2.2 = R.2.2) (e : E5 R' R) (e31 : R'.1 31 = R.1 31) (e32 : R'.1 32 = R.1 32) (e33 : R'.1 33 = R.1 33) (hd : DuOk R') : DD S R' := by
  obtain ⟨h1, h2, h3, h4, h5, h6, h7, h8⟩ := h
  have e3 : R'.2.2.1 = R.2.2.1 := by rw [e2]
  have := rpB_5 (Gw.refl S) R.2.2.1 (z0_5 R' R) h4
  refine ⟨?_, by rw [e32]; exact h2, by rw [e3]; exact h3, by rw [e3]; exact this.1, ?_, by rw [e3]; exact h6, by rw [e33]; exact h7, hd⟩
  · unfold DkS
    rw [e2, e31, e32, e33]; exact h1
  · unfold y_up0
    rw [e3]; exact (this.2.tr h5).tr e.symm
/-! blocks -/
theorem blk_D (l : List Nat) (start : Nat) : ∀ (bs : List Nat) (R : Rp), ∃ k, k ≤ bs.length ∧ ((y_blk l start R bs).2 = true → k = bs.length) ∧ ((y_blk l start R bs).2 = false → k < bs.length) ∧ ∀ a, (y_blk l start R bs).1.2.2.2 a = if a / 512 ∈ bs.take k ∧ start ≤ a then byA l (a - start) else R.2.2.2 a := by
  intro bs
  induction bs with
  | nil => intro R; exact ⟨0, Nat.le_refl _, fun _ => rfl, fun h => (by cases h), fun a => (if_neg (fun q => by cases q.1)).symm⟩
  | cons b bs ih =>
    intro R
    by_cases h : R.1 35 = 0
    · refine ⟨0, Nat.zero_le _, fun q => ?_, fun _ => Nat.succ_pos _, fun a => ?_⟩
      · rw [y_blk_c, if_pos h] at q; cases q
      · rw [y_blk_c, if_pos h]; exact (if_neg (fun q => by cases q.1)).symm
    · obtain ⟨k, k1, k2, k3, k4⟩ := ih (y_b1 l start R b)
      refine ⟨k + 1, Nat.succ_le_succ k1, fun q => ?_, fun q => ?_, fun a => ?_⟩
      · rw [y_blk_c, if_neg h] at q; rw [k2 q]; rfl
      · rw [y_blk_c, if_neg h] at q; exact Nat.succ_lt_succ (k3 q)
      · rw [y_blk_c, if_neg h, k4 a, List.take_succ_cons]
        have e : (y_b1 l start R b).2.2.2 a = if max start (512 * b) ≤ a ∧ a < 512 * (b + 1) then byA l (a - start) else R.2.2.2 a := rfl
        by_cases c : a / 512 ∈ bs.take k ∧ start ≤ a
        · rw [if_pos c, if_pos ⟨List.mem_cons_of_mem _ c.1, c.2⟩]
        · rw [if_neg c, e]
          by_cases d : max start (512 * b) ≤ a ∧ a < 512 * (b + 1)
          · rw [if_pos d, if_pos ⟨by rw [show a / 512 = b by omega]; exact List.mem_cons_self, by omega⟩]
          · rw [if_neg d, if_neg]
            intro q
            rcases List.mem_cons.mp q.1 with x | x
            · apply d; omega
            · exact c ⟨x, q.2⟩
theorem byA_app1 {x y : List Nat} {k : Nat} (h : k < x.length) : byA (x ++ y) k = byA x k := by
  unfold byA
  rw [List.getD_eq_getElem?_getD, List.getD_eq_getElem?_getD, List.getElem?_append_left h]
theorem byA_app2 {x y : List Nat} {k : Nat} (h : x.length ≤ k) : byA (x ++ y) k = byA y (k - x.length) := by
  unfold byA
  rw [List.getD_eq_getElem?_getD, List.getD_eq_getElem?_getD, List.getElem?_append_right h]
theorem rec_even (S : Sx) (n : Nt) : (S.rec n).length % 2 = 0 := by
  unfold Sx.rec
  rw [recL_len]; omega
theorem recs_even (S : Sx) : ∀ l : List Nt, (l.flatMap S.rec).length % 2 = 0 := by
  intro l
  induction l with
  | nil => rfl
  | cons n l ih => rw [List.flatMap_cons, List.length_append]; have := rec_even S n; omega
theorem recs_len {S : Sx} (hC : Cx S) : ∀ l : List Nt, (∀ n, n ∈ l → NtW S n) → (l.flatMap S.rec).length ≤ 206 * l.length := by
  intro l
  induction l with
  | nil => intro _; exact Nat.le_refl _
  | cons n l ih =>
    intro h
    rw [List.flatMap_cons, List.length_append, List.length_cons]
    have := ih (fun k hk => h k (List.mem_cons_of_mem _ hk))
    have := rec_len hC (h n List.mem_cons_self).1
    omega
theorem hs_two {h : Nat} (hh : h ≤ 1) : (h = 0 ∧ y_hs h = 1024 ∧ y_hs (1 - h) = 16896) ∨ (h = 1 ∧ y_hs h = 16896 ∧ y_hs (1 - h) = 1024) := by
  have : h = 0 ∨ h = 1 := by omega
  rcases this with rfl | rfl
  · exact Or.inl ⟨rfl, rfl, rfl⟩
  · exact Or.inr ⟨rfl, rfl, rfl⟩
theorem DD.J {S : Sx} {R : Rp} (hC : Cx S) (h : DD S R) : JR R := ⟨h.2.2.2.2.2.2.1, by rw [h.1.1]; exact recs_len hC _ h.2.2.1, h.2.2.2.2.2.1, h.2.2.2.2.2.2.2⟩
/-- a note is written, or a crash came first -/
theorem note_D {S : Sx} {r : Nat} {R : Rp} {n : Nt} (hC : Cx S) (h : DD S R) (hl : R.2.2.1.length < 48) (hn : NbOk n) :
    ((y_note (S.set r R) r n).2 = true → ∃ R', (y_note (S.set r R) r n).1 = S.set r R' ∧ (∀ f, f ≠ 31 → f ≠ 34 → f ≠ 35 → R'.1 f = R.1 f) ∧ R'.2.1 = R.2.1 ∧ R'.2.2.1 = R.2.2.1 ++ [n] ∧ DkS S R' ∧ DuOk R') ∧
    ((y_note (S.set r R) r n).2 = false → ∃ R', (y_note (S.set r R) r n).1 = y_goDown (S.set r R') r ∧ (∀ f, f ≠ 34 → f ≠ 35 → R'.1 f = R.1 f) ∧ R'.2.1 = R.2.1 ∧ DD S R') := by
  have hJ := h.J hC
  obtain ⟨h1, h2, h3, h4, h5, h6, h7, h8⟩ := h
  have eN : y_note (S.set r R) r n = if (y_blk (S.rec n) (y_hs (R.1 33) + R.1 31) R (y_asc (y_hs (R.1 33) + R.1 31) (S.rec n).length).reverse).2 = true then (S.set r (((y_blk (S.rec n) (y_hs (R.1 33) + R.1 31) R (y_asc (y_hs (R.1 33) + R.1 31) (S.rec n).length).reverse).1.u 31 (R.1 31 + (S.rec n).length)).n (R.2.2.1 ++ [n])), true) else (y_goDown (S.set r (y_blk (S.rec n) (y_hs (R.1 33) + R.1 31) R (y_asc (y_hs (R.1 33) + R.1 31) (S.rec n).length).reverse).1) r, false) := by
    unfold y_note
    simp only [set_rp, set_set]
    rfl
  obtain ⟨o1, o2, o3, o4⟩ := blk_o (S.rec n) (y_hs (R.1 33) + R.1 31) (y_asc (y_hs (R.1 33) + R.1 31) (S.rec n).length).reverse R
  obtain ⟨k, k1, k2, k3, k4⟩ := blk_D (S.rec n) (y_hs (R.1 33) + R.1 31) (y_asc (y_hs (R.1 33) + R.1 31) (S.rec n).length).reverse R
  rw [eN]
  generalize y_blk (S.rec n) (y_hs (R.1 33) + R.1 31) R (y_asc (y_hs (R.1 33) + R.1 31) (S.rec n).length).reverse = p at o1 o2 o3 o4 k2 k3 k4 ⊢
  have ev := recs_even S R.2.2.1
  have le := rec_len hC hn
  have hh := hs_two h7
  have hF := hJ.2.1
  have hgt : 1024 ≤ y_hs (R.1 33) := by rcases hh with ⟨_, a, _⟩ | ⟨_, a, _⟩ <;> omega
  obtain ⟨d1, d2, d3, d4⟩ := h1
  constructor
  · intro c
    by_cases cp : p.2 = true
    · rw [if_pos cp]
      refine ⟨_, rfl, fun f a1 a2 a3 => ?_, o2, rfl, ⟨?_, fun j hj => ?_, fun j hj => ?_, ?_⟩, ?_⟩
      · rw [n_1, u_n _ _ a1]; exact o1 f a2 a3
      · show (p.1.u 31 (R.1 31 + (S.rec n).length)).1 31 = ((R.2.2.1 ++ [n]).flatMap S.rec).length
        rw [u_s, List.flatMap_append, List.length_append, List.flatMap_singleton, d1]
      · have e33 : ((p.1.u 31 (R.1 31 + (S.rec n).length)).n (R.2.2.1 ++ [n])).1 33 = R.1 33 := by rw [n_1, u_n _ _ (by decide)]; exact o1 33 (by decide) (by decide)
        have hj' : j < ((R.2.2.1 ++ [n]).flatMap S.rec).length + 2 := hj
        rw [List.flatMap_append, List.length_append, List.flatMap_singleton] at hj'
        show p.1.2.2.2 (y_hs (((p.1.u 31 (R.1 31 + (S.rec n).length)).n (R.2.2.1 ++ [n])).1 33) + j) = byA ((R.2.2.1 ++ [n]).flatMap S.rec) j
        rw [e33, k4, List.flatMap_append, List.flatMap_singleton]
        by_cases cj : j < (R.2.2.1.flatMap S.rec).length
        · rw [if_neg (by omega), byA_app1 cj]
          exact d2 j (by omega)
        · have hmem : (y_hs (R.1 33) + j) / 512 ∈ (y_asc (y_hs (R.1 33) + R.1 31) (S.rec n).length).reverse.take k := by
            rw [k2 cp, List.take_length, List.mem_reverse]
            unfold y_asc
            rw [List.mem_range'_1]
            omega
          rw [if_pos ⟨hmem, by omega⟩, byA_app2 (by omega), show y_hs (R.1 33) + j - (y_hs (R.1 33) + R.1 31) = j - (R.2.2.1.flatMap S.rec).length by omega]
      · have e32 : ((p.1.u 31 (R.1 31 + (S.rec n).length)).n (R.2.2.1 ++ [n])).1 32 = R.1 32 := by rw [n_1, u_n _ _ (by decide)]; exact o1 32 (by decide) (by decide)
        have e33 : ((p.1.u 31 (R.1 31 + (S.rec n).length)).n (R.2.2.1 ++ [n])).1 33 = R.1 33 := by rw [n_1, u_n _ _ (by decide)]; exact o1 33 (by decide) (by decide)
        rw [e32, e33]
        show p.1.2.2.2 (512 * (R.1 32 % 2) + j) = _
        rw [k4, if_neg (by omega)]; exact d3 j hj
      · have e32 : ((p.1.u 31 (R.1 31 + (S.rec n).length)).n (R.2.2.1 ++ [n])).1 32 = R.1 32 := by rw [n_1, u_n _ _ (by decide)]; exact o1 32 (by decide) (by decide)
        rw [e32]
        rcases d4 with ⟨h', x1, x2, x3⟩ | x
        · refine Or.inl ⟨h', x1, x2, fun j hj => ?_⟩
          show p.1.2.2.2 (512 * ((R.1 32 + 1) % 2) + j) = _
          rw [k4, if_neg (by omega)]; exact x3 j hj
        · refine Or.inr ?_
          show p.1.2.2.2 (512 * ((R.1 32 + 1) % 2)) = 0
          rw [k4, if_neg (by omega)]; exact x
      · have e35 : ((p.1.u 31 (R.1 31 + (S.rec n).length)).n (R.2.2.1 ++ [n])).1 35 = p.1.1 35 := by rw [n_1, u_n _ _ (by decide)]
        unfold DuOk
        rw [e35]; exact o4 h8
    · rw [if_neg cp] at c; cases c
  · intro c
    by_cases cp : p.2 = true
    · rw [if_pos cp] at c; cases c
    · rw [if_neg cp]
      have cf : p.2 = false := Bool.eq_false_iff.mpr cp
      have lo : ∀ a, a < y_hs (R.1 33) + R.1 31 + 2 → p.1.2.2.2 a = R.2.2.2 a := fun a ha => by
        rw [k4, if_neg]
        intro q
        have kk := k3 cf
        rw [List.length_reverse] at kk
        unfold y_asc at kk q
        have ex : ∃ m, (y_hs (R.1 33) + R.1 31 + (S.rec n).length + 1) / 512 + 1 - (y_hs (R.1 33) + R.1 31) / 512 = m + 1 := ⟨(y_hs (R.1 33) + R.1 31 + (S.rec n).length + 1) / 512 - (y_hs (R.1 33) + R.1 31) / 512, by omega⟩
        obtain ⟨m, em⟩ := ex
        rw [em] at kk q
        rw [List.length_range'] at kk
        rw [List.range'_succ, List.reverse_cons, List.take_append_of_le_length (by rw [List.length_reverse, List.length_range']; omega)] at q
        have := List.mem_of_mem_take q.1
        rw [List.mem_reverse, List.mem_range'_1] at this
        have hev : y_hs (R.1 33) % 2 = 0 := by rcases hh with ⟨_, w, _⟩ | ⟨_, w, _⟩ <;> omega
        omega
      refine ⟨p.1, rfl, o1, o2, ⟨?_, fun j hj => ?_, fun j hj => ?_, ?_⟩, by rw [o1 32 (by decide) (by decide)]; exact h2, by rw [o3]; exact h3, ?_, ?_, by rw [o3]; exact h6, by rw [o1 33 (by decide) (by decide)]; exact h7, o4 h8⟩
      · rw [o1 31 (by decide) (by decide), o3]; exact d1
      · rw [o3] at hj ⊢
        rw [o1 33 (by decide) (by decide), lo _ (by omega)]; exact d2 j hj
      · rw [o1 33 (by decide) (by decide), o1 32 (by decide) (by decide), lo _ (by omega)]; exact d3 j hj
      · rw [o1 32 (by decide) (by decide)]
        rcases d4 with ⟨h', x1, x2, x3⟩ | x
        · exact Or.inl ⟨h', x1, x2, fun j hj => by rw [lo _ (by omega)]; exact x3 j hj⟩
        · exact Or.inr (by rw [lo _ (by omega)]; exact x)
      · rw [o3]; exact (rpB_5 (Gw.refl S) _ (z0_5 p.1 R) h4).1
      · unfold y_up0
        rw [o3]
        exact ((rpB_5 (Gw.refl S) _ (z0_5 p.1 R) h4).2.tr h5).tr (E5.f (fun f _ a2 a3 => (o1 f a2 a3).symm))
theorem note_up {S : Sx} {R R' R'' : Rp} {n : Nt} (h : DD S R) (hl : R.2.2.1.length < 48) (hk : DkS S R') (en : R'.2.2.1 = R.2.2.1 ++ [n]) (hn : NtW S n) (hm : rpM S R n) (e2 : R''.2.2 = R'.2.2) (e31 : R''.1 31 = R'.1 31) (e32 : R''.1 32 = R.1 32) (e33 : R''.1 33 = R.1 33) (e32' : R'.1 32 = R.1 32) (e33' : R'.1 33 = R.1 33) (hd : DuOk R'') (e : E5 R'' (y_rep S R n)) : DD S R'' := by
  obtain ⟨h1, h2, h3, h4, h5, h6, h7, h8⟩ := h
  have e3 : R''.2.2.1 = R.2.2.1 ++ [n] := by rw [e2, en]
  have q := rpB_5 (Gw.refl S) R.2.2.1 (z0_5 R'' R) h4
  refine ⟨?_, by rw [e32]; exact h2, fun m hm' => ?_, ?_, ?_, ?_, by rw [e33]; exact h7, hd⟩
  · unfold DkS at hk ⊢
    rw [e2, e31, e32, e33]
    rw [e32', e33'] at hk
    exact hk
  · rw [e3] at hm'
    rcases List.mem_append.mp hm' with a | a
    · exact h3 m a
    · rw [List.mem_singleton.mp a]; exact hn
  · rw [e3]
    exact (rpB_app _).mpr ⟨q.1, rpM_5 (Gw.refl S) (q.2.tr h5) hm, True.intro⟩
  · unfold y_up0
    rw [e3, List.foldl_append]
    exact (rep_5 rfl (q.2.tr h5)).tr e.symm
  · rw [e3, List.length_append]
    show R.2.2.1.length + 1 ≤ 48
    omega
