/-! ===== steps of one replica ===== -/
/-- replica r in the midst of its work: nothing is said of its role -/
def Mid (K G : Nat) (g : Gh) (S : Sx) (r : Nat) (R : Rp) : Prop := Cn K g (S.set r R) r ∧ r < S.N ∧ AcI g r R ∧ Lo K G S R ∧ DD S R ∧ R.1 6 = 1
def Fi (K : Nat) (S : Sx) (r : Nat) : Prop := ∃ g, Cn K g S r ∧ RpI K (1 + 4 * K) g (pmS S) S r (S.rp r)
theorem Fi.iv {K : Nat} {S : Sx} {r : Nat} (h : Fi K S r) : IvS K S := by
  obtain ⟨g, h1, h2⟩ := h
  exact ⟨g, h1.close h2⟩
theorem AcI.c {g : Gh} {r : Nat} {R R' : Rp} (h : AcI g r R) (h7 : R'.1 7 = R.1 7) (h11 : R'.1 11 = R.1 11) (h12 : R'.1 12 = R.1 12) : AcI g r R' := by
  unfold AcI
  rw [h7, h11, h12]; exact h
theorem Mid.c {K G G' : Nat} {g : Gh} {S : Sx} {r : Nat} {R R' : Rp} (h : Mid K G g S r R) (h6 : R'.1 6 = R.1 6) (h7 : R'.1 7 = R.1 7) (h10 : R'.1 10 = R.1 10) (h11 : R'.1 11 = R.1 11) (h12 : R'.1 12 = R.1 12) (hL : Lo K G' S R') (hD : DD S R') : Mid K G' g S r R' := by
  obtain ⟨q1, q2, q3, q4, q5, q6⟩ := h
  exact ⟨q1.set q2 h6 h7 h10, q2, q3.c h7 h11 h12, hL, hD, h6.trans q6⟩
theorem Mid.fin {K G : Nat} {g : Gh} {S : Sx} {r : Nat} {R : Rp} (h : Mid K G g S r R) (hG : G ≤ 1 + 4 * K) (hl : R.2.2.1.length < 48) (h1 : CaI S.N g (pmS (S.set r R)) R) (h2 : LeI S.N g (pmS (S.set r R)) R) (h3 : RoI S.N g r R) : Fi K (S.set r R) r := by
  obtain ⟨q1, q2, q3, q4, q5, q6⟩ := h
  refine ⟨g, q1, ?_⟩
  rw [set_rp]
  exact ⟨⟨q3, h1, h2, h3⟩, q4.m (Nat.le_refl _) hG (Gw_set S r R), q5.g (Gw_set S r R), fun _ => hl, fun q => by omega⟩
theorem Mid.fin0 {K G : Nat} {g : Gh} {S : Sx} {r : Nat} {R : Rp} (h : Mid K G g S r R) (hG : G ≤ 1 + 4 * K) (hl : R.2.2.1.length < 48) (h0 : R.1 19 = 0) : Fi K (S.set r R) r :=
  h.fin hG hl (fun q => by omega) (fun q => by omega) (fun q => absurd h0 q)
/-! going down -/
def y_dn (R : Rp) : Rp := (y_follow (R.u 6 0)).q []
def y_sesD (S : Sx) (r : Nat) : Nat → Se := fun s => if (S.se s).1 46 = 1 ∧ (S.se s).1 48 = r then (va_up (S.se s).1 46 4, (S.se s).2) else S.se s
theorem down_eq {S : Sx} {r : Nat} {R : Rp} : y_goDown (S.set r R) r = (S.sets (y_sesD S r)).set r (y_dn R) := by
  unfold y_goDown
  rw [set_rp, set_set]
  rfl
theorem fol_z (R : Rp) : (y_follow R).1 19 = 0 ∧ (y_follow R).1 20 = 0 ∧ (y_follow R).1 21 = 0 ∧ (y_follow R).1 22 = 0 ∧ (y_follow R).1 23 = 0 ∧ (y_follow R).1 24 = 0 := ⟨rfl, rfl, rfl, rfl, rfl, rfl⟩
theorem okK_fol {K G : Nat} {S : Sx} {R : Rp} (h4 : 0 < S.1 4) (h : ∀ x, okK K G S x (R.1 x)) : ∀ x, okK K G S x ((y_follow R).1 x) :=
  okK_u (okK_u (okK_u (okK_u (okK_u (okK_u h (Nat.zero_le 2)) (Nat.zero_le (9 * K))) (Nat.two_pow_pos S.N)) h4) h4) (Nat.zero_le (9 * K))
theorem Lo.fol {K G : Nat} {S : Sx} {R : Rp} (h4 : 0 < S.1 4) (h : Lo K G S R) : Lo K G S (y_follow R) := by
  obtain ⟨h1, h2, h3, h4', h5, h6⟩ := h
  exact ⟨okK_fol h4 h1, h2, h3, fun _ => ⟨rfl, rfl, rfl, rfl, rfl⟩, h5, fun _ => rfl⟩
theorem Lo.q {K G : Nat} {S : Sx} {R : Rp} {l : List Nat} (h : Lo K G S R) (hq : l.length ≤ 8 ∧ ∀ q, q ∈ l → 0 < q ∧ q < S.1 4) : Lo K G S (R.q l) := by
  obtain ⟨h1, h2, h3, h4, h5, h6⟩ := h
  exact ⟨h1, h2, hq, h4, h5, h6⟩
/-- a field that nothing else leans on -/
def lone (f : Nat) : Bool := match f with
  | 6 => true
  | 10 => true
  | 13 => true
  | 25 => true
  | 31 => true
  | 32 => true
  | 33 => true
  | 34 => true
  | 35 => true
  | 43 => true
  | 44 => true
  | _ => false
theorem lone_n {f x : Nat} (h : lone f = true) (hx : lone x = false) : x ≠ f := fun e => by subst e; rw [h] at hx; cases hx
theorem Lo.u {K G : Nat} {S : Sx} {R : Rp} {f v : Nat} (h : Lo K G S R) (hf : lone f = true) (hv : okK K G S f v) : Lo K G S (R.u f v) := by
  obtain ⟨h1, h2, h3, h4, h5, h6⟩ := h
  have e : ∀ x, lone x = false → (R.u f v).1 x = R.1 x := fun x hx => u_n _ _ (lone_n hf hx)
  refine ⟨okK_u h1 hv, ?_, h3, ?_, ?_, ?_⟩
  · unfold SfK
    rw [e 7 rfl, e 8 rfl, e 9 rfl]; exact h2
  · unfold FoOk
    rw [e 19 rfl, e 20 rfl, e 21 rfl, e 22 rfl, e 23 rfl, e 24 rfl]; exact h4
  · unfold AcOk
    rw [e 11 rfl, e 12 rfl]; exact h5
  · unfold TlOk
    rw [e 23 rfl, e 24 rfl]; exact h6
/-- the same but for what the disk does -/
theorem Lo.d {K G G' : Nat} {S : Sx} {R R' : Rp} (h : Lo K G S R) (e : ∀ f, f ≠ 31 → f ≠ 32 → f ≠ 33 → f ≠ 34 → f ≠ 35 → R'.1 f = R.1 f) (eq : R'.2.1 = R.2.1) (hG : R'.1 32 ≤ G') : Lo K G' S R' := by
  obtain ⟨h1, h2, h3, h4, h5, h6⟩ := h
  have e' : ∀ x, lone x = false → R'.1 x = R.1 x := fun x hx => e x (fun q => by subst q; cases hx) (fun q => by subst q; cases hx) (fun q => by subst q; cases hx) (fun q => by subst q; cases hx) (fun q => by subst q; cases hx)
  refine ⟨fun f => ?_, ?_, ?_, ?_, ?_, ?_⟩
  · by_cases c : f = 31 ∨ f = 32 ∨ f = 33 ∨ f = 34 ∨ f = 35
    · rcases c with rfl | rfl | rfl | rfl | rfl
      · exact True.intro
      · exact hG
      · exact True.intro
      · exact True.intro
      · exact True.intro
    · rw [e f (by omega) (by omega) (by omega) (by omega) (by omega)]
      have q := h1 f
      unfold okK at q ⊢
      split at q <;> first
        | exact q
        | omega
  · unfold SfK
    rw [e' 7 rfl, e' 8 rfl, e' 9 rfl]; exact h2
  · unfold QOk
    rw [eq]; exact h3
  · unfold FoOk
    rw [e' 19 rfl, e' 20 rfl, e' 21 rfl, e' 22 rfl, e' 23 rfl, e' 24 rfl]; exact h4
  · unfold AcOk
    rw [e' 11 rfl, e' 12 rfl]; exact h5
  · unfold TlOk
    rw [e' 23 rfl, e' 24 rfl]; exact h6
theorem Cx_ses {S : Sx} {f : Nat → Se} (h : Cx S) (hf : ∀ s, s < 16 → (f s).1 46 < 2 ^ 31 ∧ (f s).1 48 < 2 ^ 31 ∧ (f s).1 47 < 2 ^ 31) : Cx (S.sets f) := by
  obtain ⟨c1, c2, c3, c4, c5, c6, c7, c8, c9, c10, c11⟩ := h
  exact ⟨c1, c2, c3, c4, c5, c6, c7, c8, c9, c10, hf⟩
theorem Gw_sets (S : Sx) (f : Nat → Se) : Gw S (S.sets f) := Gw_e (fun _ _ => rfl) rfl rfl
theorem Mid.down {K G : Nat} {g : Gh} {S : Sx} {r : Nat} {R : Rp} (h : Mid K G g S r R) (hG : G ≤ 1 + 4 * K) : Fi K (y_goDown (S.set r R) r) r := by
  obtain ⟨q1, q2, q3, q4, q5, q6⟩ := h
  have hc := q1
  obtain ⟨p1, p2, p3, p4, p5, p6, p7, p8, p9, p10, p11, p12⟩ := hc
  rw [down_eq]
  have e7 : (y_dn R).1 7 = R.1 7 := rfl
  have e10 : (y_dn R).1 10 = R.1 10 := rfl
  have eW : Gw (S.set r R) ((S.sets (y_sesD S r)).set r (y_dn R)) := Gw_e (fun _ _ => rfl) rfl rfl
  have ese : ∀ s, ((S.sets (y_sesD S r)).set r (y_dn R)).se s = y_sesD S r s := fun _ => rfl
  have e47 : ∀ s, (y_sesD S r s).1 47 = (S.se s).1 47 := fun s => by
    unfold y_sesD
    split
    · show va_up (S.se s).1 46 4 47 = (S.se s).1 47
      exact va_up_ne _ _ (by decide)
    · rfl
  have epm : pmS ((S.sets (y_sesD S r)).set r (y_dn R)) = pmS (S.set r R) := by rw [pm_set, pm_set, e10]; rfl
  have eix : ixS ((S.sets (y_sesD S r)).set r (y_dn R)) = ixS (S.set r R) := by rw [ix_set, ix_set, e7]; rfl
  have hC' : Cn K g ((S.sets (y_sesD S r)).set r (y_dn R)) r := by
    refine q1.step (Nat.le_refl _) eW ?_ p2 p3 p4 (TI.m p6 rfl rfl rfl rfl e47) (fun s hs => ?_) ?_ ?_ (fun k hk => by rw [set_ne _ _ hk, set_ne _ _ hk]; rfl) (fun _ _ _ _ _ w => w) (fun _ _ _ _ _ _ w => w) (fun m hm => Or.inl hm) (fun i i1 i2 => absurd i2 (Nat.not_le_of_lt i1)) q2
    · have := Cx_ses (f := y_sesD S r) p1 (fun s hs => by
        have := p1.s s hs
        unfold y_sesD
        split
        · exact ⟨show 4 < 2 ^ 31 by decide, this.2.1, this.2.2⟩
        · exact this)
      exact this
    · rw [ese]
      obtain ⟨s1, s2, s3, s4, s5, s6, s7, s8⟩ := (show SeI K (S.set r R) (S.se s) from p7 s hs)
      unfold y_sesD
      split
      · refine ⟨show 4 ≤ 4 by decide, s2, s3, fun z => absurd (show (4 : Nat) = 1 from z) (by decide), s5, s6, fun q => ?_, fun q => ?_⟩
        · exact absurd (show (4 : Nat) = 1 from q) (by decide)
        · exact absurd (show (4 : Nat) = 2 from q) (by decide)
      · rename_i c
        refine ⟨s1, s2, s3, s4, s5, s6, fun q => ?_, s8⟩
        have hne : (S.se s).1 48 ≠ r := fun e => c ⟨q, e⟩
        have := s7 q
        rw [set_ne _ _ hne] at this
        rw [set_ne _ _ hne]; exact this
    · rw [epm, eix]; exact p8
    · rw [epm]; exact Ex.refl (fun _ => Nat.le_refl _)
  refine ⟨g, hC', ?_⟩
  rw [set_rp]
  have hLo : Lo K (1 + 4 * K) ((S.sets (y_sesD S r)).set r (y_dn R)) (y_dn R) := by
    have l1 : Lo K G S (R.u 6 0) := q4.u rfl (Nat.zero_le 1)
    have l2 : Lo K G S (y_follow (R.u 6 0)) := l1.fol p5
    have l3 : Lo K G S (y_dn R) := l2.q ⟨Nat.zero_le _, fun q hq => by cases hq⟩
    exact l3.m (Nat.le_refl _) hG ((Gw_set S r R).tr eW)
  refine ⟨⟨q3.c rfl rfl rfl, fun q => ?_, fun q => ?_, fun q => ?_⟩, hLo, ?_, fun q => ?_, fun _ => ⟨rfl, rfl, rfl, rfl, rfl, rfl, rfl⟩⟩
  · exact absurd (show (0 : Nat) = 1 from q) (by decide)
  · exact absurd (show (0 : Nat) = 2 from q) (by decide)
  · exact absurd (show (0 : Nat) = 0 from rfl) q
  · exact (q5.c (R' := y_dn R) rfl ⟨rfl, rfl, rfl, rfl, rfl⟩ rfl rfl rfl q5.2.2.2.2.2.2.2).g ((Gw_set S r R).tr eW)
  · exact absurd (show (0 : Nat) = 1 from q) (by decide)
/-! notes and checkpoints -/
theorem Mid.note0 {K G : Nat} {g : Gh} {S : Sx} {r : Nat} {R : Rp} {n : Nt} (h : Mid K G g S r R) (hG : G ≤ 1 + 4 * K) (hl : R.2.2.1.length < 48) (hn : NbOk n) (c : (y_note (S.set r R) r n).2 = false) : Fi K (y_note (S.set r R) r n).1 r := by
  obtain ⟨R', e1, e2, e3, e4⟩ := (note_D (r := r) (show Cx S from h.1.1) h.2.2.2.2.1 hl hn).2 c
  rw [e1]
  exact (h.c (e2 6 (by decide) (by decide)) (e2 7 (by decide) (by decide)) (e2 10 (by decide) (by decide)) (e2 11 (by decide) (by decide)) (e2 12 (by decide) (by decide)) (h.2.2.2.1.d (fun f _ _ _ a b => e2 f a b) e3 (by rw [e2 32 (by decide) (by decide)]; exact h.2.2.2.1.1 32)) e4).down hG
theorem Mid.BR {K G : Nat} {g : Gh} {S : Sx} {r : Nat} {R : Rp} (h : Mid K G g S r R) (hK : K ≤ 600) : BR S R ∧ R.1 7 < 29990 ∧ R.1 7 ≤ S.ll := by
  have ok := h.2.2.2.1.1
  have hs := h.2.2.2.1.2.1
  have h7 : R.1 7 ≤ S.ll := ok 7
  have hl : S.ll ≤ K := h.1.2.2.1
  have h10 : R.1 10 ≤ 9 * K := ok 10
  have h11 : R.1 11 ≤ 9 * K := ok 11
  exact ⟨⟨by omega, hs.1, hs.2.1, by omega, by omega, ok 12⟩, by omega, h7⟩
theorem Mid.ckp {K G : Nat} {g : Gh} {S : Sx} {r : Nat} {R : Rp} (h : Mid K G g S r R) (hK : K ≤ 600) (hG : G ≤ 1 + 4 * K) :
    ((y_ckp (S.set r R) r).2 = true → ∃ R', (y_ckp (S.set r R) r).1 = S.set r R' ∧ (∀ f, f ≠ 31 → f ≠ 32 → f ≠ 33 → f ≠ 34 → f ≠ 35 → R'.1 f = R.1 f) ∧ R'.2.1 = R.2.1 ∧ R'.2.2.1.length < 48 ∧ Mid K (G + 1) g S r R') ∧
    ((y_ckp (S.set r R) r).2 = false → Fi K (y_ckp (S.set r R) r).1 r) := by
  obtain ⟨b1, b2, b3⟩ := h.BR hK
  have d := ckp_D (r := r) (show Cx S from h.1.1) h.2.2.2.2.1 b1 b2 b3 h.2.2.2.1.2.2.2.2.1
  constructor
  · intro c
    obtain ⟨R', e1, e2, e3, e4, e5, e6⟩ := d.1 c
    have e := fun f (hf : f < 31) => e2 f (by omega) (by omega) (by omega) (by omega) (by omega)
    refine ⟨R', e1, e2, e3, e5, h.c (e 6 (by decide)) (e 7 (by decide)) (e 10 (by decide)) (e 11 (by decide)) (e 12 (by decide)) (h.2.2.2.1.d e2 e3 ?_) e6⟩
    have : R.1 32 ≤ G := h.2.2.2.1.1 32
    omega
  · intro c
    obtain ⟨R', e1, e2, e3, e4⟩ := d.2 c
    rw [e1]
    exact (h.c (e2 6 (by decide) (by decide)) (e2 7 (by decide) (by decide)) (e2 10 (by decide) (by decide)) (e2 11 (by decide) (by decide)) (e2 12 (by decide) (by decide)) (h.2.2.2.1.d (fun f _ _ _ a b => e2 f a b) e3 (by rw [e2 32 (by decide) (by decide)]; exact h.2.2.2.1.1 32)) e4).down hG
