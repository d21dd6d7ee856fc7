/-! ===== campaigns and proposals ===== -/
theorem AcI.x {g g' : Gh} {pm pm' : Nat → Nat} {r : Nat} {R : Rp} (h : AcI g r R) (e : Ex g pm g' pm') (hv : ∀ s b, g'.2 s b r → g.2 s b r) : AcI g' r R := by
  obtain ⟨a1, a2⟩ := h
  refine ⟨fun q => ?_, fun q b w => a2 q b (hv _ _ w)⟩
  obtain ⟨b1, b2, b3⟩ := a1 q
  exact ⟨e.2.1 _ _ _ b1, by rw [e.1 _ _ (by omega)]; exact b2, fun b w => b3 b (hv _ _ w)⟩
theorem tb_one {r t : Nat} (h : (2 ^ r).testBit t = true) : t = r := by
  rw [Nat.testBit_two_pow] at h
  exact (of_decide_eq_true h).symm
theorem two_lt {r N : Nat} (h : r < N) : 2 ^ r < 2 ^ N := Nat.pow_lt_pow_right (by decide) h
/-- a message that says no more than its kind and numbers -/
theorem MgI_1 {K : Nat} {g : Gh} {pm : Nat → Nat} {S : Sx} {kd r t b s q : Nat} (h1 : kd = 1 ∨ kd = 6 ∨ kd = 7 ∨ kd = 9 ∨ kd = 10) (hr : r < S.N) (ht : t < S.N) (hb : b ≤ 9 * K) (hs : s ≤ S.ll + 1) (hq : q < S.1 4) (h9 : kd = 9 → 0 < q) : MgI K g pm S (y_msg kd r t b s q 0 0) := by
  refine ⟨⟨show 1 ≤ kd by omega, show kd ≤ 10 by omega, hr, ht, hb, hs, hq, Nat.zero_le (9 * K), SpM0 rfl, fun z => ?_, fun z => ?_, fun z => ?_⟩, fun z => ?_, fun z => ?_, fun z => ?_, fun z => ?_⟩
  · have z' : kd = 3 ∨ kd = 5 ∨ kd = 9 := z
    exact h9 (by omega)
  · have z' : kd = 2 := z
    omega
  · have z' : kd = 8 := z
    omega
  · have z' : kd = 2 := z
    omega
  · have z' : kd = 3 := z
    omega
  · have z' : kd = 4 := z
    omega
  · have z' : kd = 5 := z
    omega
theorem Mid.okv {K G : Nat} {g : Gh} {S : Sx} {r : Nat} {R : Rp} (h : Mid K G g S r R) : R.1 7 ≤ S.ll ∧ S.ll ≤ K ∧ 0 < S.1 4 ∧ R.1 10 ≤ 9 * K ∧ R.1 11 ≤ 9 * K ∧ R.1 12 < S.1 4 ∧ R.1 25 ≤ 9 * K ∧ R.1 20 ≤ 9 * K ∧ R.1 22 < S.1 4 ∧ R.1 23 < S.1 4 ∧ S.N ≤ 9 ∧ 3 ≤ S.N := by
  have o := h.2.2.2.1.1
  exact ⟨o 7, h.1.2.2.1, h.1.2.2.2.2.1, o 10, o 11, o 12, o 25, o 20, o 22, o 23, h.1.1.2.1, h.1.1.1⟩
def y_cm (R : Rp) (b r : Nat) : Rp := ((((((y_follow R).u 19 1).u 20 b).u 21 (2 ^ r)).u 23 (R.1 12)).u 24 (R.1 11)).u 13 0
theorem cm_o (R : Rp) (b r : Nat) : (∀ f, f ≠ 13 → f < 19 ∨ 24 < f → (y_cm R b r).1 f = R.1 f) ∧ (y_cm R b r).2 = R.2 ∧ (y_cm R b r).1 19 = 1 ∧ (y_cm R b r).1 20 = b ∧ (y_cm R b r).1 21 = 2 ^ r ∧ (y_cm R b r).1 22 = 0 ∧ (y_cm R b r).1 23 = R.1 12 ∧ (y_cm R b r).1 24 = R.1 11 := by
  refine ⟨fun f a b => ?_, rfl, rfl, rfl, rfl, rfl, rfl, rfl⟩
  unfold y_cm
  rw [u_n _ _ a, u_n _ _ (by omega), u_n _ _ (by omega), u_n _ _ (by omega), u_n _ _ (by omega), u_n _ _ (by omega)]
  exact fol_o b
theorem Mid.c' {K G : Nat} {g : Gh} {S : Sx} {r : Nat} {R R' : Rp} (h : Mid K G g S r R) (e : ∀ f, f ≠ 13 → f ≠ 25 → f ≠ 43 → f ≠ 44 → f < 19 ∨ 24 < f → R'.1 f = R.1 f) (e2 : R'.2.2 = R.2.2) (hL : Lo K G S R') : Mid K G g S r R' :=
  h.c (e 6 (by decide) (by decide) (by decide) (by decide) (by decide)) (e 7 (by decide) (by decide) (by decide) (by decide) (by decide)) (e 10 (by decide) (by decide) (by decide) (by decide) (by decide)) (e 11 (by decide) (by decide) (by decide) (by decide) (by decide)) (e 12 (by decide) (by decide) (by decide) (by decide) (by decide)) hL (h.2.2.2.2.1.c e2 ⟨e 7 (by decide) (by decide) (by decide) (by decide) (by decide), e 8 (by decide) (by decide) (by decide) (by decide) (by decide), e 10 (by decide) (by decide) (by decide) (by decide) (by decide), e 11 (by decide) (by decide) (by decide) (by decide) (by decide), e 12 (by decide) (by decide) (by decide) (by decide) (by decide)⟩ (e 31 (by decide) (by decide) (by decide) (by decide) (by decide)) (e 32 (by decide) (by decide) (by decide) (by decide) (by decide)) (e 33 (by decide) (by decide) (by decide) (by decide) (by decide)) (by unfold DuOk; rw [e 35 (by decide) (by decide) (by decide) (by decide) (by decide)]; exact h.2.2.2.2.1.2.2.2.2.2.2.2))
theorem Mid.campaign {K G : Nat} {g : Gh} {S : Sx} {r : Nat} {R : Rp} (h : Mid K G g S r R) (hK : K ≤ 600) (hG : G + 1 ≤ 1 + 4 * K) (hl : R.2.2.1.length < 48) (hb : max (R.1 10) (R.1 25) + 9 ≤ 9 * K) : Fi K (y_campaign (S.set r R) r) r := by
  have hN := h.okv
  obtain ⟨n1, n2, n3⟩ := next_gt (m := max (R.1 10) (R.1 25)) h.2.1
  obtain ⟨p1, p2⟩ := h.promise (b := y_next S.N r (max (R.1 10) (R.1 25))) hK (by omega) hl (by omega) (by omega)
  by_cases c : (y_notePr (S.set r R) r (y_next S.N r (max (R.1 10) (R.1 25)))).2 = true
  · obtain ⟨R', e1, e2, e3, e4, e5, hM⟩ := p1 c
    rw [camp_eq1 c e1]
    show Fi K (y_sendAll (S.set r (y_cm R' (y_next S.N r (max (R.1 10) (R.1 25))) r)) 1 r _ (R'.1 7 + 1) 0) r
    have hfresh : ∀ s, g.1 s (y_next S.N r (max (R.1 10) (R.1 25))) = 0 := fun s => by
      rcases Nat.eq_zero_or_pos (g.1 s (y_next S.N r (max (R.1 10) (R.1 25)))) with z | z
      · exact z
      · have := (h.1.2.2.2.2.2.2.2.1.2.2 s _ z).2
        rw [show (S.set r R).N = S.N from rfl, n3, pm_set, va_up_self] at this
        omega
    generalize y_next S.N r (max (R.1 10) (R.1 25)) = b at n1 n2 n3 e3 hfresh ⊢
    obtain ⟨o1, o2, o3, o4, o5, o6, o7, o8⟩ := cm_o R' b r
    have hv := hM.okv
    have hLo : Lo K (G + 1) S (y_cm R' b r) := by
      obtain ⟨l1, l2, l3, l4, l5, l6⟩ := hM.2.2.2.1
      refine ⟨okK_u (okK_u (okK_u (okK_u (okK_u (okK_u (okK_fol hv.2.2.1 l1) (show 1 ≤ 2 by decide)) (show b ≤ 9 * K by omega)) (show 2 ^ r < 2 ^ S.N from two_lt h.2.1)) hv.2.2.2.2.2.1) hv.2.2.2.2.1) (Nat.zero_le K), ?_, ?_, fun z => ?_, ?_, fun z => ?_⟩
      · unfold SfK
        rw [o1 7 (by decide) (by decide), o1 8 (by decide) (by decide), o1 9 (by decide) (by decide)]; exact l2
      · unfold QOk
        rw [o2]; exact l3
      · rw [o3] at z; cases z
      · unfold AcOk
        rw [o1 11 (by decide) (by decide), o1 12 (by decide) (by decide)]; exact l5
      · rw [o7] at z
        rw [o8]; exact l5.1 z
    have hM2 : Mid K (G + 1) g S r (y_cm R' b r) := hM.c' (fun f a _ _ _ b => o1 f a b) (by rw [o2]) hLo
    obtain ⟨S', x1, x2, x3, x4⟩ := hM2.all (kd := 1) (b := b) (s := R'.1 7 + 1) (q := 0) (fun t ht _ => MgI_1 (Or.inl rfl) h.2.1 ht (by omega) (by omega) hv.2.2.1 (fun z => by cases z))
    rw [x1]
    have e7 : (y_cm R' b r).1 7 = R'.1 7 := o1 7 (by decide) (by decide)
    have e10 : (y_cm R' b r).1 10 = b := (o1 10 (by decide) (by decide)).trans e3
    refine x2.fin hG (by rw [o2]; exact e5) (fun _ => ?_) (fun z => by rw [o3] at z; cases z) (fun _ => ?_)
    · rw [e7, o4, o7, o8, x3.1]
      refine ⟨o6, hfresh _, fun z => (hM.2.2.1.1 z).2.1, fun t _ ht => ?_⟩
      rw [o5] at ht
      have := tb_one ht
      subst this
      refine ⟨?_, fun b' hb' => ⟨fun s' hs' w => ?_, fun hz w => ?_⟩⟩
      · rw [pm_set, va_up_self, e10]; exact Nat.le_refl _
      · have := (hM.1.2.2.2.2.2.2.2.1.1 s' b' t h.2.1 w).2.2
        rw [ix_set, va_up_self] at this
        omega
      · rcases hz with hz | hz
        · exact hM.2.2.1.2 hz b' w
        · rcases Nat.eq_zero_or_pos (R'.1 12) with zz | zz
          · exact hM.2.2.1.2 zz b' w
          · have := (hM.2.2.1.1 zz).2.2 b' w
            omega
    · rw [o4, x3.1]
      refine ⟨n3, ⟨e10.symm, by omega⟩, fun s _ => hfresh s⟩
  · have cf : (y_notePr (S.set r R) r (y_next S.N r (max (R.1 10) (R.1 25)))).2 = false := Bool.eq_false_iff.mpr c
    rw [camp_eq0 cf]
    exact p2 cf
/-- a leader proposes at the slot behind its index -/
theorem Mid.proposeIt {K G q : Nat} {g : Gh} {S : Sx} {r : Nat} {R : Rp} (h : Mid K G g S r R) (hK : K ≤ 600) (hG : G + 1 ≤ 1 + 4 * K) (hl : R.2.2.1.length < 48) (h19 : R.1 19 = 2) (hRo : RoI S.N g r R) (hq : 0 < q) (hqn : q < S.1 4) (h0 : g.1 (R.1 7 + 1) (R.1 20) = 0) (hs : ∀ b', b' < R.1 20 → g.1 (R.1 7 + 1) b' = q ∨ Blk S.N g (pmS (S.set r R)) (R.1 7 + 1) b') (hQ : Quo S.N (fun t => R.1 20 ≤ pmS (S.set r R) t ∧ ∀ b', b' < R.1 20 → ∀ s, R.1 7 + 1 < s → ¬ g.2 s b' t)) : Fi K (y_proposeIt (S.set r R) r q) r := by
  obtain ⟨r1, ⟨r2, r3⟩, r4⟩ := hRo (by omega)
  have ex0 := Ex.prop (pm := pmS (S.set r R)) (q := q) h0
  have hv := h.okv
  have h1 : Mid K G (gProp g (R.1 7 + 1) (R.1 20) q) S r R := ⟨h.1.prop h.2.1 h0 r3 r1 (Nat.le_of_eq r2) hs, h.2.1, h.2.2.1.x ex0 (fun _ _ w => w), h.2.2.2⟩
  have hg1 : (gProp g (R.1 7 + 1) (R.1 20) q).1 (R.1 7 + 1) (R.1 20) = q := if_pos ⟨rfl, rfl⟩
  have hgn : ∀ s, R.1 7 + 1 < s → (gProp g (R.1 7 + 1) (R.1 20) q).1 s (R.1 20) = 0 := fun s z => (if_neg (fun e => by omega)).trans (r4 s z)
  have hg2 : (gProp g (R.1 7 + 1) (R.1 20) q).2 = g.2 := rfl
  generalize gProp g (R.1 7 + 1) (R.1 20) q = g1 at h1 hg1 hgn hg2 ex0
  obtain ⟨p1, p2⟩ := h1.accept (b := R.1 20) (q := q) hK (by omega) hl (Nat.le_of_eq r2.symm) (by omega) hq hqn hg1
  by_cases c : (y_accepts (S.set r R) r (R.1 20) q).2 = true
  · obtain ⟨R', e1, e2, e10, e11, e12, e3, e4, hM⟩ := p1 c
    rw [prop_eq1 c e1]
    have e7 : R'.1 7 = R.1 7 := e2 7 (by decide) (by decide) (by decide) (by decide) (by decide) (by decide) (by decide) (by decide)
    have e20 : R'.1 20 = R.1 20 := e2 20 (by decide) (by decide) (by decide) (by decide) (by decide) (by decide) (by decide) (by decide)
    have e19 : R'.1 19 = R.1 19 := e2 19 (by decide) (by decide) (by decide) (by decide) (by decide) (by decide) (by decide) (by decide)
    generalize hX : ((R'.u 22 q).u 21 (2 ^ r)).u 13 0 = X
    have o1 : ∀ f, f ≠ 13 → f ≠ 21 → f ≠ 22 → X.1 f = R'.1 f := fun f a b c => by rw [← hX, u_n _ _ a, u_n _ _ b, u_n _ _ c]
    have o2 : X.2 = R'.2 := by rw [← hX]; rfl
    have o21 : X.1 21 = 2 ^ r := by rw [← hX]; rfl
    have o22 : X.1 22 = q := by rw [← hX]; rfl
    have x19 : X.1 19 = 2 := (o1 19 (by decide) (by decide) (by decide)).trans (e19.trans h19)
    have hLo : Lo K (G + 1) S X := by
      obtain ⟨l1, l2, l3, l4, l5, l6⟩ := hM.2.2.2.1
      refine ⟨?_, ?_, ?_, fun z => by omega, ?_, ?_⟩
      · rw [← hX]
        exact okK_u (okK_u (okK_u l1 (show q < S.1 4 from hqn)) (show 2 ^ r < 2 ^ S.N from two_lt h.2.1)) (Nat.zero_le K)
      · unfold SfK
        rw [o1 7 (by decide) (by decide) (by decide), o1 8 (by decide) (by decide) (by decide), o1 9 (by decide) (by decide) (by decide)]; exact l2
      · unfold QOk
        rw [o2]; exact l3
      · unfold AcOk
        rw [o1 11 (by decide) (by decide) (by decide), o1 12 (by decide) (by decide) (by decide)]; exact l5
      · unfold TlOk
        rw [o1 23 (by decide) (by decide) (by decide), o1 24 (by decide) (by decide) (by decide)]; exact l6
    clear hX
    have hM2 : Mid K (G + 1) (gVote g1 (R.1 7 + 1) (R.1 20) r) S r X := hM.c' (fun f a _ _ _ b => o1 f a (by omega) (by omega)) (by rw [o2]) hLo
    have ex1 : Ex g1 (pmS (S.set r R)) (gVote g1 (R.1 7 + 1) (R.1 20) r) (pmS (S.set r X)) := by
      have := Ex.vote (g := g1) (pm := pmS (S.set r R)) (s := R.1 7 + 1) (b := R.1 20) (r := r) (by rw [pm_set, va_up_self]; omega)
      have e : pmS (S.set r X) = va_up (pmS (S.set r R)) r (R.1 20) := by
        rw [pm_set, pm_set, o1 10 (by decide) (by decide) (by decide), e10]
        funext k
        by_cases ek : k = r
        · subst ek; rw [va_up_self, va_up_self]
        · rw [va_up_ne _ _ ek, va_up_ne _ _ ek, va_up_ne _ _ ek]
      rw [e]; exact this
    have ex := ex0.tr ex1
    have hmsg : ∀ t, t < S.N → t ≠ r → MgI K (gVote g1 (R.1 7 + 1) (R.1 20) r) (pmS (S.set r X)) S (y_msg 3 r t (R'.1 20) (R'.1 7 + 1) q 0 0) := fun t ht _ => by
      refine ⟨⟨show 1 ≤ 3 by decide, show 3 ≤ 10 by decide, h.2.1, ht, show R'.1 20 ≤ 9 * K by omega, show R'.1 7 + 1 ≤ S.ll + 1 by omega, hqn, Nat.zero_le (9 * K), SpM0 rfl, fun _ => hq, fun z => ?_, fun z => ?_⟩, fun z => ?_, fun _ => ⟨hq, ?_⟩, fun z => ?_, fun z => ?_⟩
      · exact absurd (show (3 : Nat) = 2 from z) (by decide)
      · exact absurd (show (3 : Nat) = 8 from z) (by decide)
      · exact absurd (show (3 : Nat) = 2 from z) (by decide)
      · show (gVote g1 (R.1 7 + 1) (R.1 20) r).1 (R'.1 7 + 1) (R'.1 20) = q
        rw [e7, e20]; exact hg1
      · exact absurd (show (3 : Nat) = 4 from z) (by decide)
      · exact absurd (show (3 : Nat) = 5 from z) (by decide)
    obtain ⟨S', x1, x2, x3, x4⟩ := hM2.all (kd := 3) (b := R'.1 20) (s := R'.1 7 + 1) (q := q) hmsg
    rw [x1]
    have y7 : X.1 7 = R.1 7 := (o1 7 (by decide) (by decide) (by decide)).trans e7
    have y20 : X.1 20 = R.1 20 := (o1 20 (by decide) (by decide) (by decide)).trans e20
    refine x2.fin hG (by rw [o2]; exact e4) (fun z => by omega) (fun _ => ?_) (fun _ => ?_)
    · rw [y7, y20, o22, x3.1, pm_r x4]
      refine ⟨Quo.mono hQ (fun t _ w => ⟨Nat.le_trans w.1 (ex.2.2.1 t), fun b' hb' s hs' v => ?_⟩), fun z => by omega, fun _ => ⟨hg1, fun t _ ht => ?_⟩⟩
      · rcases ex.2.2.2 s b' t v with v | v
        · rcases hs' with hs' | hs'
          · exact w.2 b' hb' s hs' v
          · omega
        · have := w.1; omega
      · rw [o21] at ht
        rw [tb_one ht]
        exact Or.inr ⟨rfl, rfl, rfl⟩
    · rw [y7, y20, x3.1, o1 10 (by decide) (by decide) (by decide), e10]
      exact ⟨r1, ⟨rfl, r3⟩, hgn⟩
  · have cf : (y_accepts (S.set r R) r (R.1 20) q).2 = false := Bool.eq_false_iff.mpr c
    rw [prop_eq0 cf]
    exact p2 cf
/-- a leader with nothing proposed -/
def LdI (N : Nat) (g : Gh) (pm : Nat → Nat) (R : Rp) : Prop := R.1 22 = 0 ∧ R.1 21 = 0 ∧ g.1 (R.1 7 + 1) (R.1 20) = 0 ∧ Quo N (fun t => R.1 20 ≤ pm t ∧ ∀ b', b' < R.1 20 → ∀ s, R.1 7 + 1 ≤ s → ¬ g.2 s b' t)
theorem LdI.le {N : Nat} {g : Gh} {pm : Nat → Nat} {R : Rp} (h : LdI N g pm R) : LeI N g pm R := fun _ =>
  ⟨Quo.mono h.2.2.2 (fun t _ w => ⟨w.1, fun b' hb s hs => w.2 b' hb s (by omega)⟩), fun _ => ⟨h.2.2.1, h.2.1⟩, fun z => by have := h.1; omega⟩
theorem LeI.ld {N : Nat} {g : Gh} {pm : Nat → Nat} {R : Rp} (h : LeI N g pm R) (h19 : R.1 19 = 2) (h22 : R.1 22 = 0) : LdI N g pm R := by
  obtain ⟨a1, a2, a3⟩ := h h19
  exact ⟨h22, (a2 h22).2, (a2 h22).1, Quo.mono a1 (fun t _ w => ⟨w.1, fun b' hb s hs => w.2 b' hb s (by omega)⟩)⟩
theorem Mid.propose {K G : Nat} {g : Gh} {S : Sx} {r : Nat} {R : Rp} (h : Mid K G g S r R) (hK : K ≤ 600) (hG : G + 1 ≤ 1 + 4 * K) (hl : R.2.2.1.length < 48) (h19 : R.1 19 = 2) (hRo : RoI S.N g r R) (hLd : LdI S.N g (pmS (S.set r R)) R) : ((y_propose (S.set r R) r).2 = true → Fi K (y_propose (S.set r R) r).1 r) ∧ ((y_propose (S.set r R) r).2 = false → (y_propose (S.set r R) r).1 = S.set r R) := by
  unfold y_propose
  rw [set_rp]
  have hsub : ∀ q, q ∈ R.2.1.dropWhile (fun q => y_known (S.set r R) r q) → q ∈ R.2.1 := fun q hq => (List.dropWhile_suffix _).subset hq
  have hlen : (R.2.1.dropWhile (fun q => y_known (S.set r R) r q)).length ≤ R.2.1.length := (List.dropWhile_suffix _).length_le
  generalize R.2.1.dropWhile (fun q => y_known (S.set r R) r q) = l at hsub hlen ⊢
  cases l with
  | nil => exact ⟨fun z => (by cases z), fun _ => rfl⟩
  | cons q qs =>
    refine ⟨fun _ => ?_, fun z => (by cases z)⟩
    show Fi K (y_proposeIt ((S.set r R).set r (R.q (q :: qs))) r q) r
    rw [set_set]
    have hQ := h.2.2.2.1.2.2.1
    have hM : Mid K G g S r (R.q (q :: qs)) := h.c' (fun _ _ _ _ _ _ => rfl) rfl (h.2.2.2.1.q ⟨Nat.le_trans hlen hQ.1, fun x hx => hQ.2 x (hsub x hx)⟩)
    have hq := hQ.2 q (hsub q List.mem_cons_self)
    have ep : pmS (S.set r (R.q (q :: qs))) = pmS (S.set r R) := pm_ss rfl
    refine hM.proposeIt (q := q) hK hG hl h19 hRo hq.1 hq.2 hLd.2.2.1 ?_ ?_
    · rw [ep]
      exact safe_new (Quo.mono hLd.2.2.2 (fun t _ w => ⟨w.1, fun b' hb => w.2 b' hb _ (Nat.le_refl _)⟩))
    · rw [ep]
      exact Quo.mono hLd.2.2.2 (fun t _ w => ⟨w.1, fun b' hb s hs => w.2 b' hb s (Nat.le_of_lt hs)⟩)
