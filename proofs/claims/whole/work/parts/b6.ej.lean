theorem orw_lt {a t N : Nat} (ha : a < 2 ^ N) (ht : t < N) : a ||| 2 ^ t < 2 ^ N := Nat.or_lt_two_pow ha (two_lt ht)
theorem tbw_or {a t k : Nat} (h : (a ||| 2 ^ t).testBit k = true) : a.testBit k = true ∨ k = t := by
  rw [Nat.testBit_or] at h
  rcases Bool.or_eq_true _ _ |>.mp h with w | w
  · exact Or.inl w
  · exact Or.inr (tb_one w)
theorem gp2_o {R : Rp} {t q o : Nat} : (∀ f, f ≠ 21 → f ≠ 23 → f ≠ 24 → (y_gp2 R t q o).1 f = R.1 f) ∧ (y_gp2 R t q o).2 = R.2 ∧ (y_gp2 R t q o).1 21 = R.1 21 ||| 2 ^ t ∧ ((0 < q ∧ R.1 24 < o ∧ (y_gp2 R t q o).1 23 = q ∧ (y_gp2 R t q o).1 24 = o) ∨ (¬ (0 < q ∧ R.1 24 < o) ∧ (y_gp2 R t q o).1 23 = R.1 23 ∧ (y_gp2 R t q o).1 24 = R.1 24)) := by
  unfold y_gp2
  split
  · rename_i c
    exact ⟨fun f a b d => by rw [u_n _ _ d, u_n _ _ b, u_n _ _ a], rfl, rfl, Or.inl ⟨c.1, c.2, rfl, rfl⟩⟩
  · rename_i c
    exact ⟨fun f a b d => u_n _ _ a, rfl, rfl, Or.inr ⟨c, rfl, rfl⟩⟩
theorem Al.gotPromise {K G : Nat} {g : Gh} {S : Sx} {r t b s q o : Nat} {R : Rp} (h : Al K G g S r R) (hK : K ≤ 600) (hG : G + 1 ≤ 1 + 4 * K) (ht : t < S.N) (hqn : q < S.1 4) (ho : o ≤ 9 * K) (hqo : 0 < q → 0 < o) (hp : Prm g (pmS (S.set r R)) t s b q o) (hg : 0 < q → g.1 s o = q) : Fi K (y_gotPromise (S.set r R) r t b s q o) r := by
  by_cases c : ¬ (R.1 19 = 1 ∧ R.1 20 = b ∧ s = R.1 7 + 1 ∧ ¬ (R.1 21).testBit t)
  · rw [gp_0 c]; exact h.fin (by omega)
  replace c := Decidable.of_not_not c
  rw [gp_1 c]
  obtain ⟨c1, rfl, rfl, c4⟩ := c
  obtain ⟨a0, a1, a2, a3⟩ := h.2.2.1 c1
  obtain ⟨r1, ⟨r2, r3⟩, r4⟩ := h.2.2.2.2 (by omega)
  obtain ⟨w1, w2, w3, w4⟩ := gp2_o (R := R) (t := t) (q := q) (o := o)
  have hv := h.1.okv
  obtain ⟨l1, l2, l3, l4, l5, l6⟩ := h.1.2.2.2.1
  generalize y_gp2 R t q o = X at w1 w2 w3 w4 ⊢
  have x7 : X.1 7 = R.1 7 := w1 7 (by decide) (by decide) (by decide)
  have x10 : X.1 10 = R.1 10 := w1 10 (by decide) (by decide) (by decide)
  have x19 : X.1 19 = 1 := (w1 19 (by decide) (by decide) (by decide)).trans c1
  have x20 : X.1 20 = R.1 20 := w1 20 (by decide) (by decide) (by decide)
  have x22 : X.1 22 = 0 := (w1 22 (by decide) (by decide) (by decide)).trans a0
  have hG23 : 0 < X.1 23 → g.1 (R.1 7 + 1) (X.1 24) = X.1 23 := by
    rcases w4 with ⟨v1, v2, v3, v4⟩ | ⟨v1, v3, v4⟩
    · rw [v3, v4]; exact hg
    · rw [v3, v4]; exact a2
  have hPr : ∀ k, k < S.N → (X.1 21).testBit k = true → Prm g (pmS (S.set r R)) k (R.1 7 + 1) (R.1 20) (X.1 23) (X.1 24) := fun k hk hb => by
    rw [w3] at hb
    have key : (R.1 21).testBit k = true ∨ k = t := tbw_or hb
    rcases w4 with ⟨v1, v2, v3, v4⟩ | ⟨v1, v3, v4⟩
    · rw [v3, v4]
      rcases key with z | z
      · have p := a3 k hk z
        exact ⟨p.1, fun b' hb' => ⟨(p.2 b' hb').1, fun y => (p.2 b' hb').2 (by omega)⟩⟩
      · rw [z]; exact hp
    · rw [v3, v4]
      rcases key with z | z
      · exact a3 k hk z
      · rw [z]
        refine ⟨hp.1, fun b' hb' => ⟨(hp.2 b' hb').1, fun y => (hp.2 b' hb').2 ?_⟩⟩
        rcases Nat.eq_zero_or_pos q with q0 | q0
        · exact Or.inl q0
        · have : ¬ R.1 24 < o := fun e => v1 ⟨q0, e⟩
          rcases y with y | y
          · have := l6 y
            have := hqo q0
            omega
          · omega
  have okX : ∀ f, okK K G S f (X.1 f) := fun f => by
    by_cases e : f = 21 ∨ f = 23 ∨ f = 24
    · rcases e with rfl | rfl | rfl
      · rw [w3]; exact orw_lt (l1 21) ht
      · rcases w4 with ⟨_, _, v3, _⟩ | ⟨_, v3, _⟩
        · rw [v3]; exact hqn
        · rw [v3]; exact l1 23
      · rcases w4 with ⟨_, _, _, v4⟩ | ⟨_, _, v4⟩
        · rw [v4]; exact ho
        · rw [v4]; exact l1 24
    · rw [w1 f (by omega) (by omega) (by omega)]; exact l1 f
  have tlX : TlOk X := fun z => by
    rcases w4 with ⟨v1, v2, v3, v4⟩ | ⟨v1, v3, v4⟩
    · omega
    · rw [v4]; exact l6 (by omega)
  have sfX : ∀ Y : Rp, (∀ f, f < 19 → f ≠ 13 → Y.1 f = X.1 f) → SfK S Y ∧ AcOk Y := fun Y e => by
    have ee : ∀ f, f < 19 → f ≠ 13 → Y.1 f = R.1 f := fun f a b => (e f a b).trans (w1 f (by omega) (by omega) (by omega))
    unfold SfK AcOk
    rw [ee 7 (by decide) (by decide), ee 8 (by decide) (by decide), ee 9 (by decide) (by decide), ee 11 (by decide) (by decide), ee 12 (by decide) (by decide)]
    exact ⟨l2, l5⟩
  by_cases cq : S.N < 2 * y_count S.N (X.1 21)
  · rw [if_pos cq]
    generalize hY : ((X.u 19 2).u 21 0).u 13 0 = Y
    have y1 : ∀ f, f ≠ 13 → f ≠ 19 → f ≠ 21 → Y.1 f = X.1 f := fun f a b d => by rw [← hY, u_n _ _ a, u_n _ _ d, u_n _ _ b]
    have y2 : Y.2 = R.2 := by rw [← hY]; exact w2
    have y19 : Y.1 19 = 2 := by rw [← hY]; rfl
    have y21 : Y.1 21 = 0 := by rw [← hY]; rfl
    have okY : ∀ f, okK K G S f (Y.1 f) := by
      rw [← hY]
      exact okK_u (okK_u (okK_u okX (show 2 ≤ 2 by decide)) (Nat.two_pow_pos S.N)) (Nat.zero_le K)
    clear hY
    have sY := sfX Y (fun f a b => y1 f b (by omega) (by omega))
    have LoY : Lo K G S Y := by
      refine ⟨okY, sY.1, ?_, fun z => by omega, sY.2, fun z => ?_⟩
      · unfold QOk
        rw [y2]; exact l3
      · rw [y1 24 (by decide) (by decide) (by decide)]
        exact tlX (by rw [← y1 23 (by decide) (by decide) (by decide)]; exact z)
    have hM : Mid K G g S r Y := h.1.c' (fun f a _ _ _ b => (y1 f a (by omega) (by omega)).trans (w1 f (by omega) (by omega) (by omega))) (by rw [y2]) LoY
    have y7 : Y.1 7 = R.1 7 := (y1 7 (by decide) (by decide) (by decide)).trans x7
    have y10 : Y.1 10 = R.1 10 := (y1 10 (by decide) (by decide) (by decide)).trans x10
    have y20 : Y.1 20 = R.1 20 := (y1 20 (by decide) (by decide) (by decide)).trans x20
    have y22 : Y.1 22 = 0 := (y1 22 (by decide) (by decide) (by decide)).trans x22
    have ep : pmS (S.set r Y) = pmS (S.set r R) := pm_ss y10
    have hRo : RoI S.N g r Y := fun _ => by
      rw [y20, y10, y7]; exact ⟨r1, ⟨r2, r3⟩, r4⟩
    have hlen : Y.2.2.1.length < 48 := by rw [y2]; exact h.2.1
    have hquo : Quo S.N (fun k => Prm g (pmS (S.set r R)) k (R.1 7 + 1) (R.1 20) (X.1 23) (X.1 24)) := ⟨X.1 21, cq, hPr⟩
    by_cases c23 : 0 < X.1 23
    · rw [if_pos c23]
      refine hM.proposeIt hK hG hlen y19 hRo c23 (okX 23) (by rw [y7, y20]; exact a1) ?_ ?_
      · rw [y7, y20, ep]
        exact safe_old h.1.1.2.2.2.2.2.2.2.1 c23 (hG23 c23) hquo
      · rw [y7, y20, ep]
        exact Quo.mono hquo (fun k _ w => ⟨w.1, fun b' hb' s' hs' => (w.2 b' hb').1 s' hs'⟩)
    · rw [if_neg c23]
      have hLd : LdI S.N g (pmS (S.set r Y)) Y := by
        refine ⟨y22, y21, by rw [y7, y20]; exact a1, ?_⟩
        rw [y7, y20, ep]
        refine Quo.mono hquo (fun k _ w => ⟨w.1, fun b' hb' s' hs' => ?_⟩)
        by_cases e : s' = R.1 7 + 1
        · rw [e]; exact (w.2 b' hb').2 (Or.inl (by omega))
        · exact (w.2 b' hb').1 s' (by omega)
      obtain ⟨u1, u2⟩ := hM.propose hK hG hlen y19 hRo hLd
      by_cases cp : (y_propose (S.set r Y) r).2 = true
      · exact u1 cp
      · rw [u2 (Bool.eq_false_iff.mpr cp)]
        exact hM.fin (by omega) hlen (fun z => by omega) hLd.le hRo
  · rw [if_neg cq]
    have sX := sfX X (fun _ _ _ => rfl)
    have LoX : Lo K G S X := by
      refine ⟨okX, sX.1, ?_, fun z => by omega, sX.2, tlX⟩
      unfold QOk
      rw [w2]; exact l3
    have hM : Mid K G g S r X := h.1.c' (fun f a _ _ _ b => w1 f (by omega) (by omega) (by omega)) (by rw [w2]) LoX
    have ep : pmS (S.set r X) = pmS (S.set r R) := pm_ss x10
    refine hM.fin (by omega) (by rw [w2]; exact h.2.1) (fun _ => ?_) (fun z => by omega) (fun _ => ?_)
    · rw [x7, x20, ep]
      exact ⟨x22, a1, hG23, hPr⟩
    · rw [x7, x20, x10]; exact ⟨r1, ⟨r2, r3⟩, r4⟩
theorem Al.gotAccept {K G : Nat} {g : Gh} {S : Sx} {r t b s q : Nat} {R : Rp} (h : Al K G g S r R) (hK : K ≤ 600) (hG : G + 1 ≤ 1 + 4 * K) (ht : t < S.N) (hb : b ≤ 9 * K) (hqn : q < S.1 4) (hq : 0 < q) (hg : g.1 s b = q) : Fi K (y_gotAccept (S.set r R) r t b s q) r := by
  have hv := h.1.okv
  by_cases c : s ≤ R.1 7
  · rw [ga_0 c]; exact h.help (by omega) ht
  by_cases c1 : R.1 7 + 1 < s
  · rw [ga_1 c1]
    exact h.say (by omega) (by decide) ht (Nat.zero_le _) (by omega) hv.2.2.1 (fun z => by cases z)
  have es : s = R.1 7 + 1 := by omega
  by_cases c2 : b < R.1 10
  · rw [ga_2 es c2]
    exact h.say (by omega) (by decide) ht (by omega) (by omega) hv.2.2.1 (fun z => by cases z)
  rw [es] at hg
  obtain ⟨p1, p2⟩ := h.1.accept (b := b) (q := q) hK (by omega) h.2.1 (by omega) hb hq hqn hg
  by_cases cc : (y_accepts (S.set r R) r b q).2 = true
  · obtain ⟨R', e1, e2, e10, e11, e12, e3, e4, hM⟩ := p1 cc
    rw [ga_4 es c2 cc e1, send_set]
    have eo : ∀ f, 12 < f → f < 31 → R'.1 f = R.1 f := fun f a b => e2 f (by omega) (by omega) (by omega) (by omega) (by omega) (by omega) (by omega) (by omega)
    have e7 : R'.1 7 = R.1 7 := e2 7 (by decide) (by decide) (by decide) (by decide) (by decide) (by decide) (by decide) (by decide)
    have hA : Al K (G + 1) (gVote g (R.1 7 + 1) b r) S r (y_ga R' b) := by
      unfold y_ga
      refine Al.u ?_ (Or.inl rfl) (Nat.zero_le K)
      by_cases cr : R'.1 19 = 1 ∨ (R'.1 19 = 2 ∧ ¬ R'.1 20 = b)
      · rw [if_pos cr]
        exact hM.fol.al0 e4 rfl
      · rw [if_neg cr]
        rcases Nat.eq_zero_or_pos (R'.1 19) with z | z
        · exact hM.al0 e4 z
        · have z2 : R'.1 19 = 2 := by
            have : R'.1 19 ≤ 2 := hM.2.2.2.1.1 19
            omega
          have z20 : R'.1 20 = b := by
            rcases Nat.decEq (R'.1 20) b with w | w
            · exact absurd (Or.inr ⟨z2, w⟩) cr
            · exact w
          have y19 : R.1 19 = 2 := (eo 19 (by decide) (by decide)).symm.trans z2
          have y20 : R.1 20 = b := (eo 20 (by decide) (by decide)).symm.trans z20
          obtain ⟨b1, b2, b3⟩ := h.2.2.2.1 y19
          obtain ⟨r1, ⟨r2, r3⟩, r4⟩ := h.2.2.2.2 (by omega)
          have ex : Ex g (pmS (S.set r R)) (gVote g (R.1 7 + 1) b r) (pmS (S.set r R')) := by
            have := Ex.vote (g := g) (pm := pmS (S.set r R)) (s := R.1 7 + 1) (b := b) (r := r) (by rw [pm_set, va_up_self]; omega)
            have e : pmS (S.set r R') = va_up (pmS (S.set r R)) r b := by
              rw [pm_set, pm_set, e10]
              funext k
              by_cases ek : k = r
              · subst ek; rw [va_up_self, va_up_self]
              · rw [va_up_ne _ _ ek, va_up_ne _ _ ek, va_up_ne _ _ ek]
            rw [e]; exact this
          refine ⟨hM, e4, fun w => by omega, fun _ => ?_, fun _ => ?_⟩
          · rw [e7, eo 20 (by decide) (by decide), eo 21 (by decide) (by decide), eo 22 (by decide) (by decide)]
            refine ⟨Quo.mono b1 (fun k _ w => ⟨Nat.le_trans w.1 (ex.2.2.1 k), fun b' hb' s' hs' v => ?_⟩), b2, fun w => ⟨(b3 w).1, fun k k1 k2 => ex.2.1 _ _ _ ((b3 w).2 k k1 k2)⟩⟩
            rcases ex.2.2.2 s' b' k v with v | v
            · exact w.2 b' hb' s' hs' v
            · have := w.1; omega
          · rw [e7, eo 20 (by decide) (by decide), e10]
            exact ⟨r1, ⟨y20, r3⟩, r4⟩
    refine (hA.send (m := y_msg 4 r t b s 0 0 0) ?_).fin hG
    refine ⟨⟨show 1 ≤ 4 by decide, show 4 ≤ 10 by decide, h.1.2.1, ht, hb, show s ≤ S.ll + 1 by omega, hv.2.2.1, Nat.zero_le (9 * K), SpM0 rfl, fun z => ?_, fun z => ?_, fun z => ?_⟩, fun z => ?_, fun z => ?_, fun _ => ?_, fun z => ?_⟩
    · exact absurd (show (4 : Nat) = 3 ∨ (4 : Nat) = 5 ∨ (4 : Nat) = 9 from z) (by decide)
    · exact absurd (show (4 : Nat) = 2 from z) (by decide)
    · exact absurd (show (4 : Nat) = 8 from z) (by decide)
    · exact absurd (show (4 : Nat) = 2 from z) (by decide)
    · exact absurd (show (4 : Nat) = 3 from z) (by decide)
    · show (gVote g (R.1 7 + 1) b r).2 s b r
      exact Or.inr ⟨es, rfl, rfl⟩
    · exact absurd (show (4 : Nat) = 5 from z) (by decide)
  · have cf : (y_accepts (S.set r R) r b q).2 = false := Bool.eq_false_iff.mpr cc
    rw [ga_3 es c2 cf]
    exact p2 cf
/-- what a leader is when it has learnt -/
theorem lead_on {K G G' : Nat} {g : Gh} {S S' : Sx} {r : Nat} {R R' : Rp} (h4 : LeI S.N g (pmS (S.set r R)) R) (h5 : RoI S.N g r R) (h19 : R.1 19 = 2) (hM : Mid K G' g S' r R') (erp : S'.rp = S.rp) (eW : Gw S S') (e7 : R'.1 7 = R.1 7 + 1) (e10 : R'.1 10 = R.1 10) (e20 : R'.1 20 = R.1 20) (e22 : R'.1 22 = 0) (e21 : R'.1 21 = 0) : LdI S'.N g (pmS (S'.set r R')) R' ∧ RoI S'.N g r R' := by
  obtain ⟨b1, b2, b3⟩ := h4 h19
  obtain ⟨r1, r2, r4⟩ := h5 (by omega)
  have ep : pmS (S'.set r R') = pmS (S.set r R) := by rw [pm_set, pm_set, pm_e erp, e10]
  refine ⟨⟨e22, e21, ?_, ?_⟩, fun _ => ?_⟩
  · rw [e7, e20]; exact r4 _ (by omega)
  · rw [e7, e20, ep, eW.1]
    exact Quo.mono b1 (fun k _ w => ⟨w.1, fun b' hb' s hs => w.2 b' hb' s (by omega)⟩)
  · rw [e7, e20, e10, eW.1]
    exact ⟨r1, r2, fun s hs => r4 s (by omega)⟩
theorem Al.gotAccepted {K G : Nat} {g : Gh} {S : Sx} {r t b s : Nat} {R : Rp} (h : Al K G g S r R) (hK : K ≤ 600) (hG : G + 2 ≤ 1 + 4 * K) (h7K : S.ll + 1 ≤ K) (ht : t < S.N) (hg : g.2 s b t) : Fi K (y_gotAccepted (S.set r R) r t b s) r := by
  by_cases c : ¬ (R.1 19 = 2 ∧ R.1 20 = b ∧ ¬ R.1 22 = 0 ∧ s = R.1 7 + 1 ∧ ¬ (R.1 21).testBit t)
  · rw [gd_0 c]; exact h.fin (by omega)
  replace c := Decidable.of_not_not c
  rw [gd_1 c]
  obtain ⟨c1, rfl, c3, rfl, c5⟩ := c
  have hv := h.1.okv
  obtain ⟨b1, b2, b3⟩ := h.2.2.2.1 c1
  obtain ⟨g22, v21⟩ := b3 (by omega)
  have hR := h.2.2.2.2
  generalize hX : R.u 21 (R.1 21 ||| 2 ^ t) = X
  have x1 : ∀ f, f ≠ 21 → X.1 f = R.1 f := fun f a => by rw [← hX, u_n _ _ a]
  have x2 : X.2 = R.2 := by rw [← hX]; rfl
  have x21 : X.1 21 = R.1 21 ||| 2 ^ t := by rw [← hX]; rfl
  have x7 : X.1 7 = R.1 7 := x1 7 (by decide)
  have x19 : X.1 19 = 2 := (x1 19 (by decide)).trans c1
  have LoX : Lo K G S X := by
    obtain ⟨l1, l2, l3, l4, l5, l6⟩ := h.1.2.2.2.1
    refine ⟨by rw [← hX]; exact okK_u l1 (orw_lt (l1 21) ht), ?_, ?_, fun z => by omega, ?_, ?_⟩
    · unfold SfK
      rw [x1 7 (by decide), x1 8 (by decide), x1 9 (by decide)]; exact l2
    · unfold QOk
      rw [x2]; exact l3
    · unfold AcOk
      rw [x1 11 (by decide), x1 12 (by decide)]; exact l5
    · unfold TlOk
      rw [x1 23 (by decide), x1 24 (by decide)]; exact l6
  clear hX
  have hM : Mid K G g S r X := h.1.c' (fun f _ _ _ _ b => x1 f (by omega)) (by rw [x2]) LoX
  have ep : pmS (S.set r X) = pmS (S.set r R) := pm_ss (x1 10 (by decide))
  have hvt : ∀ k, k < S.N → (R.1 21 ||| 2 ^ t).testBit k = true → g.2 (R.1 7 + 1) (R.1 20) k := fun k hk hb => by
    rcases tbw_or hb with z | z
    · exact v21 k hk z
    · rw [z]; exact hg
  have hLe : LeI S.N g (pmS (S.set r X)) X := fun _ => by
    rw [ep, x7, x1 20 (by decide), x1 22 (by decide), x21]
    exact ⟨b1, fun z => absurd z c3, fun _ => ⟨g22, hvt⟩⟩
  have hRo : RoI S.N g r X := fun _ => by
    rw [x7, x1 20 (by decide), x1 10 (by decide)]; exact hR (by omega)
  have hlen : X.2.2.1.length < 48 := by rw [x2]; exact h.2.1
  by_cases cq : S.N < 2 * y_count S.N (R.1 21 ||| 2 ^ t)
  · rw [if_pos cq]
    have hch : Chs S.N g (R.1 7 + 1) (R.1 22) := ⟨by omega, R.1 20, g22, R.1 21 ||| 2 ^ t, cq, hvt⟩
    obtain ⟨S1, s1, s2, s3, s4⟩ := hM.all (kd := 5) (b := 0) (s := R.1 7 + 1) (q := R.1 22) (fun k hk _ => by
      refine ⟨⟨show 1 ≤ 5 by decide, show 5 ≤ 10 by decide, h.1.2.1, hk, Nat.zero_le (9 * K), show R.1 7 + 1 ≤ S.ll + 1 by omega, hv.2.2.2.2.2.2.2.2.1, Nat.zero_le (9 * K), SpM0 rfl, fun _ => show 0 < R.1 22 by omega, fun z => ?_, fun z => ?_⟩, fun z => ?_, fun z => ?_, fun z => ?_, fun _ => hch⟩
      · exact absurd (show (5 : Nat) = 2 from z) (by decide)
      · exact absurd (show (5 : Nat) = 8 from z) (by decide)
      · exact absurd (show (5 : Nat) = 2 from z) (by decide)
      · exact absurd (show (5 : Nat) = 3 from z) (by decide)
      · exact absurd (show (5 : Nat) = 4 from z) (by decide))
    rw [s1]
    obtain ⟨p1, p2⟩ := s2.learn (q := R.1 22) hK (by omega) hlen (by omega) (Nat.lt_of_lt_of_le hv.2.2.2.2.2.2.2.2.1 s3.2.2.2.1) (by rw [x7, s3.1]; exact hch) (by omega)
    by_cases cl : (y_learn (S1.set r X) r (R.1 22)).2 = true
    · rw [if_pos cl]
      obtain ⟨S', R', e1, e2, e3, e4, e5, e6, hM', e7, e8, e9, e0⟩ := p1 cl
      rw [e1]
      have e8' := e8 (by omega)
      obtain ⟨d1, d2⟩ := lead_on (R := X) (G := G) (S := S) hLe hRo x19 hM' (e2.trans s4) (s3.tr e3) e4 e5 e8'.2 e9 (e0 x19)
      have hM'' := hM'
      obtain ⟨u1, u2⟩ := hM'.propose hK (by omega) e6 (e8'.1.trans x19) d2 d1
      by_cases cp : (y_propose (S'.set r R') r).2 = true
      · exact u1 cp
      · rw [u2 (Bool.eq_false_iff.mpr cp)]
        exact hM''.fin (by omega) e6 (fun z => by have := e8'.1; omega) d1.le d2
    · rw [if_neg cl]
      exact p2 (Bool.eq_false_iff.mpr cl)
  · rw [if_neg cq]
    exact hM.fin (by omega) hlen (fun z => by omega) hLe hRo
theorem Al.chosen {K G : Nat} {g : Gh} {S : Sx} {r q : Nat} {R : Rp} (h : Al K G g S r R) (hK : K ≤ 600) (hG : G + 1 ≤ 1 + 4 * K) (h7K : S.ll + 1 ≤ K) (hqn : q < S.1 4) (hc : Chs S.N g (R.1 7 + 1) q) : Fi K (y_learn (S.set r R) r q).1 r := by
  have hv := h.1.okv
  obtain ⟨p1, p2⟩ := h.1.learn (q := q) hK (by omega) h.2.1 hc.1 hqn hc (by omega)
  by_cases cl : (y_learn (S.set r R) r q).2 = true
  · obtain ⟨S', R', e1, e2, e3, e4, e5, e6, hM', e7, e8, e9, e0⟩ := p1 cl
    rw [e1]
    by_cases c2 : R.1 19 = 2
    · have e8' := e8 (by omega)
      obtain ⟨d1, d2⟩ := lead_on (G := G) h.2.2.2.1 h.2.2.2.2 c2 hM' e2 e3 e4 e5 e8'.2 e9 (e0 c2)
      exact hM'.fin hG e6 (fun z => by have := e8'.1; omega) d1.le d2
    · refine hM'.fin0 hG e6 ?_
      by_cases c1 : R.1 19 = 1
      · exact e7 c1
      · rw [(e8 c1).1]
        have : R.1 19 ≤ 2 := h.1.2.2.2.1.1 19
        omega
  · exact p2 (Bool.eq_false_iff.mpr cl)
