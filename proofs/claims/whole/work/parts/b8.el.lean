/-! ===== the calls keep it ===== -/
theorem Al.of {K : Nat} {g : Gh} {S : Sx} {r : Nat} (h : Cn K g S 9) (hr : r < S.N) (h6 : (S.rp r).1 6 = 1) : Al K (1 + 4 * K) g S r (S.rp r) := by
  obtain ⟨h1, ⟨⟨p1, p2, p3, p4⟩, h3, h4, h5, h6'⟩⟩ := h.opn hr
  refine ⟨⟨by rw [set_id]; exact h1, hr, p1, h3, h4, h6⟩, h5 h6, ?_, ?_, p4⟩
  · rw [set_id]; exact p2
  · rw [set_id]; exact p3
theorem Al.up {K K' G : Nat} {g : Gh} {S : Sx} {r : Nat} {R : Rp} (h : Al K G g S r R) (hK : K ≤ K') : Al K' G g S r R := by
  obtain ⟨⟨a1, a2, a3, a4, a5⟩, h2⟩ := h
  exact ⟨⟨a1.up hK, a2, a3, a4.m hK (Nat.le_refl _) (Gw.refl S), a5⟩, h2⟩
theorem iv_up {K K' : Nat} {S : Sx} (h : IvS K S) (hK : K ≤ K') : IvS K' S := by
  obtain ⟨g, hg⟩ := h
  exact ⟨g, hg.up hK⟩
theorem iv_tick {K : Nat} {S : Sx} {r : Nat} (h : IvS K S) (hK : K < 600) (hr : r < S.N) (h6 : (S.rp r).1 6 = 1) : IvS (K + 1) (y_tick S r) := by
  obtain ⟨g, hg⟩ := h
  have a := Al.of hg hr h6
  have o := a.1.2.2.2.1.1
  have o13 : (S.rp r).1 13 ≤ K := o 13
  have o10 : (S.rp r).1 10 ≤ 9 * K := o 10
  have o25 : (S.rp r).1 25 ≤ 9 * K := o 25
  have := (a.up (Nat.le_succ K)).tick (by omega) (by omega) (by omega) (by omega)
  rw [set_id] at this
  exact this.iv
theorem iv_comes {K : Nat} {S : Sx} {m : Mg} (h : ∃ g, Cn K g S 9 ∧ MgI K g (pmS S) S m) (hK : K < 600) (h6 : (S.rp (m 2)).1 6 = 1) : IvS (K + 1) (y_comes S m) := by
  obtain ⟨g, hg, hm⟩ := h
  have a := Al.of hg hm.1.2.2.2.1 h6
  have hl : S.ll ≤ K := hg.2.2.1
  have := (a.up (Nat.le_succ K)).comes (by omega) (by omega) (by omega) (by rw [set_id]; exact hm.m (Nat.le_succ K) (Gw.refl S) (Ex.refl (fun _ => Nat.le_refl _)))
  rw [set_id] at this
  exact this.iv
theorem iv_down {K : Nat} {S : Sx} {r : Nat} (h : IvS K S) (hr : r < S.N) (h6 : (S.rp r).1 6 = 1) : IvS K (y_goDown S r) := by
  obtain ⟨g, hg⟩ := h
  have := (Al.of hg hr h6).1.down (Nat.le_refl _)
  rw [set_id] at this
  exact this.iv
theorem iv_due {K : Nat} {S : Sx} {r v : Nat} (h : IvS K S) (hr : r < S.N) (h6 : (S.rp r).1 6 = 1) (hv : v ≤ 1000 ∨ v = y_no) : IvS K (y_due S r v) := by
  obtain ⟨g, hg⟩ := h
  obtain ⟨a1, a2, a3, a4, a5⟩ := Al.of hg hr h6
  have e : ∀ f, f ≠ 35 → ((S.rp r).u 35 v).1 f = (S.rp r).1 f := fun f hf => u_n _ _ hf
  have hd : DuOk ((S.rp r).u 35 v) := by
    unfold DuOk
    rw [u_s]
    rcases hv with q | q
    · exact Or.inl (by omega)
    · exact Or.inr q
  have hM : Mid K (1 + 4 * K) g S r ((S.rp r).u 35 v) := a1.c (e 6 (by decide)) (e 7 (by decide)) (e 10 (by decide)) (e 11 (by decide)) (e 12 (by decide)) (a1.2.2.2.1.u rfl True.intro) (a1.2.2.2.2.1.c rfl ⟨e 7 (by decide), e 8 (by decide), e 10 (by decide), e 11 (by decide), e 12 (by decide)⟩ (e 31 (by decide)) (e 32 (by decide)) (e 33 (by decide)) hd)
  refine (hM.fin (Nat.le_refl _) a2 ?_ ?_ ?_).iv
  · unfold CaI
    rw [pm_ss (e 10 (by decide)), e 7 (by decide), e 19 (by decide), e 20 (by decide), e 21 (by decide), e 22 (by decide), e 23 (by decide), e 24 (by decide)]; exact a3
  · unfold LeI
    rw [pm_ss (e 10 (by decide)), e 7 (by decide), e 19 (by decide), e 20 (by decide), e 21 (by decide), e 22 (by decide)]; exact a4
  · unfold RoI
    rw [e 7 (by decide), e 10 (by decide), e 19 (by decide), e 20 (by decide)]; exact a5
theorem reps_sf {S : Sx} (hV : 1 ≤ S.V) (hL : 1 ≤ S.L) : ∀ (l : List Nt) (R : Rp), SfOk S R → rpA S R l → SfOk S (l.foldl (y_rep S) R) := by
  intro l
  induction l with
  | nil => intro R h _; exact h
  | cons n l ih => intro R h g; exact ih _ (SfOk_rep hV hL h g.1) g.2
theorem up1_o (S : Sx) (R : Rp) : (∀ f, f < 6 ∨ (13 < f ∧ f ≠ 25 ∧ f ≠ 35 ∧ f ≠ 43 ∧ f ≠ 44) → (y_up1 S (R.u 6 1)).1 f = R.1 f) ∧ (y_up1 S (R.u 6 1)).2 = R.2 ∧ (y_up1 S (R.u 6 1)).1 6 = 1 ∧ (y_up1 S (R.u 6 1)).1 13 = 0 ∧ (y_up1 S (R.u 6 1)).1 25 = (y_up1 S (R.u 6 1)).1 10 ∧ (y_up1 S (R.u 6 1)).1 35 = y_no ∧ (y_up1 S (R.u 6 1)).1 43 = 0 ∧ (y_up1 S (R.u 6 1)).1 44 = 0 ∧ (∀ f, 7 ≤ f → f ≤ 12 → (y_up1 S (R.u 6 1)).1 f = (y_up0 S (R.u 6 1)).1 f) := by
  have ro := reps_o S (R.u 6 1).2.2.1 (y_z0 (R.u 6 1))
  have e0 : ∀ f, f < 7 ∨ 12 < f → (y_up0 S (R.u 6 1)).1 f = (y_z0 (R.u 6 1)).1 f := fun f hf => ro.1 f hf
  have ez : ∀ f, f < 7 ∨ (12 < f ∧ f ≠ 43 ∧ f ≠ 44) → (y_z0 (R.u 6 1)).1 f = (R.u 6 1).1 f := fun f hf => by
    unfold y_z0
    rw [u_n _ _ (by omega), u_n _ _ (by omega), u_n _ _ (by omega), u_n _ _ (by omega), u_n _ _ (by omega), u_n _ _ (by omega), u_n _ _ (by omega), u_n _ _ (by omega)]
  have eu : ∀ f, f ≠ 13 → f ≠ 25 → f ≠ 35 → (y_up1 S (R.u 6 1)).1 f = (y_up0 S (R.u 6 1)).1 f := fun f a b c => by
    unfold y_up1
    rw [u_n _ _ a, u_n _ _ c, u_n _ _ b]
  refine ⟨fun f hf => ?_, ?_, ?_, ?_, ?_, ?_, ?_, ?_, fun f a b => ?_⟩
  · rw [eu f (by omega) (by omega) (by omega), e0 f (by omega), ez f (by omega), u_n _ _ (by omega)]
  · exact ro.2
  · rw [eu 6 (by decide) (by decide) (by decide), e0 6 (by decide), ez 6 (by decide), u_s]
  · unfold y_up1; rw [u_s]
  · rw [eu 10 (by decide) (by decide) (by decide)]
    unfold y_up1
    rw [u_n _ _ (by decide), u_n _ _ (by decide), u_s]
  · unfold y_up1; rw [u_n _ _ (by decide), u_s]
  · rw [eu 43 (by decide) (by decide) (by decide), e0 43 (by decide)]; rfl
  · rw [eu 44 (by decide) (by decide) (by decide), e0 44 (by decide)]; rfl
  · exact eu f (by omega) (by omega) (by omega)
theorem up1_5 {S : Sx} {R : Rp} (h : DD S R) : E5 (y_up1 S (R.u 6 1)) R := by
  have o := (up1_o S R).2.2.2.2.2.2.2.2
  have h5 : E5 (y_up0 S (R.u 6 1)) R := (rpB_5 (Gw.refl S) R.2.2.1 (z0_5 (R.u 6 1) R) h.2.2.2.1).2.tr h.2.2.2.2.1
  exact ⟨(o 7 (by decide) (by decide)).trans h5.1, (o 8 (by decide) (by decide)).trans h5.2.1, (o 10 (by decide) (by decide)).trans h5.2.2.1, (o 11 (by decide) (by decide)).trans h5.2.2.2.1, (o 12 (by decide) (by decide)).trans h5.2.2.2.2⟩
theorem up1_A {S : Sx} {R : Rp} (h : DD S R) : rpA S (y_z0 (R.u 6 1)) R.2.2.1 := rpB.a _ (rpB_5 (Gw.refl S) R.2.2.1 (z0_5 (R.u 6 1) R) h.2.2.2.1).1
theorem iv_turn {K : Nat} {S : Sx} {r : Nat} (h : IvS K S) (hK : K < 600) (hr : r < S.N) (h6 : (S.rp r).1 6 = 0) : IvS (K + 1) (y_up S r) := by
  obtain ⟨g, hg⟩ := h
  obtain ⟨h1, ⟨⟨p1, p2, p3, p4⟩, h3, h4, h5, h6'⟩⟩ := hg.opn hr
  obtain ⟨d1, d2, d3, d4, d5, d6, d7⟩ := h6' h6
  obtain ⟨o1, o2, o3, o4, o5, o6, o7, o8, o9⟩ := up1_o S (S.rp r)
  have e5 := up1_5 h4
  have hA := up1_A h4
  obtain ⟨q1, q2, q3, q4, q5, q6, q7, q8, q9, q10, q11, q12⟩ := h1
  have h1 := (hg.opn hr).1
  have hV : 1 ≤ S.V := q1.2.2.1
  have hL : 1 ≤ S.L := q1.2.2.2.2.1
  have sf : SfOk S (y_up1 S ((S.rp r).u 6 1)) := by
    have := reps_sf hV hL (S.rp r).2.2.1 (y_z0 ((S.rp r).u 6 1)) ⟨Nat.le_refl 0, Nat.zero_le _, Nat.le_refl 0, Nat.zero_le _, show 0 < 29990 by decide⟩ hA
    have this' : SfOk S (y_up0 S ((S.rp r).u 6 1)) := this
    unfold SfOk at this' ⊢
    rw [o9 7 (by decide) (by decide), o9 8 (by decide) (by decide), o9 9 (by decide) (by decide)]; exact this'
  obtain ⟨l1, l2, l3, l4, l5, l6⟩ := h3
  show IvS (K + 1) (y_ckp (S.set r (y_up1 S ((S.rp r).u 6 1))) r).1
  generalize y_up1 S ((S.rp r).u 6 1) = X at o1 o2 o3 o4 o5 o6 o7 o8 o9 e5 sf ⊢
  obtain ⟨e7, e8, e10, e11, e12⟩ := e5
  have LoX : Lo (K + 1) (1 + 4 * K) S X := by
    refine ⟨fun f => ?_, ⟨sf.1, sf.2.1, sf.2.2.1, sf.2.2.2.1⟩, ?_, ?_, ?_, ?_⟩
    · by_cases c : f < 6 ∨ (13 < f ∧ f ≠ 25 ∧ f ≠ 35 ∧ f ≠ 43 ∧ f ≠ 44)
      · rw [o1 f c]; exact okK_m (l1 f) (Nat.le_succ K) (Nat.le_refl _) (Gw.refl S)
      · have hf : f = 6 ∨ f = 7 ∨ f = 8 ∨ f = 9 ∨ f = 10 ∨ f = 11 ∨ f = 12 ∨ f = 13 ∨ f = 25 ∨ f = 35 ∨ f = 43 ∨ f = 44 := by omega
        rcases hf with rfl | rfl | rfl | rfl | rfl | rfl | rfl | rfl | rfl | rfl | rfl | rfl
        · rw [o3]; exact Nat.le_refl 1
        · rw [e7]; exact l1 7
        · exact True.intro
        · exact True.intro
        · rw [e10]; exact okK_m (l1 10) (Nat.le_succ K) (Nat.le_refl _) (Gw.refl S)
        · rw [e11]; exact okK_m (l1 11) (Nat.le_succ K) (Nat.le_refl _) (Gw.refl S)
        · rw [e12]; exact l1 12
        · rw [o4]; exact Nat.zero_le (K + 1)
        · rw [o5, e10]
          have : (S.rp r).1 10 ≤ 9 * K := l1 10
          show (S.rp r).1 10 ≤ 9 * (K + 1)
          omega
        · exact True.intro
        · rw [o7]; exact Nat.zero_le S.ll
        · rw [o8]; exact (show 0 < 16 by decide)
    · unfold QOk
      rw [o2]; exact l3
    · unfold FoOk
      rw [o1 19 (by decide), o1 20 (by decide), o1 21 (by decide), o1 22 (by decide), o1 23 (by decide), o1 24 (by decide)]; exact l4
    · unfold AcOk
      rw [e11, e12]; exact l5
    · unfold TlOk
      rw [o1 23 (by decide), o1 24 (by decide)]; exact l6
  have hCn : Cn (K + 1) g (S.set r X) r := by
    have epm : pmS (S.set r X) = pmS S := by
      have := pm_ss (S := S) (r := r) e10
      rw [set_id] at this; exact this
    have eix : ixS (S.set r X) = ixS S := by
      have := ix_ss (S := S) (r := r) e7
      rw [set_id] at this; exact this
    refine h1.step (Nat.le_succ K) (Gw_set S r X) q1 q2 (Nat.le_succ_of_le q3) (Nat.le_succ_of_le q4) (TI.m q6 rfl rfl rfl rfl (fun _ => rfl)) (fun s hs => ?_) ?_ ?_ (fun k hk => set_ne _ _ hk) (fun _ _ _ _ _ w => w) (fun _ _ _ _ _ _ w => w) (fun m hm => Or.inl hm) (fun i i1 i2 => absurd i2 (Nat.not_le_of_lt i1)) hr
    · obtain ⟨s1, s2, s3, s4, s5, s6, s7, s8⟩ := q7 s hs
      refine ⟨s1, s2, Nat.le_succ_of_le s3, s4, s5, s6, fun z => ?_, s8⟩
      obtain ⟨z1, z2, z3⟩ := s7 z
      have hne : (S.se s).1 48 ≠ r := fun e => by rw [e, h6] at z2; cases z2
      show (S.se s).1 48 < S.N ∧ ((S.set r X).rp ((S.se s).1 48)).1 6 = 1 ∧ (S.se s).1 49 ≤ ((S.set r X).rp ((S.se s).1 48)).1 7
      rw [set_ne _ _ hne]
      exact ⟨z1, z2, z3⟩
    · rw [epm, eix]; exact q8
    · rw [epm]; exact Ex.refl (fun _ => Nat.le_refl _)
  have hDD : DD S X := h4.c (by rw [o2]) ⟨e7, e8, e10, e11, e12⟩ (o1 31 (by decide)) (o1 32 (by decide)) (o1 33 (by decide)) (Or.inr o6)
  have hM : Mid (K + 1) (1 + 4 * K) g S r X := ⟨hCn, hr, p1.c e7 e11 e12, LoX, hDD, o3⟩
  obtain ⟨k1, k2⟩ := hM.ckp (by omega) (by omega)
  by_cases c : (y_ckp (S.set r X) r).2 = true
  · obtain ⟨R', a1, a2, a3, a4, a5⟩ := k1 c
    rw [a1]
    refine (a5.fin0 (by omega) a4 ?_).iv
    rw [a2 19 (by decide) (by decide) (by decide) (by decide) (by decide), o1 19 (by decide)]; exact d1
  · exact (k2 (Bool.eq_false_iff.mpr c)).iv
/-! sessions -/
theorem iv_ses {K K' : Nat} {S : Sx} {f : Nat → Se} (h : IvS K S) (hK : K ≤ K') (hKb : K' < 600) (h1 : ∀ s, s < 16 → SeI K' S (f s)) (h2 : ∀ s, (S.se s).1 47 ≤ (f s).1 47) (h3 : ∀ s, s < 16 → (f s).1 48 < 2 ^ 31) : IvS K' (S.sets f) := by
  obtain ⟨g, hg⟩ := h
  have h0 : 0 < S.N := by have := hg.1.1; omega
  obtain ⟨hc, hr⟩ := hg.opn h0
  have hc' := hc
  obtain ⟨q1, q2, q3, q4, q5, q6, q7, q8, q9, q10, q11, q12⟩ := hc'
  have eW := Gw_sets S f
  refine ⟨g, Cn.close (r := 0) ?_ ?_⟩
  · refine hc.step hK eW (Cx_ses q1 (fun s hs => ?_)) q2 (Nat.le_trans q3 hK) (Nat.le_trans q4 (Nat.succ_le_succ hK)) ?_ (fun s hs => SeI.m (h1 s hs) (Nat.le_refl _) eW (fun _ _ => ⟨rfl, Nat.le_refl _⟩)) q8 (Ex.refl (fun _ => Nat.le_refl _)) (fun _ _ => rfl) (fun _ _ _ _ _ w => w) (fun _ _ _ _ _ _ w => w) (fun m hm => Or.inl hm) (fun i i1 i2 => absurd i2 (Nat.not_le_of_lt i1)) h0
    · have a := (h1 s hs).1
      have b := (h1 s hs).2.2.1
      exact ⟨by omega, h3 s hs, by omega⟩
    · obtain ⟨t1, t2, t3, t4, t5⟩ := q6
      exact ⟨t1, t2, fun q a b => ⟨(t3 q a b).1, Nat.le_trans (t3 q a b).2 (h2 _)⟩, t4, t5⟩
  · exact hr.m hK (by omega) eW (Ex.refl (fun _ => Nat.le_refl _)) (fun _ _ w => w) (fun _ _ _ w => w)
theorem iv_ses1 {K K' : Nat} {S : Sx} {s : Nat} {e : Se} (h : IvS K S) (hK : K ≤ K') (hKb : K' < 600) (h1 : SeI K' S e) (h2 : (S.se s).1 47 ≤ e.1 47) (h3 : e.1 48 < 2 ^ 31) : IvS K' (S.ses s e) := by
  have h' := h
  obtain ⟨g, hg⟩ := h'
  refine iv_ses h hK hKb (fun k hk => ?_) (fun k => ?_) (fun k hk => ?_)
  · by_cases c : k = s
    · rw [if_pos c]; exact h1
    · rw [if_neg c]; exact SeI.m (hg.2.2.2.2.2.2.1 k hk) hK (Gw.refl S) (fun _ _ => ⟨rfl, Nat.le_refl _⟩)
  · by_cases c : k = s
    · rw [if_pos c, c]; exact h2
    · rw [if_neg c]; exact Nat.le_refl _
  · by_cases c : k = s
    · rw [if_pos c]; exact h3
    · rw [if_neg c]; exact (hg.1.s k hk).2.1
/-! frames in flight -/
theorem cn_net {K : Nat} {g : Gh} {S S' : Sx} (hg : Cn K g S 9) (h1 : ∀ f, f ≠ 54 → f ≠ 55 → f ≠ 56 → S'.1 f = S.1 f) (h2 : S'.tb = S.tb) (h3 : S'.lg = S.lg) (h4 : S'.rp = S.rp) (h5 : S'.se = S.se) (h6 : S'.fl.length ≤ 200) (h7 : ∀ m, m ∈ S'.fl → ∃ m', m' ∈ S.fl ∧ (∀ f, f ≠ 7 → m f = m' f) ∧ SpM S m) : Cn K g S' 9 := by
  have h0 : 0 < S.N := by have := hg.1.1; omega
  obtain ⟨hc, hr⟩ := hg.opn h0
  have hc' := hc
  obtain ⟨q1, q2, q3, q4, q5, q6, q7, q8, q9, q10, q11, q12⟩ := hc'
  have eW : Gw S S' := Gw_e (fun f hf => h1 f (by omega) (by omega) (by omega)) h2 h3
  have ep := pm_e h4
  have ei := ix_e h4
  refine Cn.close (r := 0) ?_ ?_
  · refine hc.step (Nat.le_refl _) eW (Cx_c q1 (fun f hf => h1 f (by omega) (by omega) (by omega)) h2 h5) h6 (by show S'.1 100 ≤ K; rw [h1 100 (by decide) (by decide) (by decide)]; exact q3) (by rw [h1 4 (by decide) (by decide) (by decide)]; exact q4) (TI.m q6 h2 (h1 4 (by decide) (by decide) (by decide)) (h1 100 (by decide) (by decide) (by decide)) h3 (fun s => by rw [h5])) (fun s hs => ?_) ?_ ?_ (fun k _ => by rw [h4]) (fun _ _ _ _ _ w => w) (fun _ _ _ _ _ _ w => w) (fun m hm => Or.inr ?_) (fun i i1 i2 => ?_) h0
    · rw [h5]; exact SeI.m (q7 s hs) (Nat.le_refl _) eW (fun k _ => by rw [h4]; exact ⟨rfl, Nat.le_refl _⟩)
    · rw [ep, ei, eW.1]; exact q8
    · rw [ep]; exact Ex.refl (fun _ => Nat.le_refl _)
    · obtain ⟨m', a1, a2, a3⟩ := h7 m hm
      have a3' : SpM S' m := a3.m (by rw [a2 5 (by decide)]; exact (q9 m' a1).1.2.2.2.2.2.2.1) (fun q => by rw [a2 4 (by decide)]; rw [a2 0 (by decide)] at q; exact ((q9 m' a1).1.2.2.2.2.2.2.2.2.2.2.2 q).1) eW
      rw [ep]
      have := (q9 m' a1).m (Nat.le_refl K) eW (Ex.refl (pm' := pmS S) (fun _ => Nat.le_refl _))
      unfold MgI MgB MsI at this ⊢
      rw [a2 0 (by decide), a2 1 (by decide), a2 2 (by decide), a2 3 (by decide), a2 4 (by decide), a2 5 (by decide), a2 6 (by decide), a2 8 (by decide)]
      obtain ⟨⟨b1, b2, b3, b4, b5, b6, b7, b8, b9, b10⟩, b11⟩ := this
      exact ⟨⟨b1, b2, b3, b4, b5, b6, b7, b8, a3', b10⟩, b11⟩
    · rw [show S'.ll = S.ll from h1 100 (by decide) (by decide) (by decide)] at i2
      exact absurd i2 (Nat.not_le_of_lt i1)
  · rw [h4, ep]
    exact hr.m (Nat.le_refl _) (Nat.le_refl _) eW (Ex.refl (fun _ => Nat.le_refl _)) (fun _ _ w => w) (fun _ _ _ w => w)
theorem iv_net {K : Nat} {S S' : Sx} (h : IvS K S) (h1 : ∀ f, f ≠ 54 → f ≠ 55 → f ≠ 56 → S'.1 f = S.1 f) (h2 : S'.tb = S.tb) (h3 : S'.lg = S.lg) (h4 : S'.rp = S.rp) (h5 : S'.se = S.se) (h6 : S'.fl.length ≤ 200) (h7 : ∀ m, m ∈ S'.fl → ∃ m', m' ∈ S.fl ∧ (∀ f, f ≠ 7 → m f = m' f) ∧ SpM S m) : IvS K S' := by
  obtain ⟨g, hg⟩ := h
  exact ⟨g, cn_net hg h1 h2 h3 h4 h5 h6 h7⟩
