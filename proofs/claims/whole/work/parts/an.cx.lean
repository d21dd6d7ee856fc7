/-! ===== the class reads its notes again ===== -/
def ku (r : Nat) (c' c : vC) : Prop := zc r c' c ∧ (∀ f, 100 ≤ f → ¬ (800 ≤ f ∧ f < 900) → f ≠ 1007 → f ≠ 1008 → f ≠ 1009 → f ≠ 712 → f ≠ 714 → f ≠ 206 → f ≠ 207 → cI c' f r = cI c f r) ∧ (∀ f, f ≠ 805 → f ≠ 713 → cP c' f r = cP c f r) ∧ (∀ f, f ≠ 0 → ¬ (1002 ≤ f ∧ f ≤ 1005) → cR c' f r = cR c f r) ∧ (∀ f, f ≠ 1006 → cQ c' f r = cQ c f r) ∧ cJ c' r = cJ c r
theorem ku.refl {r : Nat} {c : vC} : ku r c c := ⟨zc.refl, fun _ _ _ _ _ _ _ _ _ _ => rfl, fun _ _ _ => rfl, fun _ _ _ => rfl, fun _ _ => rfl, rfl⟩
theorem ku.tr {r : Nat} {a b c : vC} (h : ku r a b) (g : ku r b c) : ku r a c := by
  obtain ⟨h1, h2, h3, h4, h5, h6⟩ := h
  obtain ⟨g1, g2, g3, g4, g5, g6⟩ := g
  exact ⟨h1.tr g1, fun f a b c d e p q s t => (h2 f a b c d e p q s t).trans (g2 f a b c d e p q s t), fun f a b => (h3 f a b).trans (g3 f a b), fun f a b => (h4 f a b).trans (g4 f a b), fun f a => (h5 f a).trans (g5 f a), h6.trans g6⟩
theorem sk.ku {r : Nat} {c' c : vC} (h : sk r c' c) : ku r c' c := ⟨h.1, fun f a b c d e _ _ _ _ => h.2.1 f c d e a b, fun f a _ => h.2.2.1 f a, h.2.2.2.1, h.2.2.2.2.1, h.2.2.2.2.2⟩
theorem ku_I {r f : Nat} {c : vC} {v : Int32} (h : f = 712 ∨ f = 714 ∨ f = 206 ∨ f = 207) : ku r (uI c f r v) c :=
  ⟨zc_I (by rcases h with rfl | rfl | rfl | rfl <;> rfl), fun g _ _ _ _ _ a b d e => uI_f _ _ _ (by omega), fun _ _ _ => rfl, fun _ _ _ => rfl, fun _ _ => rfl, rfl⟩
theorem ku_P {r : Nat} {c : vC} {v : Option Nat} : ku r (uP c 713 r v) c :=
  ⟨zc_P rfl, fun _ _ _ _ _ _ _ _ _ _ => rfl, fun g _ n => uP_f _ _ _ n, fun _ _ _ => rfl, fun _ _ => rfl, rfl⟩
/-- what is read so far -/
def RuA (c : vC) (S : Sx) (r : Nat) (R : Rp) (u k : Nat) : Prop := cI c 712 r = nI (R.1 10) ∧ RqO c S.tb (cP c 713 r) (R.1 12) ∧ (0 < R.1 12 → cI c 714 r = nI (R.1 11)) ∧ StA c S r R ∧ cI c 207 r = nI u ∧ cI c 206 r = nI k ∧ (∀ a, cz c ≤ a → cK c a = 0) ∧ cI c 1000 r = nI S.V ∧ cI c 1001 r = nI S.L
theorem StA_k {c c' : vC} {S : Sx} {r : Nat} {R : Rp} (h : StA c S r R) (z : kq c' c) : StA c' S r R := h.c z.1 (fun f a b => z.2.1 f r (by omega) (by omega)) (fun f a b => by rw [z.2.2.2.1]) (by rw [z.2.2.2.2.2]) rfl rfl rfl
theorem RuA_k {c c' : vC} {S : Sx} {r u k : Nat} {R : Rp} (h : RuA c S r R u k) (z : kq c' c) : RuA c' S r R u k := by
  obtain ⟨a1, a2, a3, a4, a5, a6, a7, a8, a9⟩ := h
  have eI : ∀ f, 100 ≤ f → ¬ (800 ≤ f ∧ f < 900) → cI c' f r = cI c f r := fun f a b => z.2.1 f r a b
  exact ⟨(eI 712 (by decide) (by decide)).trans a1, by rw [z.2.2.1 713 r (by decide)]; exact a2.c z.1, fun x => (eI 714 (by decide) (by decide)).trans (a3 x), StA_k a4 z, (eI 207 (by decide) (by decide)).trans a5, (eI 206 (by decide) (by decide)).trans a6, z.1.2.2 a7, (eI 1000 (by decide) (by decide)).trans a8, (eI 1001 (by decide) (by decide)).trans a9⟩
theorem RuA_s {c c' : vC} {S : Sx} {r u k : Nat} {R R' : Rp} (h : RuA c S r R u k) (z : sk r c' c) (g : StA c' S r R') (e : ∀ f, f ≠ 7 → f ≠ 8 → f ≠ 9 → R'.1 f = R.1 f) : RuA c' S r R' u k := by
  obtain ⟨a1, a2, a3, a4, a5, a6, a7, a8, a9⟩ := h
  have eI : ∀ f, f ≠ 1007 → f ≠ 1008 → f ≠ 1009 → 100 ≤ f → ¬ (800 ≤ f ∧ f < 900) → cI c' f r = cI c f r := z.2.1
  have e10 := e 10 (by decide) (by decide) (by decide)
  have e11 := e 11 (by decide) (by decide) (by decide)
  have e12 := e 12 (by decide) (by decide) (by decide)
  exact ⟨by rw [eI 712 (by decide) (by decide) (by decide) (by decide) (by decide), e10]; exact a1, by rw [z.2.2.1 713 (by decide), e12]; exact a2.c z.1.1, fun x => by rw [e12] at x; rw [eI 714 (by decide) (by decide) (by decide) (by decide) (by decide), e11]; exact a3 x, g, (eI 207 (by decide) (by decide) (by decide) (by decide) (by decide)).trans a5, (eI 206 (by decide) (by decide) (by decide) (by decide) (by decide)).trans a6, z.1.1.2.2 a7, (eI 1000 (by decide) (by decide) (by decide) (by decide) (by decide)).trans a8, (eI 1001 (by decide) (by decide) (by decide) (by decide) (by decide)).trans a9⟩
theorem RuA_0 {c : vC} {S : Sx} {r u k : Nat} {R : Rp} (h : RuA c S r R u k) : RuA (uP c 713 r none) S r ((R.u 11 0).u 12 0) u k := by
  obtain ⟨a1, a2, a3, a4, a5, a6, a7, a8, a9⟩ := h
  exact ⟨a1, by rw [uP_s]; exact RqO.none _ _, fun x => absurd (show 0 < 0 from x) (Nat.lt_irrefl 0), a4.c (zc_P (r := r) rfl).1 (fun _ _ _ => rfl) (fun _ _ _ => rfl) rfl rfl rfl rfl, a5, a6, a7, a8, a9⟩
theorem RuA_10 {c : vC} {S : Sx} {r u k b : Nat} {R : Rp} (h : RuA c S r R u k) : RuA (uI c 712 r (nI b)) S r (R.u 10 b) u k := by
  obtain ⟨a1, a2, a3, a4, a5, a6, a7, a8, a9⟩ := h
  exact ⟨uI_s _ _ _ _, a2.c (zc_I (r := r) rfl).1, fun x => by rw [uI_f _ _ _ (by decide)]; exact a3 x, a4.c (zc_I (r := r) rfl).1 (fun f _ _ => uI_f _ _ _ (by omega)) (fun _ _ _ => rfl) rfl rfl rfl rfl, by rw [uI_f _ _ _ (by decide)]; exact a5, by rw [uI_f _ _ _ (by decide)]; exact a6, a7, by rw [uI_f _ _ _ (by decide)]; exact a8, by rw [uI_f _ _ _ (by decide)]; exact a9⟩
theorem Dr_c (b : Nat) (x : List Nat) : Dr (b :: x) (0 + 1) x := fun k _ => by
  rw [show 0 + 1 + k = k + 1 by omega]; rfl
def NtC (n : Nt) : Prop := n.2.1 < 2 ^ 31 ∧ (n.1 = 2 → 0 < n.2.2.2.1)
theorem c_replay {N : Nat} {c : vC} {S : Sx} {r u k : Nat} {R : Rp} {n : Nt} (hC : Cx S) (hTW : TbW S.tb) (hr : rdA c (y_pay S.V S.tb S.sta n) 0) (hR : RuA c S r R u k) (hs : SfOk S R) (hp : rpN S R n) (hn : NtC n) : tr (F_X7_replay N c r) (fun c' => ku r c' c ∧ RuA c' S r (y_rep S R n) u k) := by
  obtain ⟨s1, s2, s3, s4, s5⟩ := hs
  obtain ⟨g0, g1, gs, g3, g4, g5⟩ := hp
  obtain ⟨n1, n2, n3, n4, n5⟩ := n
  obtain ⟨hb, hq2⟩ := hn
  dsimp only at g0 g1 gs g3 g4 g5 hb hq2
  have hV := hC.V
  have r1 := rdA_u (m := 0 + 1) hr (by decide)
  have hR1 := RuA_k hR (kq_p (v := nI (0 + 1)))
  have k1 : ku r (uI c 2 1 (nI (0 + 1))) c := (sk_2 (by decide)).ku
  unfold F_X7_replay
  rw [e_take hr, b2_]
  have hk5 : n1 = 1 ∨ n1 = 2 ∨ n1 = 3 ∨ n1 = 4 ∨ n1 = 5 := by omega
  rcases hk5 with rfl | rfl | rfl | rfl | rfl
  · rw [show byA (y_pay S.V S.tb S.sta (1, n2, n3, n4, n5)) 0 = 1 from rfl, if_pos (show nI 1 = (1 : Int32) from rfl), e_takeU (v := n2) r1 (by decide) hb (Dr_c 1 (encU n2)), b2_]
    refine tr_l1 (tr_some ⟨(ku_I (by decide)).tr ((sk_2 (by decide)).ku.tr k1), ?_⟩)
    exact RuA_10 (RuA_k hR1 kq_p)
  · rw [show byA (y_pay S.V S.tb S.sta (2, n2, n3, n4, n5)) 0 = 2 from rfl, if_neg (show ¬ nI 2 = (1 : Int32) by decide), if_pos (show nI 2 = (2 : Int32) from rfl)]
    have hd : Dr (y_pay S.V S.tb S.sta (2, n2, n3, n4, n5)) (0 + 1) (encU n2 ++ (encU n3 ++ encQ (S.tb n4))) := Dr_c 2 _
    have u1 := encU_len hb
    have u2 := encU_len gs
    unfold F_X7_replayAccepted
    rw [e_takeU r1 (by decide) hb hd.a, b2_]
    refine tr_bind (P := fun c' => ku r c' c ∧ RuA c' S r (y_rep S R (2, n2, n3, n4, n5)) u k) ?_ fun c' hc' => tr_some hc'
    refine tr_l1 ?_
    have hR2 := RuA_10 (b := n2) (RuA_k hR1 (kq_p (v := nI (0 + 1 + (encU n2).length))))
    have r2 : rdA (uI (uI (uI c 2 1 (nI (0 + 1))) 2 1 (nI (0 + 1 + (encU n2).length))) 712 r (nI n2)) (y_pay S.V S.tb S.sta (2, n2, n3, n4, n5)) (0 + 1 + (encU n2).length) := rdA_I (rdA_u r1 (by omega)) (by decide)
    have k2 : ku r (uI (uI (uI c 2 1 (nI (0 + 1))) 2 1 (nI (0 + 1 + (encU n2).length))) 712 r (nI n2)) c := (ku_I (by decide)).tr ((sk_2 (by decide)).ku.tr k1)
    generalize uI (uI (uI c 2 1 (nI (0 + 1))) 2 1 (nI (0 + 1 + (encU n2).length))) 712 r (nI n2) = c2 at hR2 r2 k2 ⊢
    rw [e_takeU r2 (by omega) gs hd.b.a, b2_]
    have hR3 := RuA_k hR2 (kq_p (v := nI (0 + 1 + (encU n2).length + (encU n3).length)))
    have k3 : ku r (uI c2 2 1 (nI (0 + 1 + (encU n2).length + (encU n3).length))) c := (sk_2 (by decide)).ku.tr k2
    have r3 := rdA_u (m := 0 + 1 + (encU n2).length + (encU n3).length) r2 (by omega)
    generalize uI c2 2 1 (nI (0 + 1 + (encU n2).length + (encU n3).length)) = c3 at hR3 r3 k3 ⊢
    have e7 : cI c3 1007 r = nI (R.1 7) := hR3.2.2.2.1.1
    rw [e7, nI_add1]
    refine tr_eq (by omega) (by omega) (fun c1 => ?_) (fun c1 => ?_)
    · refine tr_b2 (c_takeReq (q := n4) hC.tb hTW r3 (by omega) hd.b.b hR3.2.2.2.2.2.2.1) fun c4 v hv => ?_
      obtain ⟨a, e, ha, kk⟩ := hv
      dsimp only at e ha kk
      subst e
      have hR4 := RuA_k hR3 kk
      refine tr_l1 (tr_l1 ?_)
      obtain ⟨a1, a2, a3, a4, a5, a6, a7, a8, a9⟩ := hR4
      have e712 : cI (uP c4 713 r (some a)) 712 r = nI n2 := a1.trans (congrArg nI (u_s _ _ _))
      rw [e712]
      have z5 : zc r (uI (uP c4 713 r (some a)) 714 r (nI n2)) c4 := (zc_I rfl).tr (zc_P rfl)
      refine tr_some ⟨(ku_I (by decide)).tr (ku_P.tr ((kk.sk r).ku.tr k3)), ?_⟩
      rw [show y_rep S R (2, n2, n3, n4, n5) = ((R.u 10 n2).u 11 n2).u 12 n4 from if_pos c1]
      refine ⟨?_, ?_, fun _ => ?_, ?_, ?_, ?_, a7, ?_, ?_⟩
      · rw [uI_f _ _ _ (by decide)]; exact a1
      · show RqO _ _ (cP (uP c4 713 r (some a)) 713 r) n4
        rw [uP_s]
        exact RqO.some (hq2 rfl) (ha.c z5.1)
      · rw [uI_s]; rfl
      · exact a4.c z5.1 (fun f _ _ => uI_f _ _ _ (by omega)) (fun _ _ _ => rfl) rfl rfl rfl rfl
      · rw [uI_f _ _ _ (by decide)]; exact a5
      · rw [uI_f _ _ _ (by decide)]; exact a6
      · rw [uI_f _ _ _ (by decide)]; exact a8
      · rw [uI_f _ _ _ (by decide)]; exact a9
    · refine tr_some ⟨k3, ?_⟩
      rw [show y_rep S R (2, n2, n3, n4, n5) = R.u 10 n2 from if_neg c1]
      exact hR3
  · obtain ⟨w1, w2, w3, w4⟩ := g3 rfl
    rw [show byA (y_pay S.V S.tb S.sta (3, n2, n3, n4, n5)) 0 = 3 from rfl, if_neg (show ¬ nI 3 = (1 : Int32) by decide), if_neg (show ¬ nI 3 = (2 : Int32) by decide), if_pos (show nI 3 = (3 : Int32) from rfl)]
    refine tr_b2 (c_takeReq (q := n4) hC.tb hTW r1 (by decide) (Dr_c 3 (encQ (S.tb n4))) hR1.2.2.2.2.2.2.1) fun c4 v hv => ?_
    obtain ⟨a, e, ha, kk⟩ := hv
    dsimp only at e ha kk
    subst e
    have hR4 := RuA_k hR1 kk
    refine tr_bind (c_apply hC hR4.2.2.2.2.2.2.2.1 hR4.2.2.2.2.2.2.2.2 hR4.2.2.2.1 ha w1 (by omega) w3 s1 s2 s3 s4) fun c5 hc5 => ?_
    refine tr_l1 (tr_some ⟨ku_P.tr (hc5.1.ku.tr ((kk.sk r).ku.tr k1)), ?_⟩)
    exact RuA_0 (RuA_s hR4 hc5.1 hc5.2 (fun f a b d => by rw [u_n _ _ d, u_n _ _ b, u_n _ _ a]))
  · have w4 := g4 rfl
    rw [show byA (y_pay S.V S.tb S.sta (4, n2, n3, n4, n5)) 0 = 4 from rfl, if_neg (show ¬ nI 4 = (1 : Int32) by decide), if_neg (show ¬ nI 4 = (2 : Int32) by decide), if_neg (show ¬ nI 4 = (3 : Int32) by decide), if_pos (show nI 4 = (4 : Int32) from rfl)]
    refine tr_bind (c_takeFrom (R := R) hC hTW hR1.2.2.2.2.2.2.2.1 r1 (by decide) w4 (Dr_c 4 (S.enc n5))) fun c5 hc5 => ?_
    refine tr_l1 (tr_some ⟨ku_P.tr (hc5.1.ku.tr k1), ?_⟩)
    exact RuA_0 (RuA_s hR1 hc5.1 hc5.2 (fun f a b d => by unfold rst; rw [u_n _ _ d, u_n _ _ b, u_n _ _ a]))
  · obtain ⟨w1, w2⟩ := g5 rfl
    rw [show byA (y_pay S.V S.tb S.sta (5, n2, n3, n4, n5)) 0 = 5 from rfl, if_neg (show ¬ nI 5 = (1 : Int32) by decide), if_neg (show ¬ nI 5 = (2 : Int32) by decide), if_neg (show ¬ nI 5 = (3 : Int32) by decide), if_neg (show ¬ nI 5 = (4 : Int32) by decide), if_pos (show nI 5 = (5 : Int32) from rfl)]
    obtain ⟨t1, t2, t3, t4, t5, t6, t7, t8⟩ := hR1.2.2.2.1
    unfold F_X10_takeOlderFrom
    rw [hR1.2.2.2.2.2.2.2.1, t1, t2, nI_sub s1, if_neg (nI_ge (show R.1 7 - R.1 8 < S.V by omega) (by omega))]
    refine tr_bind (P := fun c' => ku r c' c ∧ RuA c' S r (R.u 8 (R.1 8 - 1)) u k) ?_ fun c' hc' => tr_some hc'
    refine tr_l1 ?_
    rw [show nI (R.1 8) - (1 : Int32) = nI (R.1 8 - 1) from nI_sub (b := 1) (by omega), show R.1 8 - 1 = n5 by omega]
    have r2 : rdA (uI (uI c 2 1 (nI (0 + 1))) 1008 r (nI n5)) (y_pay S.V S.tb S.sta (5, n2, n3, n4, n5)) (0 + 1) := rdA_I r1 (by decide)
    have e8 : cI (uI (uI c 2 1 (nI (0 + 1))) 1008 r (nI n5)) 1008 r = nI n5 := uI_s _ _ _ _
    have z2 : sk r (uI (uI c 2 1 (nI (0 + 1))) 1008 r (nI n5)) (uI c 2 1 (nI (0 + 1))) := sk_I (by decide)
    have f7 : cI (uI (uI c 2 1 (nI (0 + 1))) 1008 r (nI n5)) 1007 r = nI (R.1 7) := by rw [uI_f _ _ _ (by decide)]; exact t1
    have f9 : cI (uI (uI c 2 1 (nI (0 + 1))) 1008 r (nI n5)) 1009 r = nI (R.1 7 - R.1 9) := by rw [uI_f _ _ _ (by decide)]; exact t3
    have fR : ∀ f, cR (uI (uI c 2 1 (nI (0 + 1))) 1008 r (nI n5)) f r = cR (uI c 2 1 (nI (0 + 1))) f r := fun _ => rfl
    have fQ : ∀ f, cQ (uI (uI c 2 1 (nI (0 + 1))) 1008 r (nI n5)) f r = cQ (uI c 2 1 (nI (0 + 1))) f r := fun _ => rfl
    generalize uI (uI c 2 1 (nI (0 + 1))) 1008 r (nI n5) = c2 at r2 e8 z2 f7 f9 fR fQ ⊢
    unfold F_X10_takeValuesFrom
    rw [e8, e_rowOf (by omega), b2_]
    refine tr_bind (P := fun c' => ku r c' c ∧ RuA c' S r (R.u 8 n5) u k) ?_ fun c' hc' => tr_some hc'
    refine q_tv (x := 16 * (n5 % 17)) (vs := (S.sta n5).1) (c0 := c2) (by omega) 16 0 (0 + 1) fu c2 rfl (by decide) r2 (by decide) (Dr_c 5 (encVa (S.sta n5).1)) kpS.refl (fun j hj => absurd hj (Nat.not_lt_zero _)) (fun _ _ => rfl) (fun c3 r3 k3 v3 o3 => ?_)
    have zz : sk r c3 (uI c 2 1 (nI (0 + 1))) := k3.1.tr z2
    refine tr_some ⟨zz.ku.tr k1, RuA_s hR1 zz ?_ (fun f a b d => u_n _ _ b)⟩
    have R7 : (R.u 8 n5).1 7 = R.1 7 := rfl
    have R8 : (R.u 8 n5).1 8 = n5 := rfl
    have R9 : (R.u 8 n5).1 9 = R.1 9 := rfl
    unfold StA
    rw [R7, R8, R9]
    refine ⟨(k3.2.1 1007 (by decide) (by decide)).trans f7, (k3.2.1 1008 (by decide) (by decide)).trans e8, (k3.2.1 1009 (by decide) (by decide)).trans f9, ?_, ?_, ?_, fun i x b1 b2 b3 => ?_, fun i b1 b2 => ?_⟩
    · rw [k3.2.2.1 1002 (by decide) (by decide), fR]; exact t4
    · rw [k3.2.2.1 1003 (by decide) (by decide), fR]; exact t5
    · rw [k3.2.2.1 1004 (by decide) (by decide), fR]; exact t6
    · by_cases e : i = n5
      · subst e; exact v3 x b3
      · rw [o3 _ (by omega), fR]
        exact t7 i x (by omega) b2 b3
    · rw [k3.2.2.2 1006, fQ]
      exact (t8 i b1 b2).c zz.1.1
