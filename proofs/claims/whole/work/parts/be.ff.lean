/-! a frame is copied -/
theorem zn.w {o : Nat} {c' c : vC} (h : zn o c' c) : zw c' c := by
  obtain ⟨h1, h2, h3, h4, h5, h6⟩ := h
  exact ⟨h1, fun f i a b d e => h2 f i a b (fun q => d q.2) (fun q => e q.2), fun f i a b => h3 f i a (fun q => b (by omega)), h4, h5, fun f i _ => h6 f i⟩
theorem x_adr (N : Nat) (c : vC) (o : Nat) (a b d : Int32) : ∃ c1, F_X1_address N c o a b d = some c1 ∧ zn o c1 c ∧ cI c1 100 o = a ∧ cI c1 101 o = b ∧ cI c1 102 o = d ∧ ∀ f x, 200 ≤ f → cI c1 f x = cI c f x := by
  unfold F_X1_address
  rw [l1_, l1_, l1_, l1_, l1_, l1_, l1_, l1_]
  refine ⟨_, rfl, (zn_I (by decide)).tr ((zn_I (by decide)).tr ((zn_P (by decide)).tr ((zn_I (by decide)).tr ((zn_P (by decide)).tr ((zn_I (by decide)).tr ((zn_I (by decide)).tr (zn_I (by decide)))))))), ?_, ?_, ?_, fun f x hf => ?_⟩
  · rw [uI_f _ _ _ (by decide), uI_f _ _ _ (by decide), uP_I, uI_f _ _ _ (by decide), uP_I, uI_f _ _ _ (by decide), uI_f _ _ _ (by decide), uI_s]
  · rw [uI_f _ _ _ (by decide), uI_f _ _ _ (by decide), uP_I, uI_f _ _ _ (by decide), uP_I, uI_f _ _ _ (by decide), uI_s]
  · rw [uI_f _ _ _ (by decide), uI_f _ _ _ (by decide), uP_I, uI_f _ _ _ (by decide), uP_I, uI_s]
  · rw [uI_f _ _ _ (by omega), uI_f _ _ _ (by omega), uP_I, uI_f _ _ _ (by omega), uP_I, uI_f _ _ _ (by omega), uI_f _ _ _ (by omega), uI_f _ _ _ (by omega)]
theorem x_say (N : Nat) (c : vC) (o : Nat) (a b : Int32) : ∃ c1, F_X1_say N c o a b = some c1 ∧ zn o c1 c ∧ cI c1 103 o = a ∧ cI c1 104 o = b ∧ (∀ f x, f ≠ 103 → f ≠ 104 → cI c1 f x = cI c f x) := by
  unfold F_X1_say
  rw [l1_, l1_]
  refine ⟨_, rfl, (zn_I (by decide)).tr (zn_I (by decide)), ?_, ?_, fun f x p q => ?_⟩
  · rw [uI_f _ _ _ (by decide), uI_s]
  · rw [uI_s]
  · rw [uI_f _ _ _ q, uI_f _ _ _ p]
theorem x_car (N : Nat) (c : vC) (o : Nat) (a : Option Nat) (b : Int32) : ∃ c1, F_X1_carry N c o a b = some c1 ∧ zn o c1 c ∧ cP c1 105 o = a ∧ cI c1 106 o = b ∧ (∀ f x, f ≠ 106 → cI c1 f x = cI c f x) := by
  unfold F_X1_carry
  rw [l1_, l1_]
  refine ⟨_, rfl, (zn_I (by decide)).tr (zn_P (by decide)), ?_, ?_, fun f x p => ?_⟩
  · rw [uI_P, uP_s]
  · rw [uI_s]
  · rw [uI_f _ _ _ p, uP_I]
theorem x_cap (N : Nat) (c : vC) (o : Nat) (a : Option Nat) (b : Int32) : ∃ c1, F_X1_carryPiece N c o a b = some c1 ∧ zn o c1 c ∧ cP c1 107 o = a ∧ cI c1 108 o = b ∧ (∀ f x, f ≠ 108 → cI c1 f x = cI c f x) ∧ ∀ f x, f ≠ 107 → cP c1 f x = cP c f x := by
  unfold F_X1_carryPiece
  rw [l1_, l1_]
  refine ⟨_, rfl, (zn_I (by decide)).tr (zn_P (by decide)), ?_, ?_, fun f x p => ?_, fun f x p => ?_⟩
  · rw [uI_P, uP_s]
  · rw [uI_s]
  · rw [uI_f _ _ _ p, uP_I]
  · rw [uI_P, uP_f _ _ _ p]
theorem c_copy {N : Nat} {c : vC} {o k : Nat} (hok : k ≠ o) : tr (F_X1_copy N c o k) (fun c' => zn o c' c ∧ (∀ f, 100 ≤ f → f ≤ 110 → f ≠ 105 → f ≠ 107 → cI c' f o = cI c f k) ∧ cP c' 105 o = cP c 105 k ∧ cP c' 107 o = cP c 107 k ∧ ∀ f x, 200 ≤ f → cI c' f x = cI c f x) := by
  have ki : ∀ {c1 : vC}, zn o c1 c → ∀ f, 100 ≤ f → f < 200 → cI c1 f k = cI c f k := fun {c1} z f f1 f2 => z.2.1 f k f1 (by omega) (fun q => hok q.1) (by omega)
  have kp : ∀ {c1 : vC}, zn o c1 c → ∀ f, f ≠ 805 → cP c1 f k = cP c f k := fun {c1} z f f1 => z.2.2.1 f k f1 (fun q => hok q.1)
  unfold F_X1_copy
  obtain ⟨c1, e1, z1, p100, p101, p102, o1⟩ := x_adr N c o (cI c 100 k) (cI c 101 k) (cI c 102 k)
  rw [e1, Option.bind_some]
  obtain ⟨c2, e2, z2, p103, p104, o2⟩ := x_say N c1 o (cI c1 103 k) (cI c1 104 k)
  rw [e2, Option.bind_some, l1_]
  have y2 := z2.tr z1
  obtain ⟨c3, e3, z3, p105, p106, o3⟩ := x_car N c2 o (cP c2 105 k) (cI c2 106 k)
  rw [e3, Option.bind_some, l1_]
  have y3 := z3.tr y2
  obtain ⟨c4, e4, z4, p107, p108, o4, o4'⟩ := x_cap N c3 o (cP c3 107 k) (cI c3 108 k)
  rw [e4, Option.bind_some, l1_, l1_]
  have y4 := z4.tr y3
  have z5 := zn_I (o := o) (c := c4) (f := 109) (v := cI c4 109 k) (by decide)
  have p109 : cI (uI c4 109 o (cI c4 109 k)) 109 o = cI c4 109 k := uI_s _ _ _ _
  have o5 : ∀ f x, f ≠ 109 → cI (uI c4 109 o (cI c4 109 k)) f x = cI c4 f x := fun f x h => uI_f _ _ _ h
  have o5' : ∀ f x, cP (uI c4 109 o (cI c4 109 k)) f x = cP c4 f x := fun f x => uI_P _ _ _ _ _ _
  generalize uI c4 109 o (cI c4 109 k) = c5 at z5 p109 o5 o5' ⊢
  have y5 := z5.tr y4
  have z6 := zn_I (o := o) (c := c5) (f := 110) (v := cI c5 110 k) (by decide)
  have p110 : cI (uI c5 110 o (cI c5 110 k)) 110 o = cI c5 110 k := uI_s _ _ _ _
  have o6 : ∀ f x, f ≠ 110 → cI (uI c5 110 o (cI c5 110 k)) f x = cI c5 f x := fun f x h => uI_f _ _ _ h
  have o6' : ∀ f x, cP (uI c5 110 o (cI c5 110 k)) f x = cP c5 f x := fun f x => uI_P _ _ _ _ _ _
  generalize uI c5 110 o (cI c5 110 k) = c6 at z6 p110 o6 o6' ⊢
  refine tr_some ⟨z6.tr y5, fun f f1 f2 f3 f4 => ?_, ?_, ?_, fun f x hf => by rw [o6 f x (by omega), o5 f x (by omega), o4 f x (by omega), o3 f x (by omega), o2 f x (by omega) (by omega), o1 f x hf]⟩
  · have hf : f = 100 ∨ f = 101 ∨ f = 102 ∨ f = 103 ∨ f = 104 ∨ f = 106 ∨ f = 108 ∨ f = 109 ∨ f = 110 := by omega
    rcases hf with rfl | rfl | rfl | rfl | rfl | rfl | rfl | rfl | rfl
    · rw [o6 100 o (by decide), o5 100 o (by decide), o4 100 o (by decide), o3 100 o (by decide), o2 100 o (by decide) (by decide), p100]
    · rw [o6 101 o (by decide), o5 101 o (by decide), o4 101 o (by decide), o3 101 o (by decide), o2 101 o (by decide) (by decide), p101]
    · rw [o6 102 o (by decide), o5 102 o (by decide), o4 102 o (by decide), o3 102 o (by decide), o2 102 o (by decide) (by decide), p102]
    · rw [o6 103 o (by decide), o5 103 o (by decide), o4 103 o (by decide), o3 103 o (by decide), p103]; exact ki z1 103 (by decide) (by decide)
    · rw [o6 104 o (by decide), o5 104 o (by decide), o4 104 o (by decide), o3 104 o (by decide), p104]; exact ki z1 104 (by decide) (by decide)
    · rw [o6 106 o (by decide), o5 106 o (by decide), o4 106 o (by decide), p106]; exact ki y2 106 (by decide) (by decide)
    · rw [o6 108 o (by decide), o5 108 o (by decide), p108]; exact ki y3 108 (by decide) (by decide)
    · rw [o6 109 o (by decide), p109]; exact ki y4 109 (by decide) (by decide)
    · rw [p110]; exact ki y5 110 (by decide) (by decide)
  · rw [o6', o5', o4' 105 o (by decide), p105]; exact kp y2 105 (by decide)
  · rw [o6', o5', p107]; exact kp y3 107 (by decide)
theorem WC_drop {mm : Kp} {c : vC} {S : Sx} (h : WC mm c S) : WC K0 c S := by
  obtain ⟨h1, h2, ⟨hd, h3⟩, h4⟩ := h
  exact ⟨h1, h2, ⟨show HdA K0 c S from ⟨fun k m e => (by cases e), fun a q e => (by cases e)⟩, h3⟩, h4⟩
theorem c_repeat {N : Nat} {c : vC} {S : Sx} {i : Nat} {p : Nat → Nat} {t : Nat} (h : WC K0 c S) (hfl : S.fl.length < 200) (hi : i < S.fl.length) (hp : PmA c S p t) : tr (F_X3_repeat N c (p i)) (fun c' => WC K0 c' (S.setf (S.fl ++ [S.fl.getD i mgD]))) := by
  obtain ⟨hd, a1, a2, a3, a4, _⟩ := h.2.2.1
  obtain ⟨b1, b2, b3, b4, b5, b6, b7⟩ := hp
  have hne : p i ≠ p S.fl.length := fun e => by have := b5 i S.fl.length (by omega) hfl e; omega
  unfold F_X3_repeat
  rw [a1, if_neg (show ¬ (200 : Int32) ≤ nI S.fl.length from nI_ge (b := 200) hfl (by decide)), cQv (show S.fl.length < 200 from hfl) (by omega), Option.bind_some, (b1 _ hfl).1, Option.bind_some, gd_ (b1 _ hfl).2.1]
  refine tr_bind (c_copy hne) fun c4 q4 => ?_
  obtain ⟨z4, f4, g5, g7, g2⟩ := q4
  rw [l1_, g2 303 0 (by decide), a1, nI_add1]
  have zc := (zw_I (c := c4) (f := 303) (i := 0) (v := nI (S.fl.length + 1)) (Or.inr (by decide))).tr z4.w
  have i3 : cI (uI c4 303 0 (nI (S.fl.length + 1))) 303 0 = nI (S.fl.length + 1) := uI_s _ _ _ _
  have io : ∀ f x, f ≠ 303 → cI (uI c4 303 0 (nI (S.fl.length + 1))) f x = cI c4 f x := fun f x hf => uI_f _ _ _ hf
  have ip : ∀ f x, cP (uI c4 303 0 (nI (S.fl.length + 1))) f x = cP c4 f x := fun f x => uI_P _ _ _ _ _ _
  have iq : cQ (uI c4 303 0 (nI (S.fl.length + 1))) = cQ c4 := (iw_K c4 303 0 (nI (S.fl.length + 1))).2.2.2.2.2.2
  generalize uI c4 303 0 (nI (S.fl.length + 1)) = c5 at zc i3 io ip iq ⊢
  have fr : ∀ k m, k ≠ p S.fl.length → FrA c S.V S.sta S.tb k m → FrA c5 S.V S.sta S.tb k m := fun k m hk hF => hF.c zc.1 (fun f f1 f2 => by rw [io f k (by omega)]; exact z4.2.1 f k f1 (by omega) (fun q => hk q.1) (by omega)) (by rw [ip]; exact z4.2.2.1 105 k (by decide) (fun q => hk q.1)) (by rw [ip]; exact z4.2.2.1 107 k (by decide) (fun q => hk q.1))
  have fn : FrA c5 S.V S.sta S.tb (p S.fl.length) (S.fl.getD i mgD) := by
    obtain ⟨x1, x2, x3, x4, x5, x6, x7⟩ := b7 i hi
    have ei : ∀ f, 100 ≤ f → f ≤ 110 → f ≠ 105 → f ≠ 107 → cI c5 f (p S.fl.length) = cI c f (p i) := fun f q1 q2 q3 q4 => by rw [io f _ (by omega)]; exact f4 f q1 q2 q3 q4
    have e105 : cP c5 105 (p S.fl.length) = cP c 105 (p i) := by rw [ip]; exact g5
    have e107 : cP c5 107 (p S.fl.length) = cP c 107 (p i) := by rw [ip]; exact g7
    refine ⟨fun f hf => ?_, ?_, ?_, fun q => ?_, fun q => ?_, fun q => ?_, fun q => ?_⟩
    · rw [ei (100 + f) (by omega) (by omega) (by omega) (by omega)]; exact x1 f hf
    · rw [e105]; exact x2.c zc.1
    · rw [ei 106 (by decide) (by decide) (by decide) (by decide)]; exact x3
    · rw [e107, ei 108 (by decide) (by decide) (by decide) (by decide)]; exact x4 q
    · obtain ⟨y1, a, y2, y3⟩ := x5 q
      exact ⟨by rw [ei 108 (by decide) (by decide) (by decide) (by decide)]; exact y1, a, by rw [e107]; exact y2, y3.c zc.1⟩
    · rw [ei 109 (by decide) (by decide) (by decide) (by decide)]; exact x6 q
    · rw [ei 109 (by decide) (by decide) (by decide) (by decide), ei 110 (by decide) (by decide) (by decide) (by decide)]; exact x7 q
  refine tr_some (WC_nw h zc (fun _ _ => rfl) rfl rfl rfl rfl ⟨show HdA K0 c5 _ from ⟨fun k m e => (by cases e), fun a q e => (by cases e)⟩, ?_, ?_, ?_, ?_, p, t, fun j hj => ?_, ?_, b3, b4, b5, b6, fun j hj => ?_⟩)
  · rw [i3]
    show nI (S.fl.length + 1) = nI (S.fl ++ [S.fl.getD i mgD]).length
    rw [List.length_append]; rfl
  · rw [io 304 0 (by decide), g2 304 0 (by decide)]; exact a2
  · rw [io 305 0 (by decide), g2 305 0 (by decide)]; exact a3
  · rw [io 306 0 (by decide), g2 306 0 (by decide)]; exact a4
  · rw [iq, z4.2.2.2.2.2 300 0]; exact b1 j hj
  · rw [ip, z4.2.2.1 301 0 (by decide) (by omega)]; exact b2
  · have hj' : j < S.fl.length + 1 := by
      have : j < (S.fl ++ [S.fl.getD i mgD]).length := hj
      rw [List.length_append] at this; exact this
    show FrA c5 S.V S.sta S.tb (p j) ((S.fl ++ [S.fl.getD i mgD]).getD j mgD)
    by_cases e : j = S.fl.length
    · subst e
      rw [getD_appM2]; exact fn
    · rw [getD_appM1 (by omega)]
      exact fr _ _ (fun q => e (b5 j _ (by omega) hfl q)) (b7 j (by omega))
