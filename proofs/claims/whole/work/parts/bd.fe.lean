/-! ===== frames are taken and doubled: the class ===== -/
/-- what the row of frames may touch -/
def zw (c' c : vC) : Prop := ze c' c ∧ (∀ f i, 100 ≤ f → ¬ (800 ≤ f ∧ f < 900) → ¬ (100 ≤ f ∧ f < 200) → ¬ (303 ≤ f ∧ f ≤ 306) → cI c' f i = cI c f i) ∧ (∀ f i, f ≠ 805 → ¬ (f = 105 ∨ f = 107 ∨ f = 301) → cP c' f i = cP c f i) ∧ (∀ f i, f ≠ 0 → cR c' f i = cR c f i) ∧ (∀ i, cJ c' i = cJ c i) ∧ ∀ f i, f ≠ 300 → cQ c' f i = cQ c f i
theorem zw.tr {a b c : vC} (h : zw a b) (g : zw b c) : zw a c := by
  obtain ⟨h1, h2, h3, h4, h5, h6⟩ := h
  obtain ⟨g1, g2, g3, g4, g5, g6⟩ := g
  exact ⟨h1.tr g1, fun f i a b c d => (h2 f i a b c d).trans (g2 f i a b c d), fun f i a b => (h3 f i a b).trans (g3 f i a b), fun f i a => (h4 f i a).trans (g4 f i a), fun i => (h5 i).trans (g5 i), fun f i a => (h6 f i a).trans (g6 f i a)⟩
theorem zw.refl {c : vC} : zw c c := ⟨ze.refl, fun _ _ _ _ _ _ => rfl, fun _ _ _ _ => rfl, fun _ _ _ => rfl, fun _ => rfl, fun _ _ _ => rfl⟩
theorem zw_I {c : vC} {f i : Nat} {v : Int32} (h : (100 ≤ f ∧ f < 200) ∨ (303 ≤ f ∧ f ≤ 306)) : zw (uI c f i v) c := by
  refine ⟨ze_s (iw_K c f i v).1 (iw_K c f i v).2.1 (iw_K c f i v).2.2.1 (iw_K c f i v).2.2.2.1 (fun g g1 g2 => ?_) (funext fun x => uI_P _ _ _ _ _ _), fun g j a b d e => ?_, fun g j _ _ => by rw [uI_P], fun g j _ => by rw [(iw_K c f i v).2.2.2.2.1], fun j => by rw [(iw_K c f i v).2.2.2.2.2.1], fun g j _ => by rw [(iw_K c f i v).2.2.2.2.2.2]⟩
  · funext x
    exact uI_f _ _ _ (by omega)
  · exact uI_f _ _ _ (by omega)
theorem zw_P {c : vC} {f i : Nat} {v : Option Nat} (h : f = 105 ∨ f = 107 ∨ f = 301) : zw (uP c f i v) c := by
  refine ⟨ze_s (pw_K c f i v).1 (pw_K c f i v).2.1 (pw_K c f i v).2.2.1 (pw_K c f i v).2.2.2.1 (fun g g1 g2 => funext fun x => uP_I _ _ _ _ _ _) ?_, fun g j _ _ _ _ => by rw [uP_I], fun g j a b => uP_f _ _ _ (fun e => by subst e; exact b h), fun g j _ => by rw [(pw_K c f i v).2.2.2.2.1], fun j => by rw [(pw_K c f i v).2.2.2.2.2.1], fun g j _ => by rw [(pw_K c f i v).2.2.2.2.2.2]⟩
  funext x
  exact uP_f _ _ _ (by omega)
theorem qw_K (c : vC) (f i j : Nat) (v : Option Nat) : cK (uQ c f i j v) = cK c ∧ cN (uQ c f i j v) = cN c ∧ cD (uQ c f i j v) = cD c ∧ cz (uQ c f i j v) = cz c ∧ cR (uQ c f i j v) = cR c ∧ cJ (uQ c f i j v) = cJ c ∧ cI (uQ c f i j v) = cI c ∧ cP (uQ c f i j v) = cP c := ⟨rfl, rfl, rfl, rfl, rfl, rfl, rfl, rfl⟩
theorem zw_Q {c : vC} {j : Nat} {v : Option Nat} : zw (uQ c 300 0 j v) c := by
  obtain ⟨q1, q2, q3, q4, q5, q6, q7, q8⟩ := qw_K c 300 0 j v
  exact ⟨ze_s q1 q2 q3 q4 (fun g _ _ => by rw [q7]) (by rw [q8]), fun g i _ _ _ _ => by rw [q7], fun g i _ _ => by rw [q8], fun g i _ => by rw [q5], fun i => by rw [q6], fun g i hg => uQ_f _ _ _ _ hg⟩
theorem WC_nw {mm mm' : Kp} {c c' : vC} {S S' : Sx} (h : WC mm c S) (z : zw c' c) (e1 : ∀ f, f < 54 → S'.1 f = S.1 f) (e2 : S'.tb = S.tb) (e3 : S'.lg = S.lg) (e4 : S'.rp = S.rp) (e5 : S'.se = S.se) (g : NwA mm' c' S') : WC mm' c' S' := by
  obtain ⟨h1, h2, h3, h4, h5⟩ := h
  obtain ⟨z1, z2, z3, z4, z5, z6⟩ := z
  have eN : S'.N = S.N := e1 1 (by decide)
  have eV : S'.V = S.V := e1 2 (by decide)
  have eL : S'.L = S.L := e1 3 (by decide)
  have eT : S'.T = S.T := e1 11 (by decide)
  have es : S'.sta = S.sta := by
    funext i
    show stN S'.V S'.tb S'.lg i = stN S.V S.tb S.lg i
    rw [eV, e2, e3]
  have een : S'.enc = S.enc := by
    funext i
    show encSt S'.V (S'.sta i) i = encSt S.V (S.sta i) i
    rw [eV, es]
  refine ⟨z1.2.2 h1, ?_, g, fun k hk => ?_, fun k hk => ?_⟩
  · rw [z2 1100 0 (by decide) (by decide) (by decide) (by decide), z2 1101 0 (by decide) (by decide) (by decide) (by decide), z2 1102 0 (by decide) (by decide) (by decide) (by decide), eV, eL, eT]; exact h2
  · rw [e2, e5]
    exact (h4 k hk).c z1 (fun f f1 f2 => z2 f k (by omega) (by omega) (by omega) (by omega)) (z3 908 k (by decide) (by omega)) (z4 900 k (by decide))
  · rw [eN] at hk
    obtain ⟨⟨q1, q2, q3⟩, q4⟩ := h5 k hk
    rw [e4]
    have sr : ∀ f g, sci f = some g → 100 ≤ f ∧ ¬ (800 ≤ f ∧ f < 900) ∧ ¬ (100 ≤ f ∧ f < 200) ∧ ¬ (303 ≤ f ∧ f ≤ 306) := fun f g hf => by
      unfold sci at hf
      split at hf <;> first | decide | exact absurd hf (by simp)
    have sr2 : ∀ f g, sca f = some g → 100 ≤ f ∧ ¬ (800 ≤ f ∧ f < 900) ∧ ¬ (100 ≤ f ∧ f < 200) ∧ ¬ (303 ≤ f ∧ f ≤ 306) := fun f g hf => by
      unfold sca at hf
      split at hf <;> first | decide | exact absurd hf (by simp)
    refine ⟨⟨?_, fun f g hf => ?_, fun a ha => ?_⟩, fun q => ?_⟩
    · rw [z2 1000 k (by decide) (by decide) (by decide) (by decide), z2 1001 k (by decide) (by decide) (by decide) (by decide), z2 700 k (by decide) (by decide) (by decide) (by decide), z2 701 k (by decide) (by decide) (by decide) (by decide), z2 702 k (by decide) (by decide) (by decide) (by decide), eV, eL, eN, eT]; exact q1
    · rw [z2 f k (sr2 f g hf).1 (sr2 f g hf).2.1 (sr2 f g hf).2.2.1 (sr2 f g hf).2.2.2]; exact q2 f g hf
    · rw [z5 k]; exact q3 a ha
    · obtain ⟨w1, w2, w3, w4, w5, w6, w7⟩ := q4 q
      refine ⟨fun f g hf => ?_, fun f g hf => ?_, fun x => ?_, ?_, w5.c z1 (z2 601 k (by decide) (by decide) (by decide) (by decide)) (z6 600 k (by decide)) rfl e2, w6.c (fun f f1 f2 => z2 f k (by omega) (by omega) (by omega) (by omega)) (z4 500 k (by decide)) rfl rfl (by rw [een]), ?_⟩
      · rw [z2 f k (sr f g hf).1 (sr f g hf).2.1 (sr f g hf).2.2.1 (sr f g hf).2.2.2]; exact w1 f g hf
      · have hp := pci_r hf
        have hne : ¬ (f = 105 ∨ f = 107 ∨ f = 301) := fun q => by rcases q with rfl | rfl | rfl <;> cases hf
        rw [e2, z3 f k hp.2.2 hne]; exact (w2 f g hf).c z1
      · rw [z2 714 k (by decide) (by decide) (by decide) (by decide)]; exact w3 x
      · rw [z2 206 k (by decide) (by decide) (by decide) (by decide)]; exact w4
      · have w7' := w7.c (R' := S.rp k) z1 (fun f f1 f2 => z2 f k (by omega) (by omega) (by omega) (by omega)) (fun f f1 f2 => z4 f k (by omega)) (z6 1006 k (by decide)) rfl rfl rfl
        unfold StA at w7' ⊢
        rw [es, e3, e2, eV]; exact w7'
theorem e_look {mm : Kp} {N : Nat} {c : vC} {S : Sx} {i : Nat} {p : Nat → Nat} {t : Nat} (h : WC mm c S) (hfl : S.fl.length ≤ 200) (hi : i < S.fl.length) (hp : PmA c S p t) : F_X3_look N c (nI i) = some (c, some (p i)) := by
  unfold F_X3_look
  have hn : ¬ nI i < 0 := nIn (by omega)
  rw [if_neg hn, h.2.2.1.2.1, if_neg (nI_ge hi (by omega)), cQv (show i < 200 by omega) (by omega), Option.bind_some, (hp.1 i (by omega)).1]
theorem e_look0 {mm : Kp} {N : Nat} {c : vC} {S : Sx} {a : Int32} (h : WC mm c S) (ha : a < 0 ∨ nI S.fl.length ≤ a) : F_X3_look N c a = some (c, none) := by
  unfold F_X3_look
  by_cases c1 : a < 0
  · rw [if_pos c1]
  · rw [if_neg c1, h.2.2.1.2.1, if_pos (ha.resolve_left c1)]
theorem cSFv {c : vC} {j o : Nat} (hj : j < 200) (ho : o < 202) : cSF c (nI j) (some o) = some (uQ c 300 0 j (some o)) := by
  unfold cSF
  have e : (nI j).toNatClampNeg = j := nIt (by omega)
  have hn : ¬ nI j < 0 := nIn (by omega)
  rw [e, if_neg]
  intro q
  rcases q with q | q | q
  · exact hn q
  · omega
  · have : okf (some o) = true := decide_eq_true ho
    rw [this] at q; cases q
theorem q_tk {ρ : Type} {N l2 n : Nat} {kx : vC → Option ρ} {Q : ρ → Prop} (hn : n ≤ 200) : ∀ (d k fl : Nat) (c : vC), cI c 303 0 = nI n → k + 1 + d = n → d < fl → (∀ j, j < n → ∃ o, cQ c 300 0 j = some o ∧ o < 202) → (∀ c', zw c' c → cI c' = cI c → cP c' = cP c → (∀ j, ¬ (k ≤ j ∧ j + 1 < n) → cQ c' 300 0 j = cQ c 300 0 j) → (∀ j, k ≤ j → j + 1 < n → cQ c' 300 0 j = cQ c 300 0 (j + 1)) → tr (kx c') Q) → tr (L_X3_take_14 N l2 kx fl c (nI k)) Q := by
  intro d
  induction d with
  | zero =>
    intro k fl c h303 h1 h2 h3 g
    obtain ⟨fl, rfl⟩ : ∃ f', fl = f' + 1 := ⟨fl - 1, by omega⟩
    rw [L_X3_take_14, h303, nI_add1, if_pos (nI_le (by omega) (by omega))]
    exact g c zw.refl rfl rfl (fun _ _ => rfl) (fun j a b => by omega)
  | succ d ih =>
    intro k fl c h303 h1 h2 h3 g
    obtain ⟨fl, rfl⟩ : ∃ f', fl = f' + 1 := ⟨fl - 1, by omega⟩
    obtain ⟨o, ho, ho2⟩ := h3 (k + 1) (by omega)
    rw [L_X3_take_14, h303, nI_add1, if_neg (nI_ge (by omega) (by omega)), cQv (show k + 1 < 200 by omega) (by omega), Option.bind_some, ho, cSFv (by omega) ho2, Option.bind_some]
    obtain ⟨q1, q2, q3, q4, q5, q6, q7, q8⟩ := qw_K c 300 0 k (some o)
    have zq := zw_Q (c := c) (j := k) (v := some o)
    have us : cQ (uQ c 300 0 k (some o)) 300 0 k = some o := uQ_s _ _ _ _ _
    have uo : ∀ j, j ≠ k → cQ (uQ c 300 0 k (some o)) 300 0 j = cQ c 300 0 j := fun j hj => uQ_j _ _ _ _ hj
    generalize uQ c 300 0 k (some o) = c1 at q7 q8 zq us uo ⊢
    refine ih (k + 1) fl c1 (by rw [q7]; exact h303) (by omega) (by omega) (fun j hj => ?_) fun c' w1 w2 w3 w4 w5 => g c' (w1.tr zq) (w2.trans q7) (w3.trans q8) (fun j hj => ?_) (fun j a b => ?_)
    · by_cases e : j = k
      · subst e; exact ⟨o, us, ho2⟩
      · rw [uo j e]; exact h3 j hj
    · rw [w4 j (by omega), uo j (by omega)]
    · by_cases e : j = k
      · subst e
        rw [w4 j (by omega), us, ho]
      · rw [w5 j (by omega) b, uo (j + 1) (by omega)]
theorem c_take {N : Nat} {c : vC} {S : Sx} {i : Nat} (h : WC K0 c S) (hfl : S.fl.length ≤ 200) (hi : i < S.fl.length) : tr (F_X3_take N c (nI i)) (fun p => ∃ k, p.2 = some k ∧ k < 202 ∧ WC (some (k, S.fl.getD i mgD), []) p.1 (S.setf (S.fl.eraseIdx i))) := by
  obtain ⟨hd, a1, a2, a3, a4, p, t, hp⟩ := h.2.2.1
  have hp' := hp
  obtain ⟨b1, b2, b3, b4, b5, b6, b7⟩ := hp'
  unfold F_X3_take
  rw [e_look h hfl hi hp, b2_, oc_s, gd_ (b1 i (by omega)).2.1]
  refine q_tk (n := S.fl.length) (by omega) (S.fl.length - 1 - i) i fu c a1 (by omega) (show _ < 32768 by omega) (fun j hj => ⟨p j, (b1 j (by omega)).1, (b1 j (by omega)).2.1⟩) fun c8 w1 w2 w3 w4 w5 => ?_
  rw [l1_, l1_]
  have e303 : cI c8 303 0 - 1 = nI (S.fl.length - 1) := by rw [w2, a1]; exact nI_sub (b := 1) (by omega)
  rw [e303]
  have z9 := zw_I (c := c8) (f := 303) (i := 0) (v := nI (S.fl.length - 1)) (Or.inr (by decide))
  have i9 : cI (uI c8 303 0 (nI (S.fl.length - 1))) 303 0 = nI (S.fl.length - 1) := uI_s _ _ _ _
  have j9 : ∀ f x, f ≠ 303 → cI (uI c8 303 0 (nI (S.fl.length - 1))) f x = cI c f x := fun f x hf => by rw [uI_f _ _ _ hf, w2]
  have p9 : ∀ f x, cP (uI c8 303 0 (nI (S.fl.length - 1))) f x = cP c f x := fun f x => by rw [uI_P, w3]
  have q9 : ∀ x, cQ (uI c8 303 0 (nI (S.fl.length - 1))) 300 0 x = cQ c8 300 0 x := fun x => by rw [(iw_K c8 303 0 (nI (S.fl.length - 1))).2.2.2.2.2.2]
  generalize uI c8 303 0 (nI (S.fl.length - 1)) = c9 at z9 i9 j9 p9 q9 ⊢
  rw [i9, p9, b2, cSFv (by omega) b3, Option.bind_some, l1_]
  obtain ⟨_, _, _, _, _, _, r7, r8⟩ := qw_K c9 300 0 (S.fl.length - 1) (some t)
  have zA := zw_Q (c := c9) (j := S.fl.length - 1) (v := some t)
  have us : cQ (uQ c9 300 0 (S.fl.length - 1) (some t)) 300 0 (S.fl.length - 1) = some t := uQ_s _ _ _ _ _
  have uo : ∀ j, j ≠ S.fl.length - 1 → cQ (uQ c9 300 0 (S.fl.length - 1) (some t)) 300 0 j = cQ c9 300 0 j := fun j hj => uQ_j _ _ _ _ hj
  generalize uQ c9 300 0 (S.fl.length - 1) (some t) = cA at r7 r8 zA us uo ⊢
  have zB := zw_P (c := cA) (f := 301) (i := 0) (v := some (p i)) (Or.inr (Or.inr rfl))
  have iB : ∀ f x, cI (uP cA 301 0 (some (p i))) f x = cI cA f x := fun f x => uP_I _ _ _ _ _ _
  have pB : cP (uP cA 301 0 (some (p i))) 301 0 = some (p i) := uP_s _ _ _ _
  have pO : ∀ f x, f ≠ 301 → cP (uP cA 301 0 (some (p i))) f x = cP cA f x := fun f x hf => uP_f _ _ _ hf
  have qB : cQ (uP cA 301 0 (some (p i))) = cQ cA := (pw_K cA 301 0 (some (p i))).2.2.2.2.2.2
  generalize uP cA 301 0 (some (p i)) = cB at zB iB pB pO qB ⊢
  have zz : zw cB c := zB.tr (zA.tr (z9.tr w1))
  have eI : ∀ f x, f ≠ 303 → cI cB f x = cI c f x := fun f x hf => by rw [iB, r7, j9 f x hf]
  have eP : ∀ f x, f ≠ 301 → cP cB f x = cP c f x := fun f x hf => by rw [pO f x hf, r8, p9]
  have fr : ∀ k m, FrA c S.V S.sta S.tb k m → FrA cB S.V S.sta S.tb k m := fun k m hF => hF.c zz.1 (fun f f1 f2 => eI f k (by omega)) (eP 105 k (by decide)) (eP 107 k (by decide))
  have eQ : ∀ j, j < 200 → cQ cB 300 0 j = some (if j + 1 = S.fl.length then t else p (if j < i ∨ S.fl.length ≤ j then j else j + 1)) := fun j hj => by
    rw [qB]
    by_cases e : j + 1 = S.fl.length
    · rw [if_pos e, show j = S.fl.length - 1 by omega, us]
    · rw [if_neg e, uo j (by omega), q9]
      by_cases e2 : j < i ∨ S.fl.length ≤ j
      · rw [if_pos e2, w4 j (by omega)]; exact (b1 j hj).1
      · rw [if_neg e2, w5 j (by omega) (by omega)]; exact (b1 (j + 1) (by omega)).1
  refine tr_some ⟨p i, rfl, (b1 i (by omega)).2.1, WC_nw h zz (fun _ _ => rfl) rfl rfl rfl rfl ⟨⟨fun k m e => ?_, fun a q e => by cases e⟩, ?_, ?_, ?_, ?_, fun j => if j + 1 = S.fl.length then t else p (if j < i ∨ S.fl.length ≤ j then j else j + 1), p i, fun j hj => ⟨eQ j hj, ?_⟩, pB, (b1 i (by omega)).2.1, (b1 i (by omega)).2.2, fun j j' hj hj' e => ?_, fun j hj e => ?_, fun j hj => ?_⟩⟩
  · injection e with e
    injection e with ek em
    subst ek; subst em
    exact ⟨pB, fr _ _ (b7 i hi)⟩
  · rw [iB, r7, i9]
    show nI (S.fl.length - 1) = nI (S.fl.eraseIdx i).length
    rw [er_len hi]
  · rw [eI 304 0 (by decide)]; exact a2
  · rw [eI 305 0 (by decide)]; exact a3
  · rw [eI 306 0 (by decide)]; exact a4
  · dsimp only
    by_cases e : j + 1 = S.fl.length
    · rw [if_pos e]; exact ⟨b3, b4⟩
    · rw [if_neg e]
      by_cases e2 : j < i ∨ S.fl.length ≤ j
      · rw [if_pos e2]; exact (b1 j hj).2
      · rw [if_neg e2]; exact (b1 (j + 1) (by omega)).2
  · dsimp only at e
    by_cases c1 : j + 1 = S.fl.length
    · by_cases c2 : j' + 1 = S.fl.length
      · omega
      · rw [if_pos c1, if_neg c2] at e
        exact absurd e.symm (b6 _ (by split <;> omega))
    · by_cases c2 : j' + 1 = S.fl.length
      · rw [if_neg c1, if_pos c2] at e
        exact absurd e (b6 _ (by split <;> omega))
      · rw [if_neg c1, if_neg c2] at e
        have := b5 _ _ (by split <;> omega) (by split <;> omega) e
        split at this <;> split at this <;> omega
  · dsimp only at e
    by_cases c1 : j + 1 = S.fl.length
    · rw [if_pos c1] at e
      exact absurd e.symm (b6 i (by omega))
    · rw [if_neg c1] at e
      have := b5 _ i (by split <;> omega) (by omega) e
      split at this <;> omega
  · have hj' : j < S.fl.length - 1 := by
      have : j < (S.fl.eraseIdx i).length := hj
      rw [er_len hi] at this; exact this
    show FrA cB S.V S.sta S.tb (if j + 1 = S.fl.length then t else p (if j < i ∨ S.fl.length ≤ j then j else j + 1)) ((S.fl.eraseIdx i).getD j mgD)
    rw [if_neg (by omega), getD_er]
    by_cases e2 : j < i
    · rw [if_pos (Or.inl e2), if_pos e2]; exact fr _ _ (b7 j (by omega))
    · rw [if_neg (by omega), if_neg e2]; exact fr _ _ (b7 (j + 1) (by omega))
