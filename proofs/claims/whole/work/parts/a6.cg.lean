/-! ===== the class's store learns ===== -/
/-- nothing but the store of one replica -/
def sk (r : Nat) (c' c : vC) : Prop := zc r c' c ∧ (∀ f, f ≠ 1007 → f ≠ 1008 → f ≠ 1009 → 100 ≤ f → ¬ (800 ≤ f ∧ f < 900) → cI c' f r = cI c f r) ∧ (∀ f, f ≠ 805 → cP c' f r = cP c f r) ∧ (∀ f, f ≠ 0 → ¬ (1002 ≤ f ∧ f ≤ 1005) → cR c' f r = cR c f r) ∧ (∀ f, f ≠ 1006 → cQ c' f r = cQ c f r) ∧ cJ c' r = cJ c r
theorem sk.refl {r : Nat} {c : vC} : sk r c c := ⟨zc.refl, fun _ _ _ _ _ _ => rfl, fun _ _ => rfl, fun _ _ _ => rfl, fun _ _ => rfl, rfl⟩
theorem sk.tr {r : Nat} {a b c : vC} (h : sk r a b) (g : sk r b c) : sk r a c := by
  obtain ⟨h1, h2, h3, h4, h5, h6⟩ := h
  obtain ⟨g1, g2, g3, g4, g5, g6⟩ := g
  exact ⟨h1.tr g1, fun f a b c d e => (h2 f a b c d e).trans (g2 f a b c d e), fun f a => (h3 f a).trans (g3 f a), fun f a b => (h4 f a b).trans (g4 f a b), fun f a => (h5 f a).trans (g5 f a), h6.trans g6⟩
theorem sk_I {r f : Nat} {c : vC} {v : Int32} (h : f = 1007 ∨ f = 1008 ∨ f = 1009) : sk r (uI c f r v) c :=
  ⟨zc_I (by rcases h with rfl | rfl | rfl <;> rfl), fun g a b d _ _ => uI_f _ _ _ (by omega), fun _ _ => rfl, fun _ _ _ => rfl, fun _ _ => rfl, rfl⟩
theorem sk_R {r f j : Nat} {c : vC} {v : Int32} (h : f = 1002 ∨ f = 1003 ∨ f = 1004 ∨ f = 1005) : sk r (uR c f r j v) c :=
  ⟨zc_R (by rcases h with rfl | rfl | rfl | rfl <;> rfl), fun _ _ _ _ _ _ => rfl, fun _ _ => rfl, fun g _ n => uR_f _ _ _ _ (by omega), fun _ _ => rfl, rfl⟩
theorem sk_Q {r j : Nat} {c : vC} {v : Option Nat} : sk r (uQ c 1006 r j v) c :=
  ⟨zc_Q rfl, fun _ _ _ _ _ _ => rfl, fun _ _ => rfl, fun _ _ _ => rfl, fun g n => uQ_f _ _ _ _ n, rfl⟩
theorem sk_W {r : Nat} {c : vC} {g : Nat → Int32} : sk r (uRW c 1005 r g) c :=
  ⟨⟨ze_s rfl rfl rfl rfl (fun g a b => rfl) rfl, fun g i _ _ n => rfl, fun g i _ n => rfl, fun k i _ n => vi_u2v _ _ _ _ (fun q => n ⟨q.2, by rw [q.1]; rfl⟩), fun _ _ => rfl, fun _ _ _ => rfl⟩, fun _ _ _ _ _ _ => rfl, fun _ _ => rfl, fun k _ n => vi_u2v _ _ _ _ (fun q => n (by omega)), fun _ _ => rfl, rfl⟩
theorem sk_B {r i : Nat} {c : vC} {l : List Nat} : sk r (sB c i l) c :=
  ⟨zc_B, fun g _ _ _ h _ => sB_I _ _ _ _ (by omega), fun _ _ => rfl, fun g h _ => funext fun j => sB_R _ _ _ _ _ h, fun _ _ => rfl, rfl⟩
theorem sk_2 {r f i : Nat} {c : vC} {v : Int32} (h : f < 100) : sk r (uI c f i v) c :=
  ⟨zc_2 h, fun g _ _ _ h _ => uI_f _ _ _ (by omega), fun _ _ => rfl, fun g h _ => rfl, fun _ _ => rfl, rfl⟩
theorem RpA_sk {c c' : vC} {S : Sx} {r : Nat} {R R' : Rp} (h : RpA c S r R) (z : sk r c' c) (e1 : ∀ f, f ≠ 7 → f ≠ 8 → f ≠ 9 → R'.1 f = R.1 f) (e2 : R'.2 = R.2) (g : StA c' S r R') : RpA c' S r R' := by
  obtain ⟨w1, w2, w3, w4, w5, w6, w7⟩ := h
  obtain ⟨z1, z2, z3, z4, z5, z6⟩ := z
  refine ⟨fun k j hk => ?_, fun k j hk => ?_, fun x => ?_, ?_, w5.c z1.1 (z2 601 (by decide) (by decide) (by decide) (by decide) (by decide)) (z5 600 (by decide)) (by rw [e2]) rfl, w6.c (fun k k1 k2 => z2 k (by omega) (by omega) (by omega) (by omega) (by omega)) (z4 500 (by decide) (by decide)) (e1 43 (by decide) (by decide) (by decide)) (e1 44 (by decide) (by decide) (by decide)) rfl, g⟩
  · have q := sci_r hk
    have := rpf_8 q.1
    rw [z2 k (by omega) (by omega) (by omega) (by omega) (by omega), w1 k j hk, e1 j (by omega) (by omega) (by omega)]
  · have q := pci_r hk
    rw [z3 k q.2.2, e1 j (by omega) (by omega) (by omega)]; exact (w2 k j hk).c z1.1
  · rw [e1 12 (by decide) (by decide) (by decide)] at x
    rw [z2 714 (by decide) (by decide) (by decide) (by decide) (by decide), e1 11 (by decide) (by decide) (by decide)]; exact w3 x
  · rw [z2 206 (by decide) (by decide) (by decide) (by decide) (by decide), e2]; exact w4
theorem AlA_sk {c c' : vC} {S : Sx} {r : Nat} {R R' : Rp} (h : AlA c S r R) (z : sk r c' c) (e1 : ∀ f, f ≠ 7 → f ≠ 8 → f ≠ 9 → R'.1 f = R.1 f) (e2 : R'.2 = R.2) : AlA c' S r R' := by
  obtain ⟨⟨a1, a2, a3, a4, a5⟩, b, d⟩ := h
  obtain ⟨z1, z2, z3, z4, z5, z6⟩ := z
  refine ⟨⟨(z2 _ (by decide) (by decide) (by decide) (by decide) (by decide)).trans a1, (z2 _ (by decide) (by decide) (by decide) (by decide) (by decide)).trans a2, (z2 _ (by decide) (by decide) (by decide) (by decide) (by decide)).trans a3, (z2 _ (by decide) (by decide) (by decide) (by decide) (by decide)).trans a4, (z2 _ (by decide) (by decide) (by decide) (by decide) (by decide)).trans a5⟩, fun k j hk => ?_, fun a ha => by rw [z6, e2]; exact d a ha⟩
  have q := sca_r hk
  have hk' : k = 711 ∨ k = 204 ∨ k = 205 := by
    unfold sca at hk
    split at hk <;> first | decide | (cases hk; done)
  rw [z2 k (by omega) (by omega) (by omega) (by omega) (by omega), b k j hk, e1 j (by omega) (by omega) (by omega)]
theorem WC_sk {mm : Kp} {c c' : vC} {S : Sx} {r : Nat} {R R' : Rp} (h : WC mm c (S.set r R)) (z : sk r c' c) (e1 : ∀ f, f ≠ 7 → f ≠ 8 → f ≠ 9 → R'.1 f = R.1 f) (e2 : R'.2 = R.2) (g : r < S.N → R'.1 6 = 1 → StA c' S r R') : WC mm c' (S.set r R') := by
  refine WC_zc h z.1 (fun hr => AlA_sk (WC_a h hr).1 z e1 e2) (fun hr h6 => ?_)
  have h6' : R.1 6 = 1 := by rw [← e1 6 (by decide) (by decide) (by decide)]; exact h6
  exact RpA_sk ((WC_a h hr).2 h6') z e1 e2 (g hr h6)
theorem mx_sub {a b v : Nat} (ha : a < 2 ^ 30) (hb : b < 2 ^ 30) (hv : v < 2 ^ 30) : mxI (nI a) (nI b - nI v) = nI (max a (b - v)) := by
  by_cases h : v ≤ b
  · rw [nI_sub h, mx_n (by omega) (by omega)]
  · unfold mxI
    rw [if_neg (fun q => ?_), show max a (b - v) = a by omega]
    have h1 := nI_subneg (x := b) (y := v) (by omega) (by omega)
    exact nIn (show a < 2 ^ 31 by omega) (Int32.lt_trans q h1)
theorem mn_n {a b : Nat} (ha : a < 2 ^ 31) (hb : b < 2 ^ 31) : mnI (nI a) (nI b) = nI (min a b) := by
  unfold mnI
  by_cases e : b < a
  · rw [if_pos ((nI_ltI hb ha).mpr e), Nat.min_eq_right (by omega)]
  · rw [if_neg (fun q => e ((nI_ltI hb ha).mp q)), Nat.min_eq_left (by omega)]
theorem q_wv {ρ : Type} {N : Nat} {kx : vC → Option ρ} {Q : ρ → Prop} {c : vC} {r a v x : Nat} {w : Int32} {vs : Nat → Int32} (hk : cK c a = 9) (hv : cP c 805 a = some v) (hv1 : cK c v = 21) (hv2 : cN c v = 16) (hvs : ∀ k, k < 16 → ((w >>> (nI k &&& 31)) &&& (1 : Int32)) = (1 : Int32) → cD c v k = vs k) (hx : x ≤ 256) (g : ∀ c', sk r c' c → (∀ f, cI c' f r = cI c f r) → (∀ f, f ≠ 1005 → cR c' f r = cR c f r) → (∀ f, cQ c' f r = cQ c f r) → (∀ j, (j < x ∨ x + 16 ≤ j) → cR c' 1005 r j = cR c 1005 r j) → (∀ k, k < 16 → cR c' 1005 r (x + k) = if ((w >>> (nI k &&& 31)) &&& (1 : Int32)) = (1 : Int32) then vs k else cR c 1005 r (x + k)) → tr (kx c') Q) : tr (L_X10_writeValues_11 N r (some a) w (nI x) kx fu c 0) Q := by
  refine tr_up0 (g := L_X10_writeValues_11 N r (some a) w (nI x) kx) (fun n c' => sk r c' c ∧ (cK c' = cK c ∧ cN c' = cN c ∧ cD c' = cD c ∧ cP c' = cP c) ∧ (∀ f, cI c' f r = cI c f r) ∧ (∀ f, f ≠ 1005 → cR c' f r = cR c f r) ∧ (∀ f, cQ c' f r = cQ c f r) ∧ (∀ j, (j < x ∨ x + n ≤ j) → cR c' 1005 r j = cR c 1005 r j) ∧ (∀ k, k < n → cR c' 1005 r (x + k) = if ((w >>> (nI k &&& 31)) &&& (1 : Int32)) = (1 : Int32) then vs k else cR c 1005 r (x + k))) 16 (by decide) (fun f c1 hP => ?_) (fun f k c1 hk1 hP ih => ?_) c ⟨sk.refl, ⟨rfl, rfl, rfl, rfl⟩, fun _ => rfl, fun _ _ => rfl, fun _ => rfl, fun _ _ => rfl, fun k hk => absurd hk (Nat.not_lt_zero _)⟩
  · obtain ⟨p1, _, p2, p3, p4, p5, p6⟩ := hP
    rw [L_X10_writeValues_11, if_pos (show (16 : Int32) ≤ nI 16 from nI_le (Nat.le_refl 16) (by decide))]
    exact g c1 p1 p2 p3 p4 p5 p6
  · obtain ⟨p1, ⟨d1, d2, d3, d4⟩, p2, p3, p4, p5, p6⟩ := hP
    rw [L_X10_writeValues_11, if_neg (show ¬ (16 : Int32) ≤ nI k from nI_ge (b := 16) (by omega) (by decide)), nI_add1]
    by_cases cb : ((w >>> (nI k &&& 31)) &&& (1 : Int32)) = (1 : Int32)
    · rw [isInT cb, b2_, if_neg (by decide), Option.bind_some, gd_ (by rw [d1]; exact hk), l1_, d4, hv, Option.bind_some, dGv (by rw [d1]; exact hv1) (by rw [d2, hv2]; exact hk1) (by omega), Option.bind_some, nI_add, cSv (show x + k < 272 by omega) (by omega), Option.bind_some, d3, hvs k hk1 cb]
      refine ih _ ⟨(sk_R (by omega)).tr p1, ⟨d1, d2, d3, d4⟩, p2, fun f hf => (uR_f _ _ _ _ hf).trans (p3 f hf), p4, fun j hj => ?_, fun j hj => ?_⟩
      · rw [uR_j _ _ _ _ (by omega)]; exact p5 j (by omega)
      · by_cases e : j = k
        · subst e; rw [uR_s, if_pos cb]
        · rw [uR_j _ _ _ _ (by omega)]; exact p6 j (by omega)
    · rw [isInF cb, b2_, if_pos rfl]
      refine ih _ ⟨p1, ⟨d1, d2, d3, d4⟩, p2, p3, p4, fun j hj => p5 j (by omega), fun j hj => ?_⟩
      by_cases e : j = k
      · subst e; rw [if_neg cb]; exact p5 _ (by omega)
      · exact p6 j (by omega)
theorem q_l112 {ρ : Type} {N : Nat} {kx : vC → Option ρ} {Q : ρ → Prop} {r : Nat} {l1 : Option Nat} {l2 : Int32} {c : vC} {V : Nat} (hV : V ≤ 16) (g : ∀ c', sk r c' c → (∀ f, cI c' f r = cI c f r) → cP c' = cP c → cK c' = cK c → (∀ f, f ≠ 1004 → cR c' f r = cR c f r) → (∀ f, cQ c' f r = cQ c f r) → (∀ v, 1 ≤ v → v < V → cR c' 1004 r v = cR c 1004 r (v - 1)) → tr (kx c') Q) : ∀ (d fl : Nat) (c' : vC), d < V ∨ d = 0 → d < fl → sk r c' c → (∀ f, cI c' f r = cI c f r) → cP c' = cP c → cK c' = cK c → (∀ f, f ≠ 1004 → cR c' f r = cR c f r) → (∀ f, cQ c' f r = cQ c f r) → (∀ v, d < v → v < V → cR c' 1004 r v = cR c 1004 r (v - 1)) → (∀ v, v ≤ d → cR c' 1004 r v = cR c 1004 r v) → tr (L_X10_learn_112 N r l1 l2 kx fl c' (nI d)) Q := by
  intro d
  induction d with
  | zero =>
    intro fl c' hd h2 p1 p2 p3 p4 p5 p6 p7 p8
    obtain ⟨fl, rfl⟩ : ∃ f', fl = f' + 1 := ⟨fl - 1, by omega⟩
    rw [L_X10_learn_112, if_pos (show nI 0 ≤ (0 : Int32) by decide)]
    exact g c' p1 p2 p3 p4 p5 p6 (fun v h1 h2 => p7 v (by omega) h2)
  | succ d ih =>
    intro fl c' hd h2 p1 p2 p3 p4 p5 p6 p7 p8
    obtain ⟨fl, rfl⟩ : ∃ f', fl = f' + 1 := ⟨fl - 1, by omega⟩
    rw [L_X10_learn_112, if_neg (show ¬ nI (d + 1) ≤ (0 : Int32) from nI_ge (a := 0) (by omega) (by omega)), nI_m1, nI_p1, cGv (show d < 16 by omega) (by omega), Option.bind_some, cSv (show d + 1 < 16 by omega) (by omega), Option.bind_some]
    refine ih fl _ (by omega) (by omega) ((sk_R (by omega)).tr p1) p2 p3 p4 (fun f hf => (uR_f _ _ _ _ hf).trans (p5 f hf)) p6 (fun v h1 h2 => ?_) (fun v hv => ?_)
    · by_cases e : v = d + 1
      · subst e; rw [uR_s]; exact p8 d (by omega)
      · rw [uR_j _ _ _ _ e]; exact p7 v (by omega) h2
    · rw [uR_j _ _ _ _ (by omega)]; exact p8 v (by omega)
