/-! ===== the reference takes a state over ===== -/
def rst (R : Rp) (i : Nat) : Rp := ((R.u 7 i).u 8 i).u 9 i
theorem q_rs36 {ρ : Type} {kx : vM → Option ρ} {Q : ρ → Prop} {M : vM} {r j a i V : Nat} {s : Sta} (hr : r < 9) (h7 : j ≠ 7) (h14 : j ≠ 14) (h17 : j ≠ 17) (h18 : j ≠ 18) (hk : mKd j = 21) (ha : a + 66 ≤ mL j) (hL : mL j < 2 ^ 31) (hi : i < 2 ^ 30) (e7 : M.2 7 r = nI i) (g : imA (M.2 j) a V s i) (K : ∀ M', zk r M' M → (∀ x, x ≠ 14 → x ≠ 17 → x ≠ 18 → M'.2 x = M.2 x) → (∀ k, k < 16 → M'.2 14 (16 * (40 * r + i % 40) + k) = s.1 k) → (∀ k, k < 16 → M'.2 17 (16 * r + k) = nI (s.2.1 k)) → (∀ k, k < 16 → M'.2 18 (16 * r + k) = nI (s.2.2.1 k)) → tr (kx M') Q) : tr (L_X12_restore_36 (nI r) j (nI a) kx fu M 0) Q := by
  obtain ⟨g1, g2, g3, g4, g5⟩ := g
  refine tr_up0 (g := L_X12_restore_36 (nI r) j (nI a) kx) (fun n M' => zk r M' M ∧ (∀ x, x ≠ 14 → x ≠ 17 → x ≠ 18 → M'.2 x = M.2 x) ∧ (∀ k, k < n → M'.2 14 (16 * (40 * r + i % 40) + k) = s.1 k) ∧ (∀ k, k < n → M'.2 17 (16 * r + k) = nI (s.2.1 k)) ∧ (∀ k, k < n → M'.2 18 (16 * r + k) = nI (s.2.2.1 k))) 16 (by decide) (fun f M1 hP => ?_) (fun f k M1 hk1 hP ih => ?_) M ⟨zk.refl, fun _ _ _ _ => rfl, fun x hx => absurd hx (Nat.not_lt_zero _), fun x hx => absurd hx (Nat.not_lt_zero _), fun x hx => absurd hx (Nat.not_lt_zero _)⟩
  · obtain ⟨p1, p2, p3, p4, p5⟩ := hP
    rw [L_X12_restore_36, if_pos (show (16 : Int32) ≤ nI 16 from nI_le (Nat.le_refl 16) (by decide))]
    exact K M1 p1 p2 p3 p4 p5
  · obtain ⟨p1, p2, p3, p4, p5⟩ := hP
    rw [L_X12_restore_36, if_neg (show ¬ (16 : Int32) ≤ nI k from nI_ge (b := 16) (by omega) (by decide))]
    refine tr_G (show r < 9 from hr) (by omega) ?_
    rw [p2 7 (by decide) (by decide) (by decide), e7]
    refine r_at (by omega) ?_
    refine tr_gd hk ?_
    rw [show nI a + (1 : Int32) = nI (a + 1) from nI_add a 1, show nI a + (17 : Int32) = nI (a + 17) from nI_add a 17, show nI a + (33 : Int32) = nI (a + 33) from nI_add a 33, nI_add, nI_add, nI_add, show (16 : Int32) * nI (40 * r + i % 40) = nI (16 * (40 * r + i % 40)) from nI_mul 16 _, nI_add, show (16 : Int32) * nI r = nI (16 * r) from nI_mul 16 _, nI_add, nI_add1]
    refine tr_G (by omega) (by omega) ?_
    rw [p2 j h14 h17 h18, g2 k hk1]
    refine tr_S (show _ < 5760 by omega) (by omega) ?_
    refine tr_gd hk ?_
    refine tr_G (by omega) (by omega) ?_
    rw [uE_j _ _ _ h14, p2 j h14 h17 h18, g3 k hk1]
    refine tr_S (show _ < 144 by omega) (by omega) ?_
    refine tr_gd hk ?_
    refine tr_G (by omega) (by omega) ?_
    rw [uE_j _ _ _ h17, uE_j _ _ _ h14, p2 j h14 h17 h18, g4 k hk1]
    refine tr_S (show _ < 144 by omega) (by omega) ?_
    refine ih _ ⟨((p1.u (show 640 * r ≤ _ by omega) (show _ < 640 * r + 640 by omega)).u (show 16 * r ≤ _ by omega) (show _ < 16 * r + 16 by omega)).u (show 16 * r ≤ _ by omega) (show _ < 16 * r + 16 by omega), fun x x1 x2 x3 => ?_, fun x hx => ?_, fun x hx => ?_, fun x hx => ?_⟩
    · rw [← p2 x x1 x2 x3]
      exact funext fun y => by rw [uE_j _ _ _ x3, uE_j _ _ _ x2, uE_j _ _ _ x1]
    · rw [uE_j _ _ _ (by decide), uE_j _ _ _ (by decide)]
      by_cases e : x = k
      · subst e; rw [uE_s]
      · rw [uE_i _ _ (by omega)]; exact p3 x (by omega)
    · rw [uE_j _ _ _ (by decide)]
      by_cases e : x = k
      · subst e; rw [uE_s]
      · rw [uE_i _ _ (by omega), uE_j _ _ _ (by decide)]; exact p4 x (by omega)
    · by_cases e : x = k
      · subst e; rw [uE_s]
      · rw [uE_i _ _ (by omega), uE_j _ _ _ (by decide), uE_j _ _ _ (by decide)]; exact p5 x (by omega)
theorem q_rs123 {ρ : Type} {kx : vM → Option ρ} {Q : ρ → Prop} {M : vM} {r j a i V : Nat} {s : Sta} (hr : r < 9) (h15 : j ≠ 15) (hk : mKd j = 21) (ha : a + 66 ≤ mL j) (hL : mL j < 2 ^ 31) (hi : i < 2 ^ 30) (hV : V ≤ 16) (eV : M.1 2 = nI V) (e7 : M.2 7 r = nI i) (g : ∀ v, v < V → M.2 j (a + 49 + v) = y_wn s i v) (K : ∀ M', zk r M' M → (∀ x, x ≠ 15 → M'.2 x = M.2 x) → (∀ v, v < V → v < i → M'.2 15 (40 * r + (i - v) % 40) = y_wn s i v) → tr (kx M') Q) : tr (L_X12_restore_123 (nI r) j (nI a) kx fu M 0) Q := by
  refine tr_up0 (g := L_X12_restore_123 (nI r) j (nI a) kx) (fun n M' => zk r M' M ∧ (∀ x, x ≠ 15 → M'.2 x = M.2 x) ∧ (∀ v, v < n → v < i → M'.2 15 (40 * r + (i - v) % 40) = y_wn s i v)) V (by omega) (fun f M1 hP => ?_) (fun f k M1 hk1 hP ih => ?_) M ⟨zk.refl, fun _ _ => rfl, fun x hx => absurd hx (Nat.not_lt_zero _)⟩
  · obtain ⟨p1, p2, p3⟩ := hP
    rw [L_X12_restore_123, p1.1, eV, if_pos (Int32.le_refl _)]
    exact K M1 p1 p2 p3
  · obtain ⟨p1, p2, p3⟩ := hP
    rw [L_X12_restore_123, p1.1, eV, if_neg (nI_ge hk1 (by omega)), nI_add1]
    refine tr_G (show r < 9 from hr) (by omega) ?_
    rw [p2 7 (by decide), e7]
    refine tr_sle (c := 0) (by omega) (by omega) (by decide) (fun c => ?_) (fun c => ?_)
    · exact ih _ ⟨p1, p2, fun v h1 h2 => p3 v (by omega) h2⟩
    · refine tr_G (show r < 9 from hr) (by omega) ?_
      rw [p2 7 (by decide), e7, nI_sub (by omega)]
      refine r_at (by omega) ?_
      refine tr_gd hk ?_
      rw [show nI a + (49 : Int32) = nI (a + 49) from nI_add a 49, nI_add]
      refine tr_G (by omega) (by omega) ?_
      rw [p2 j h15, g k hk1]
      refine tr_S (show _ < 360 by omega) (by omega) ?_
      refine ih _ ⟨p1.u (show 40 * r ≤ _ by omega) (show _ < 40 * r + 40 by omega), fun x hx => ?_, fun v h1 h2 => ?_⟩
      · rw [← p2 x hx]; exact funext fun y => uE_j _ _ _ hx
      · by_cases e : v = k
        · subst e; rw [uE_s]
        · rw [uE_i _ _ (by omega)]; exact p3 v (by omega) h2
theorem r_restore {M : vM} {S : Sx} {r j a i : Nat} {R : Rp} (hC : Cx S) (h : WM M (S.set r R)) (hr : r < 9) (hj : j = 45 ∨ j = 29) (ha : a + 66 ≤ mL j) (hi : i < 2 ^ 30) (g : imA (M.2 j) a S.V (S.sta i) i) : tr (F_X12_restore M (nI r) j (nI a)) (fun M' => zk r M' M ∧ M'.2 j = M.2 j ∧ WM M' (S.set r (rst R i))) := by
  have hk : mKd j = 21 := by rcases hj with rfl | rfl <;> rfl
  have hL : mL j < 2 ^ 31 := by rcases hj with rfl | rfl <;> decide
  have hV := hC.V
  unfold F_X12_restore
  refine tr_gd hk ?_
  refine tr_G (by omega) (by omega) ?_
  rw [g.1]
  refine tr_S (show r < 9 from hr) (by omega) ?_
  refine tr_G (show r < 9 from hr) (by omega) ?_
  rw [uE_s]
  refine tr_S (show r < 9 from hr) (by omega) ?_
  refine tr_G (show r < 9 from hr) (by omega) ?_
  rw [uE_j _ _ _ (by decide), uE_s]
  refine tr_S (show r < 9 from hr) (by omega) ?_
  have z1 : zk r (uE (uE (uE M 7 r (nI i)) 8 r (nI i)) 9 r (nI i)) M := ((zk.refl.u (j := 7) (show 1 * r ≤ r by omega) (show r < 1 * r + 1 by omega)).u (j := 8) (show 1 * r ≤ r by omega) (show r < 1 * r + 1 by omega)).u (j := 9) (show 1 * r ≤ r by omega) (show r < 1 * r + 1 by omega)
  have k1 : ∀ x, x ≠ 7 → x ≠ 8 → x ≠ 9 → (uE (uE (uE M 7 r (nI i)) 8 r (nI i)) 9 r (nI i)).2 x = M.2 x := fun x a b c => funext fun y => by rw [uE_j _ _ _ c, uE_j _ _ _ b, uE_j _ _ _ a]
  have v7 : (uE (uE (uE M 7 r (nI i)) 8 r (nI i)) 9 r (nI i)).2 7 r = nI i := by rw [uE_j _ _ _ (by decide), uE_j _ _ _ (by decide), uE_s]
  have v8 : (uE (uE (uE M 7 r (nI i)) 8 r (nI i)) 9 r (nI i)).2 8 r = nI i := by rw [uE_j _ _ _ (by decide), uE_s]
  have v9 : (uE (uE (uE M 7 r (nI i)) 8 r (nI i)) 9 r (nI i)).2 9 r = nI i := uE_s _ _ _ _
  generalize uE (uE (uE M 7 r (nI i)) 8 r (nI i)) 9 r (nI i) = M1 at z1 k1 v7 v8 v9 ⊢
  have g' : imA (M1.2 j) a S.V (S.sta i) i := by
    rw [k1 j (by omega) (by omega) (by omega)]; exact g
  refine q_rs36 (s := S.sta i) hr (by omega) (by omega) (by omega) (by omega) hk ha hL hi v7 g' fun M2 z2 k2 u14 u17 u18 => ?_
  refine q_rs123 (s := S.sta i) (i := i) (V := S.V) hr (by omega) hk ha hL hi hV (by rw [z2.1, z1.1]; exact h.1 2 rfl) (by rw [k2 7 (by decide) (by decide) (by decide)]; exact v7) (by rw [k2 j (by omega) (by omega) (by omega)]; exact g'.2.2.2.2) fun M3 z3 k3 u15 => ?_
  have zz : zk r M3 M := ⟨by rw [z3.1, z2.1, z1.1], fun j x hx => by rw [z3.2 j x hx, z2.2 j x hx, z1.2 j x hx]⟩
  refine tr_some ⟨zz, ?_, WM_zk h hr zz ?_⟩
  · rw [k3 j (by omega), k2 j (by omega) (by omega) (by omega), k1 j (by omega) (by omega) (by omega)]
  · obtain ⟨a1, a2, a3, a4, a5, a6, a7, a8, a9, a10, a11⟩ := WM_r h hr
    have same : ∀ j x, j ≠ 7 → j ≠ 8 → j ≠ 9 → j ≠ 14 → j ≠ 15 → j ≠ 17 → j ≠ 18 → vw M3 r j x = vw M r j x := fun j x q1 q2 q3 q4 q5 q7 q8 => by
      unfold vw
      rw [k3 j q5, k2 j q4 q7 q8, k1 j q1 q2 q3]
    have t7 : (rst R i).1 7 = i := rfl
    have t8 : (rst R i).1 8 = i := rfl
    have t9 : (rst R i).1 9 = i := rfl
    unfold RR
    rw [t7, t8, t9]
    refine ⟨fun j hj => ?_, fun i' k b1 b2 b3 => ?_, fun i' b1 b2 b3 => ?_, fun i' b1 b2 => by omega, fun s hs => ?_, fun s hs => ?_, fun k hk => ?_, ?_, fun k hk => ?_, ?_, fun a ha => ?_⟩
    · by_cases q7 : j = 7
      · subst q7; rw [vw_1 rfl, k3 7 (by decide), k2 7 (by decide) (by decide) (by decide), v7]; rfl
      · by_cases q8 : j = 8
        · subst q8; rw [vw_1 rfl, k3 8 (by decide), k2 8 (by decide) (by decide) (by decide), v8]; rfl
        · by_cases q9 : j = 9
          · subst q9; rw [vw_1 rfl, k3 9 (by decide), k2 9 (by decide) (by decide) (by decide), v9]; rfl
          · have nn : ∀ m, sc m = false → j ≠ m := fun m hm e => by rw [e, hm] at hj; exact absurd hj (by decide)
            rw [same j 0 q7 q8 q9 (nn 14 rfl) (nn 15 rfl) (nn 17 rfl) (nn 18 rfl), a1 j hj]
            unfold rst
            rw [u_n _ _ q9, u_n _ _ q8, u_n _ _ q7]
    · obtain rfl : i' = i := by omega
      rw [vw_a (show _ < 640 by omega), k3 14 (by decide)]
      rw [← u14 k b3]
      exact congrArg (M2.2 14) (by show 640 * r + _ = _; omega)
    · rw [vw_a (show _ < 40 by omega)]
      have := u15 (i - i') (by omega) (by omega)
      rw [show i - (i - i') = i' by omega] at this
      rw [show zs 15 * r + i' % 40 = 40 * r + i' % 40 from rfl, this]
      unfold y_wn
      rw [if_neg (by omega), show i - (i - i') = i' by omega]
      exact ms_st i b3
    · rw [vw_a (show _ < 16 from hs), k3 17 (by decide)]
      exact u17 s hs
    · rw [vw_a (show _ < 16 from hs), k3 18 (by decide)]
      exact u18 s hs
    · rw [same 26 k (by decide) (by decide) (by decide) (by decide) (by decide) (by decide) (by decide)]
      exact a7 k hk
    · rw [same 27 0 (by decide) (by decide) (by decide) (by decide) (by decide) (by decide) (by decide)]
      exact a8
    · have e28 : vw M3 r 28 = vw M r 28 := funext fun x => same 28 x (by decide) (by decide) (by decide) (by decide) (by decide) (by decide) (by decide)
      have e29 : vw M3 r 29 = vw M r 29 := funext fun x => same 29 x (by decide) (by decide) (by decide) (by decide) (by decide) (by decide) (by decide)
      obtain ⟨p1, p2, p3, p4, p5, p6⟩ := a9 k hk
      refine ⟨by rw [e28]; exact p1, by rw [e28]; exact p2, by rw [e28]; exact p3, by rw [e28]; exact p4, fun e => by rw [e29]; exact p5 e, fun e x hx => by rw [e29]; exact p6 e x hx⟩
    · rw [same 30 0 (by decide) (by decide) (by decide) (by decide) (by decide) (by decide) (by decide)]
      exact a10
    · rw [same 36 a (by decide) (by decide) (by decide) (by decide) (by decide) (by decide) (by decide)]
      exact a11 a ha
