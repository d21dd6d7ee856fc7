/-! ===== the reference comes up: it reads its notes again ===== -/
def y_rep (S : Sx) (R : Rp) (n : Nt) : Rp := match n.1 with
  | 1 => R.u 10 n.2.1
  | 2 => if n.2.2.1 = R.1 7 + 1 then ((R.u 10 n.2.1).u 11 n.2.1).u 12 n.2.2.2.1 else R.u 10 n.2.1
  | 3 => ((((R.u 7 (R.1 7 + 1)).u 8 (max (R.1 8) (R.1 7 + 1 - S.V))).u 9 (max (R.1 9) (R.1 7 + 1 - S.L))).u 11 0).u 12 0
  | 4 => ((rst R n.2.2.2.2).u 11 0).u 12 0
  | 5 => R.u 8 (R.1 8 - 1)
  | _ => R
def y_z0 (R : Rp) : Rp := (((((((R.u 7 0).u 8 0).u 9 0).u 10 0).u 11 0).u 12 0).u 43 0).u 44 0
def y_up0 (S : Sx) (R : Rp) : Rp := R.2.2.1.foldl (y_rep S) (y_z0 R)
def y_up1 (S : Sx) (R : Rp) : Rp := (((y_up0 S R).u 25 ((y_up0 S R).1 10)).u 35 y_no).u 13 0
def y_up (S : Sx) (r : Nat) : Sx := (y_ckp (S.set r (y_up1 S ((S.rp r).u 6 1))) r).1
def SfOk (S : Sx) (R : Rp) : Prop := R.1 8 ≤ R.1 7 ∧ R.1 7 ≤ R.1 8 + S.V ∧ R.1 9 ≤ R.1 7 ∧ R.1 7 ≤ R.1 9 + S.L ∧ R.1 7 < 29990
/-- what a note that is read again must keep to -/
def rpN (S : Sx) (R : Rp) (n : Nt) : Prop := 1 ≤ n.1 ∧ n.1 ≤ 5 ∧ n.2.2.1 < 2 ^ 31 ∧ (n.1 = 3 → 0 < n.2.2.2.1 ∧ n.2.2.2.1 < S.1 4 ∧ S.lg (R.1 7 + 1) = n.2.2.2.1 ∧ R.1 7 + 1 < 29990) ∧ (n.1 = 4 → n.2.2.2.2 < 29990) ∧ (n.1 = 5 → R.1 8 = n.2.2.2.2 + 1 ∧ R.1 7 ≤ n.2.2.2.2 + S.V)
def rpA (S : Sx) : Rp → List Nt → Prop
  | _, [] => True
  | R, n :: l => rpN S R n ∧ rpA S (y_rep S R n) l
theorem rep_2 (S : Sx) (R : Rp) (n : Nt) : (y_rep S R n).2 = R.2 := by
  unfold y_rep
  split
  · rfl
  · split <;> rfl
  · rfl
  · rfl
  · rfl
  · rfl
theorem SfOk_rep {S : Sx} {R : Rp} {n : Nt} (hV : 1 ≤ S.V) (hL : 1 ≤ S.L) (h : SfOk S R) (g : rpN S R n) : SfOk S (y_rep S R n) := by
  obtain ⟨h1, h2, h3, h4, h5⟩ := h
  obtain ⟨g0, g1, gs, g3, g4, g5⟩ := g
  obtain ⟨n1, n2, n3, n4, n5⟩ := n
  dsimp only at g0 g1 g3 g4 g5
  have hk : n1 = 1 ∨ n1 = 2 ∨ n1 = 3 ∨ n1 = 4 ∨ n1 = 5 := by omega
  rcases hk with rfl | rfl | rfl | rfl | rfl
  · exact ⟨h1, h2, h3, h4, h5⟩
  · show SfOk S (if n3 = R.1 7 + 1 then ((R.u 10 n2).u 11 n2).u 12 n4 else R.u 10 n2)
    split
    · exact ⟨h1, h2, h3, h4, h5⟩
    · exact ⟨h1, h2, h3, h4, h5⟩
  · obtain ⟨_, _, _, q⟩ := g3 rfl
    show max (R.1 8) (R.1 7 + 1 - S.V) ≤ R.1 7 + 1 ∧ R.1 7 + 1 ≤ max (R.1 8) (R.1 7 + 1 - S.V) + S.V ∧ max (R.1 9) (R.1 7 + 1 - S.L) ≤ R.1 7 + 1 ∧ R.1 7 + 1 ≤ max (R.1 9) (R.1 7 + 1 - S.L) + S.L ∧ R.1 7 + 1 < 29990
    omega
  · have q := g4 rfl
    show n5 ≤ n5 ∧ n5 ≤ n5 + S.V ∧ n5 ≤ n5 ∧ n5 ≤ n5 + S.L ∧ n5 < 29990
    omega
  · obtain ⟨q1, q2⟩ := g5 rfl
    show R.1 8 - 1 ≤ R.1 7 ∧ R.1 7 ≤ R.1 8 - 1 + S.V ∧ R.1 9 ≤ R.1 7 ∧ R.1 7 ≤ R.1 9 + S.L ∧ R.1 7 < 29990
    omega
theorem RR_st {V : Nat} {st : Nat → Sta} {lg : Nat → Nat} {w w' : Nat → Nat → Int32} {R R' : Rp} (h : RR V st lg w R) (e : ∀ j x, (j = 26 ∨ j = 27 ∨ j = 28 ∨ j = 29 ∨ j = 30 ∨ j = 36) → w' j x = w j x) (er : R'.2 = R.2) (s1 : ∀ j, sc j = true → w' j 0 = nI (R'.1 j)) (s2 : ∀ i k, R'.1 8 ≤ i → i ≤ R'.1 7 → k < 16 → w' 14 (16 * (i % 40) + k) = (st i).1 k) (s3 : ∀ i, 1 ≤ i → R'.1 7 < i + V → i ≤ R'.1 7 → w' 15 (i % 40) = (st i).2.2.2 i) (s4 : ∀ i, R'.1 9 < i → i ≤ R'.1 7 → w' 16 (i % 40) = nI (lg i)) (s5 : ∀ s, s < 16 → w' 17 s = nI ((st (R'.1 7)).2.1 s)) (s6 : ∀ s, s < 16 → w' 18 s = nI ((st (R'.1 7)).2.2.1 s)) : RR V st lg w' R' := by
  obtain ⟨a1, a2, a3, a4, a5, a6, a7, a8, a9, a10, a11⟩ := h
  refine ⟨s1, s2, s3, s4, s5, s6, ?_, ?_, ?_, ?_, ?_⟩
  · rw [er]; intro k hk; rw [e 26 k (by omega)]; exact a7 k hk
  · rw [er, e 27 0 (by omega)]; exact a8
  · rw [er]
    intro k hk
    have e28 : w' 28 = w 28 := funext fun x => e 28 x (by omega)
    have e29 : w' 29 = w 29 := funext fun x => e 29 x (by omega)
    obtain ⟨p1, p2, p3, p4, p5, p6⟩ := a9 k hk
    refine ⟨by rw [e28]; exact p1, by rw [e28]; exact p2, by rw [e28]; exact p3, by rw [e28]; exact p4, fun e => by rw [e29]; exact p5 e, fun e x hx => by rw [e29]; exact p6 e x hx⟩
  · rw [er, e 30 0 (by omega)]; exact a10
  · rw [er]; intro a ha; rw [e 36 a (by omega)]; exact a11 a ha
/-- older values are read again -/
theorem r_older {ρ : Type} {kx : vM → Option ρ} {Q : ρ → Prop} {M : vM} {S : Sx} {r k i : Nat} {l2 : Int32} {R : Rp} {n : Nt} (hC : Cx S) (h : WM M (S.set r R)) (hr : r < 9) (hk : k < R.2.2.1.length) (hl : R.2.2.1.length ≤ 48) (hn : R.2.2.1.getD k ntD = n) (h5 : n.1 = 5) (hi : n.2.2.2.2 = i) (h8 : R.1 8 = i + 1) (h7 : R.1 7 ≤ i + S.V) (h7' : R.1 7 < 29990) (h87 : R.1 8 ≤ R.1 7) (g : ∀ M', WM M' (S.set r (R.u 8 (R.1 8 - 1))) → tr (kx M') Q) : tr ((mG M 8 (nI r)).bind fun v43 => (mS M 8 (nI r) (v43 - (1 : Int32))).bind fun M44 => L_X12_comeUp_286 (nI r) l2 (nI (64 * r + k)) kx fu M44 0) Q := by
  have hV := hC.V
  have h29 : ∀ x, x < 16 → M.2 29 (6400 * r + (100 * k + x)) = (S.sta i).1 x := fun x hx => by
    obtain ⟨p1, p2, p3, p4, p5, p6⟩ := (WM_r h hr).2.2.2.2.2.2.2.2.1 k hk
    rw [hn] at p6
    have := p6 h5 x hx
    rw [vw_a (show _ < 6400 by omega), hi] at this
    exact this
  refine tr_Gr h hr rfl ?_
  rw [h8, show nI (i + 1) - (1 : Int32) = nI i from by rw [← nI_add1]; exact Int32.add_sub_cancel _ _]
  refine tr_S (show r < 9 from hr) (by omega) ?_
  rw [h8] at g
  refine tr_up0 (g := L_X12_comeUp_286 (nI r) l2 (nI (64 * r + k)) kx) (fun n M' => zk r M' M ∧ (∀ j, j ≠ 8 → j ≠ 14 → M'.2 j = M.2 j) ∧ M'.2 8 r = nI i ∧ (∀ x, (x < 16 * (40 * r + i % 40) ∨ 16 * (40 * r + i % 40) + 16 ≤ x) → M'.2 14 x = M.2 14 x) ∧ ∀ x, x < n → M'.2 14 (16 * (40 * r + i % 40) + x) = (S.sta i).1 x) 16 (by decide) (fun f M1 hP => ?_) (fun f k' M1 hk1 hP ih => ?_) _ ⟨zk.refl.u (show 1 * r ≤ r by omega) (show r < 1 * r + 1 by omega), fun j hj _ => funext fun y => uE_j _ _ _ hj, uE_s _ _ _ _, fun x _ => uE_j _ _ _ (by decide), fun x hx => absurd hx (Nat.not_lt_zero _)⟩
  · obtain ⟨p1, p2, p3, p4, p5⟩ := hP
    rw [L_X12_comeUp_286, if_pos (show (16 : Int32) ≤ nI 16 from nI_le (Nat.le_refl 16) (by decide))]
    refine g M1 (WM_zk h hr p1 ?_)
    have hA := WM_r h hr
    obtain ⟨a1, a2, a3, a4, a5, a6, _⟩ := hA
    have same : ∀ j x, j ≠ 8 → j ≠ 14 → vw M1 r j x = vw M r j x := fun j x q1 q2 => by
      unfold vw
      rw [p2 j q1 q2]
    refine RR_st (WM_r h hr) (fun j x hj => same j x (by omega) (by omega)) rfl (fun j hj => ?_) (fun x k b1 b2 b3 => ?_) (fun x b1 b2 b3 => ?_) (fun x b1 b2 => ?_) (fun s hs => ?_) (fun s hs => ?_)
    · by_cases q8 : j = 8
      · subst q8; rw [vw_1 rfl, p3]; rfl
      · have : j ≠ 14 := fun e => by rw [e] at hj; exact absurd hj (by decide)
        rw [same j 0 q8 this, a1 j hj, u_n _ _ q8]
    · have b1' : i + 1 - 1 ≤ x := b1
      have b2' : x ≤ R.1 7 := b2
      rw [vw_a (show _ < 640 by omega), show zs 14 * r + (16 * (x % 40) + k) = 16 * (40 * r + x % 40) + k from by show 640 * r + _ = _; omega]
      by_cases e : x = i
      · subst e; exact p5 k b3
      · rw [p4 _ (by omega)]
        exact WM_h h hr (by omega) b2' b3
    · rw [same 15 _ (by decide) (by decide)]; exact a3 x b1 b2 b3
    · rw [same 16 _ (by decide) (by decide)]; exact a4 x b1 b2
    · rw [same 17 _ (by decide) (by decide)]; exact a5 s hs
    · rw [same 18 _ (by decide) (by decide)]; exact a6 s hs
  · obtain ⟨p1, p2, p3, p4, p5⟩ := hP
    rw [L_X12_comeUp_286, if_neg (show ¬ (16 : Int32) ≤ nI k' from nI_ge (b := 16) (by omega) (by decide))]
    refine tr_G (show r < 9 from hr) (by omega) ?_
    rw [p3]
    refine r_at (by omega) ?_
    rw [show (100 : Int32) * nI (64 * r + k) = nI (100 * (64 * r + k)) from nI_mul 100 _, nI_add, show (16 : Int32) * nI (40 * r + i % 40) = nI (16 * (40 * r + i % 40)) from nI_mul 16 _, nI_add, nI_add1, show 100 * (64 * r + k) + k' = 6400 * r + (100 * k + k') by omega]
    refine tr_G (show _ < 57600 by omega) (by omega) ?_
    rw [p2 29 (by decide) (by decide), h29 k' hk1]
    refine tr_S (show _ < 5760 by omega) (by omega) ?_
    refine ih _ ⟨p1.u (show 640 * r ≤ _ by omega) (show _ < 640 * r + 640 by omega), fun j q1 q2 => ?_, ?_, fun x hx => ?_, fun x hx => ?_⟩
    · rw [← p2 j q1 q2]; exact funext fun y => uE_j _ _ _ q2
    · rw [uE_j _ _ _ (by decide)]; exact p3
    · rw [uE_i _ _ (by omega)]; exact p4 x hx
    · by_cases e : x = k'
      · subst e; rw [uE_s]
      · rw [uE_i _ _ (by omega)]; exact p5 x (by omega)
/-- one note is read again -/
theorem q_rep {ρ : Type} {kx : vM → Option ρ} {Q : ρ → Prop} {M : vM} {S : Sx} {r k f : Nat} {R : Rp} {n : Nt} (hC : Cx S) (h : WM M (S.set r R)) (hr : r < 9) (hk : k < R.2.2.1.length) (hl : R.2.2.1.length ≤ 48) (hn : R.2.2.1.getD k ntD = n) (hs : SfOk S R) (hp : rpN S R n) (g : ∀ M', WM M' (S.set r (y_rep S R n)) → tr (L_X12_comeUp_112 (nI r) kx f M' (nI (k + 1))) Q) : tr (L_X12_comeUp_112 (nI r) kx (f + 1) M (nI k)) Q := by
  obtain ⟨s1, s2, s3, s4, s5⟩ := hs
  obtain ⟨g0, g1, gs, g3, g4, g5⟩ := hp
  obtain ⟨p1, p2, p3, p4, p5, p6⟩ := (WM_r h hr).2.2.2.2.2.2.2.2.1 k hk
  rw [hn] at p1 p2 p3 p4 p5 p6
  have i28 : ∀ x, x < 4 → vw M r 28 (4 * k + x) = M.2 28 (4 * (64 * r + k) + x) := fun x hx => by
    rw [vw_a (show _ < 256 by omega)]
    exact congrArg (M.2 28) (by show 256 * r + _ = _; omega)
  have q0 : M.2 28 (4 * (64 * r + k)) = nI n.1 := (i28 0 (by decide)).symm.trans p1
  have q1 : M.2 28 (4 * (64 * r + k) + 1) = nI n.2.1 := (i28 1 (by decide)).symm.trans p2
  have q2 : M.2 28 (4 * (64 * r + k) + 2) = nI n.2.2.1 := (i28 2 (by decide)).symm.trans p3
  have q3 : M.2 28 (4 * (64 * r + k) + 3) = nI n.2.2.2.1 := (i28 3 (by decide)).symm.trans p4
  have e30 : M.2 30 r = nI R.2.2.1.length := by
    have := (WM_r h hr).2.2.2.2.2.2.2.2.2.1
    rw [vw_1 rfl] at this; exact this
  rw [L_X12_comeUp_112]
  refine tr_G (show r < 9 from hr) (by omega) ?_
  rw [e30, if_neg (nI_ge hk (by omega)), show (64 : Int32) * nI r = nI (64 * r) from nI_mul 64 r, nI_add, show (4 : Int32) * nI (64 * r + k) = nI (4 * (64 * r + k)) from nI_mul 4 _, show nI (4 * (64 * r + k)) + (1 : Int32) = nI (4 * (64 * r + k) + 1) from nI_add _ 1, show nI (4 * (64 * r + k)) + (2 : Int32) = nI (4 * (64 * r + k) + 2) from nI_add _ 2, show nI (4 * (64 * r + k)) + (3 : Int32) = nI (4 * (64 * r + k) + 3) from nI_add _ 3, show (100 : Int32) * nI (64 * r + k) = nI (100 * (64 * r + k)) from nI_mul 100 _, nI_add1]
  refine tr_G (show _ < 2304 by omega) (by omega) ?_
  rw [q0]
  obtain ⟨n1, n2, n3, n4, n5⟩ := n
  dsimp only at g0 g1 gs g3 g4 g5 q1 q2 q3 p5 p6
  show tr (jn _ fun k161_18 => if (3 : Int32) ≤ nI n1 then _ else _) Q
  have hk5 : n1 = 1 ∨ n1 = 2 ∨ n1 = 3 ∨ n1 = 4 ∨ n1 = 5 := by omega
  rcases hk5 with rfl | rfl | rfl | rfl | rfl
  · refine tr_jnK (fun M' => WM M' (S.set r (R.u 10 n2))) (fun M1 w1 => ?_) (fun kk hkk => ?_)
    · refine tr_jn ?_
      rw [if_neg (show ¬ nI 1 = (2 : Int32) by decide)]
      refine tr_jn ?_
      rw [if_neg (show ¬ nI 1 = (3 : Int32) by decide)]
      refine tr_jn ?_
      rw [if_neg (show ¬ nI 1 = (4 : Int32) by decide)]
      dsimp only
      rw [if_neg (show ¬ nI 1 = (5 : Int32) by decide)]
      exact g _ w1
    · rw [if_neg (show ¬ (3 : Int32) ≤ nI 1 by decide)]
      refine tr_G (show _ < 2304 by omega) (by omega) ?_
      rw [q1]
      exact tr_Sr _ h hr rfl (by decide) (by decide) (by decide) fun M2 w2 => hkk _ w2
  · refine tr_jnK (fun M' => WM M' (S.set r (R.u 10 n2)) ∧ M'.2 28 = M.2 28) (fun M1 w1 => ?_) (fun kk hkk => ?_)
    · obtain ⟨w1, k28⟩ := w1
      refine tr_jnK (fun M' => WM M' (S.set r (y_rep S R (2, n2, n3, n4, n5)))) (fun M2 w2 => ?_) (fun kk hkk => ?_)
      · refine tr_jn ?_
        rw [if_neg (show ¬ nI 2 = (3 : Int32) by decide)]
        refine tr_jn ?_
        rw [if_neg (show ¬ nI 2 = (4 : Int32) by decide)]
        dsimp only
        rw [if_neg (show ¬ nI 2 = (5 : Int32) by decide)]
        exact g _ w2
      · rw [if_pos (show nI 2 = (2 : Int32) from rfl)]
        refine tr_G (show _ < 2304 by omega) (by omega) ?_
        rw [k28, q2]
        refine tr_Gr w1 hr rfl ?_
        rw [nI_add1, show (R.u 10 n2).1 7 = R.1 7 from rfl]
        refine tr_eq (by omega) (by omega) (fun c => ?_) (fun c => ?_)
        · refine tr_G (show _ < 2304 by omega) (by omega) ?_
          refine tr_G (show _ < 2304 by omega) (by omega) ?_
          rw [k28, q1, q3]
          refine tr_bind (r_accept w1 hr) fun M3 w3 => hkk _ ?_
          rw [show y_rep S R (2, n2, n3, n4, n5) = ((R.u 10 n2).u 11 n2).u 12 n4 from if_pos c]
          exact w3
        · refine hkk _ ?_
          rw [show y_rep S R (2, n2, n3, n4, n5) = R.u 10 n2 from if_neg c]
          exact w1
    · rw [if_neg (show ¬ (3 : Int32) ≤ nI 2 by decide)]
      refine tr_G (show _ < 2304 by omega) (by omega) ?_
      rw [q1]
      refine tr_S (show r < 9 from hr) (by omega) ?_
      exact hkk _ ⟨WM_u h hr rfl (by decide) (by decide) (by decide), funext fun y => uE_j _ _ _ (by decide)⟩
  · obtain ⟨u1, u2, u3, u4⟩ := g3 rfl
    refine tr_jn ?_
    rw [if_pos (show (3 : Int32) ≤ nI 3 by decide)]
    refine tr_jn ?_
    rw [if_neg (show ¬ nI 3 = (2 : Int32) by decide)]
    refine tr_jnK (fun M' => WM M' (S.set r (y_rep S R (3, n2, n3, n4, n5)))) (fun M2 w2 => ?_) (fun kk hkk => ?_)
    · refine tr_jn ?_
      rw [if_neg (show ¬ nI 3 = (4 : Int32) by decide)]
      dsimp only
      rw [if_neg (show ¬ nI 3 = (5 : Int32) by decide)]
      exact g _ w2
    · rw [if_pos (show nI 3 = (3 : Int32) from rfl)]
      refine tr_G (show _ < 2304 by omega) (by omega) ?_
      rw [q3]
      refine tr_bind (r_apply hC h hr u1 u2 (by omega) u3 s1 s2 s3 s4) fun M3 w3 => ?_
      exact tr_bind (r_accept (b := 0) (q := 0) w3 hr) fun M4 w4 => hkk _ w4
  · have u4 := g4 rfl
    refine tr_jn ?_
    rw [if_pos (show (3 : Int32) ≤ nI 4 by decide)]
    refine tr_jn ?_
    rw [if_neg (show ¬ nI 4 = (2 : Int32) by decide)]
    refine tr_jn ?_
    rw [if_neg (show ¬ nI 4 = (3 : Int32) by decide)]
    refine tr_jnK (fun M' => WM M' (S.set r (y_rep S R (4, n2, n3, n4, n5)))) (fun M2 w2 => ?_) (fun kk hkk => ?_)
    · rw [if_neg (show ¬ nI 4 = (5 : Int32) by decide)]
      exact g _ w2
    · rw [if_pos (show nI 4 = (4 : Int32) from rfl)]
      have im : imA (M.2 29) (100 * (64 * r + k)) S.V (S.sta n5) n5 := by
        have hV := hC.V
        obtain ⟨i1, i2, i3, i4, i5⟩ := p5 rfl
        have rd : ∀ x, x < 100 → vw M r 29 (100 * k + x) = M.2 29 (100 * (64 * r + k) + x) := fun x hx => by
          rw [vw_a (show _ < 6400 by omega)]
          exact congrArg (M.2 29) (by show 6400 * r + _ = _; omega)
        refine ⟨(rd 0 (by decide)).symm.trans i1, fun y hy => ?_, fun y hy => ?_, fun y hy => ?_, fun y hy => ?_⟩
        · rw [Nat.add_assoc, ← rd (1 + y) (by omega), ← Nat.add_assoc]; exact i2 y hy
        · rw [Nat.add_assoc, ← rd (17 + y) (by omega), ← Nat.add_assoc]; exact i3 y hy
        · rw [Nat.add_assoc, ← rd (33 + y) (by omega), ← Nat.add_assoc]; exact i4 y hy
        · rw [Nat.add_assoc, ← rd (49 + y) (by omega), ← Nat.add_assoc]; exact i5 y hy
      refine tr_bind (r_restore (j := 29) hC h hr (Or.inr rfl) (show _ ≤ 57600 by omega) (by omega) im) fun M3 h3 => ?_
      exact tr_bind (r_accept (b := 0) (q := 0) h3.2.2 hr) fun M4 w4 => hkk _ w4
  · obtain ⟨u1, u2⟩ := g5 rfl
    refine tr_jn ?_
    rw [if_pos (show (3 : Int32) ≤ nI 5 by decide)]
    refine tr_jn ?_
    rw [if_neg (show ¬ nI 5 = (2 : Int32) by decide)]
    refine tr_jn ?_
    rw [if_neg (show ¬ nI 5 = (3 : Int32) by decide)]
    refine tr_jn ?_
    rw [if_neg (show ¬ nI 5 = (4 : Int32) by decide)]
    dsimp only
    rw [if_pos (show nI 5 = (5 : Int32) from rfl)]
    exact r_older hC h hr hk hl hn rfl rfl u1 u2 s5 s1 fun M' w => g M' w
