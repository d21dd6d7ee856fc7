/-! ===== a checkpoint keeps what the notes kept ===== -/
theorem fives {S : Sx} {a : Nat} : ∀ (d : Nat) (A : Rp), A.1 8 = a + d → A.1 7 ≤ a + S.V → rpB S A ((List.range' a d).reverse.map (fun i => (5, 0, 0, 0, i))) ∧ ((List.range' a d).reverse.map (fun i => ((5, 0, 0, 0, i) : Nt))).foldl (y_rep S) A = A.u 8 a := by
  intro d
  induction d with
  | zero =>
    intro A h1 _
    have h1' : A.1 8 = a := by omega
    exact ⟨True.intro, (u_eq h1').symm⟩
  | succ d ih =>
    intro A h1 h2
    rw [List.range'_concat, List.reverse_append]
    have e : y_rep S A (5, 0, 0, 0, a + 1 * d) = A.u 8 (a + d) := by
      show A.u 8 (A.1 8 - 1) = A.u 8 (a + d)
      rw [show A.1 8 - 1 = a + d by omega]
    have i := ih (A.u 8 (a + d)) (u_s _ _ _) (by rw [u_n _ _ (by decide)]; exact h2)
    show rpB S A ((5, 0, 0, 0, a + 1 * d) :: _) ∧ List.foldl (y_rep S) (y_rep S A (5, 0, 0, 0, a + 1 * d)) _ = _
    rw [e]
    refine ⟨⟨⟨⟨show 1 ≤ 5 by decide, show 5 ≤ 5 by decide, show 0 < 2 ^ 31 by decide, fun q => (by cases q), fun q => (by cases q), fun _ => ?_⟩, fun q => (by cases q)⟩, ?_⟩, ?_⟩
    · show A.1 8 = a + 1 * d + 1 ∧ A.1 7 ≤ a + 1 * d + S.V
      omega
    · rw [e]; exact i.1
    · rw [show ([] : List Nat).append (List.range' a d).reverse = (List.range' a d).reverse from List.nil_append _, i.2]
      unfold Rp.u
      congr 1
      funext x
      by_cases hx : x = 8
      · subst hx; rw [va_up_self, va_up_self]
      · rw [va_up_ne _ _ hx, va_up_ne _ _ hx]
        exact va_up_ne _ _ hx
theorem ckN_rp {S : Sx} {R Z : Rp} (h87 : R.1 8 ≤ R.1 7) (h78 : R.1 7 ≤ R.1 8 + S.V) (h7 : R.1 7 < 29990) (hA : AcOk R) : rpB S Z (y_ckN R) ∧ E5 ((y_ckN R).foldl (y_rep S) Z) R := by
  have f := fives (S := S) (a := R.1 8) (R.1 7 - R.1 8) (((rst Z (R.1 7)).u 11 0).u 12 0) (show R.1 7 = R.1 8 + (R.1 7 - R.1 8) by omega) (show R.1 7 ≤ R.1 8 + S.V from h78)
  have e4 : y_rep S Z (4, 0, 0, 0, R.1 7) = ((rst Z (R.1 7)).u 11 0).u 12 0 := rfl
  have m4 : rpM S Z (4, 0, 0, 0, R.1 7) := ⟨⟨show 1 ≤ 4 by decide, show 4 ≤ 5 by decide, show 0 < 2 ^ 31 by decide, fun q => (by cases q), fun _ => h7, fun q => (by cases q)⟩, fun q => (by cases q)⟩
  have key : ∀ k : List Nt, rpB S ((((rst Z (R.1 7)).u 11 0).u 12 0).u 8 (R.1 8)) k → rpB S Z ((4, 0, 0, 0, R.1 7) :: ((List.range' (R.1 8) (R.1 7 - R.1 8)).reverse.map (fun i => (5, 0, 0, 0, i)) ++ k)) ∧ ((4, 0, 0, 0, R.1 7) :: ((List.range' (R.1 8) (R.1 7 - R.1 8)).reverse.map (fun i => (5, 0, 0, 0, i)) ++ k)).foldl (y_rep S) Z = k.foldl (y_rep S) ((((rst Z (R.1 7)).u 11 0).u 12 0).u 8 (R.1 8)) := fun k hk => by
    refine ⟨⟨m4, ?_⟩, ?_⟩
    · rw [e4]
      refine (rpB_app _).mpr ⟨f.1, ?_⟩
      rw [f.2]; exact hk
    · rw [List.foldl_cons, e4, List.foldl_append, f.2]
  have m1 : ∀ W : Rp, rpM S W (1, R.1 10, 0, 0, 0) := fun W => ⟨⟨show 1 ≤ 1 by decide, show 1 ≤ 5 by decide, show 0 < 2 ^ 31 by decide, fun q => (by cases q), fun q => (by cases q), fun q => (by cases q)⟩, fun q => (by cases q)⟩
  unfold y_ckN
  by_cases h12 : 0 < R.1 12
  · rw [if_pos h12]
    have m2 : rpM S ((((rst Z (R.1 7)).u 11 0).u 12 0).u 8 (R.1 8)) (2, R.1 11, R.1 7 + 1, R.1 12, 0) := ⟨⟨show 1 ≤ 2 by decide, show 2 ≤ 5 by decide, show R.1 7 + 1 < 2 ^ 31 by omega, fun q => (by cases q), fun q => (by cases q), fun q => (by cases q)⟩, fun q => (by cases q)⟩
    obtain ⟨k1, k2⟩ := key ([(2, R.1 11, R.1 7 + 1, R.1 12, 0)] ++ [(1, R.1 10, 0, 0, 0)]) ((rpB_app _).mpr ⟨⟨m2, True.intro⟩, ⟨m1 _, True.intro⟩⟩)
    refine ⟨k1, ?_⟩
    rw [k2]
    have e2 : y_rep S ((((rst Z (R.1 7)).u 11 0).u 12 0).u 8 (R.1 8)) (2, R.1 11, R.1 7 + 1, R.1 12, 0) = ((((((rst Z (R.1 7)).u 11 0).u 12 0).u 8 (R.1 8)).u 10 (R.1 11)).u 11 (R.1 11)).u 12 (R.1 12) := if_pos rfl
    show E5 (y_rep S (y_rep S _ (2, R.1 11, R.1 7 + 1, R.1 12, 0)) (1, R.1 10, 0, 0, 0)) R
    rw [e2]
    exact ⟨rfl, rfl, rfl, rfl, rfl⟩
  · rw [if_neg h12]
    obtain ⟨k1, k2⟩ := key ([] ++ [(1, R.1 10, 0, 0, 0)]) ((rpB_app []).mpr ⟨True.intro, ⟨m1 _, True.intro⟩⟩)
    refine ⟨k1, ?_⟩
    rw [k2]
    have z12 : R.1 12 = 0 := by omega
    exact ⟨rfl, rfl, rfl, (hA.1 z12).symm, z12.symm⟩
theorem ckN_nt {S : Sx} {R : Rp} (hB : BR S R) (h7 : R.1 7 ≤ S.ll) {n : Nt} (hn : n ∈ y_ckN R) : NtW S n := by
  obtain ⟨b1, b2, b3, b4, b5, b6⟩ := hB
  unfold y_ckN at hn
  rcases List.mem_cons.mp hn with rfl | hn
  · exact ⟨⟨show 1 ≤ 4 by decide, show 4 ≤ 5 by decide, show 0 < 2 ^ 31 by decide, show 0 < 2 ^ 31 by decide, show R.1 7 < 2 ^ 31 by omega⟩, ⟨show 0 < 2 ^ 31 by decide, fun q => (by cases q)⟩, fun q => (by rcases q with q | q <;> cases q), fun _ => h7⟩
  · rcases List.mem_append.mp hn with hn | hn
    · obtain ⟨i, hi, rfl⟩ := List.mem_map.mp hn
      rw [List.mem_reverse, List.mem_range'_1] at hi
      exact ⟨⟨show 1 ≤ 5 by decide, show 5 ≤ 5 by decide, show 0 < 2 ^ 31 by decide, show 0 < 2 ^ 31 by decide, show i < 2 ^ 31 by omega⟩, ⟨show 0 < 2 ^ 31 by decide, fun q => (by cases q)⟩, fun q => (by rcases q with q | q <;> cases q), fun _ => show i ≤ S.ll by omega⟩
    · rcases List.mem_append.mp hn with hn | hn
      · by_cases h12 : 0 < R.1 12
        · rw [if_pos h12] at hn
          rw [List.mem_singleton.mp hn]
          exact ⟨⟨show 1 ≤ 2 by decide, show 2 ≤ 5 by decide, show R.1 11 < 2 ^ 31 by omega, show R.1 7 + 1 < 2 ^ 31 by omega, show 0 < 2 ^ 31 by decide⟩, ⟨show R.1 11 < 2 ^ 31 by omega, fun _ => h12⟩, fun _ => ⟨h12, b6⟩, fun q => (by rcases q with q | q <;> cases q)⟩
        · rw [if_neg h12] at hn; cases hn
      · rw [List.mem_singleton.mp hn]
        exact ⟨⟨show 1 ≤ 1 by decide, show 1 ≤ 5 by decide, show R.1 10 < 2 ^ 31 by omega, show 0 < 2 ^ 31 by decide, show 0 < 2 ^ 31 by decide⟩, ⟨show R.1 10 < 2 ^ 31 by omega, fun q => (by cases q)⟩, fun q => (by rcases q with q | q <;> cases q), fun q => (by rcases q with q | q <;> cases q)⟩
theorem ckp_D {S : Sx} {r : Nat} {R : Rp} (hC : Cx S) (h : DD S R) (hB : BR S R) (h7 : R.1 7 < 29990) (h7l : R.1 7 ≤ S.ll) (hA : AcOk R) :
    ((y_ckp (S.set r R) r).2 = true → ∃ R', (y_ckp (S.set r R) r).1 = S.set r R' ∧ (∀ f, f ≠ 31 → f ≠ 32 → f ≠ 33 → f ≠ 34 → f ≠ 35 → R'.1 f = R.1 f) ∧ R'.2.1 = R.2.1 ∧ R'.1 32 ≤ R.1 32 + 1 ∧ R'.2.2.1.length < 48 ∧ DD S R') ∧
    ((y_ckp (S.set r R) r).2 = false → ∃ R', (y_ckp (S.set r R) r).1 = y_goDown (S.set r R') r ∧ (∀ f, f ≠ 34 → f ≠ 35 → R'.1 f = R.1 f) ∧ R'.2.1 = R.2.1 ∧ DD S R') := by
  by_cases cl : R.2.2.1.length < 48
  · rw [ckp_0 cl]
    exact ⟨fun _ => ⟨R, rfl, fun _ _ _ _ _ _ => rfl, rfl, Nat.le_succ _, cl, h⟩, fun q => by cases q⟩
  have hJ := h.J hC
  have hD := h
  obtain ⟨h1, h2, h3, h4, h5, h6, h7', h8⟩ := h
  have il := im_len hC hB
  have hh := hs_two h7'
  have hF := hJ.2.1
  have hl48 := h6
  obtain ⟨o1, o2, o3, o4⟩ := blk_o ((y_ckN R).flatMap S.rec) (y_hs (1 - R.1 33)) (List.range' (y_fb (1 - R.1 33)) ((((y_ckN R).flatMap S.rec).length + 1) / 512 + 1)) R
  obtain ⟨k, k1, k2, k3, k4⟩ := blk_D ((y_ckN R).flatMap S.rec) (y_hs (1 - R.1 33)) (List.range' (y_fb (1 - R.1 33)) ((((y_ckN R).flatMap S.rec).length + 1) / 512 + 1)) R
  have c1 := ckp_1 (S := S) (r := r) cl
  have c2 := fun R1 => ckp_2 (S := S) (r := r) (R1 := R1) cl
  have hfb := hs_fb (1 - R.1 33)
  generalize hp : y_blk ((y_ckN R).flatMap S.rec) (y_hs (1 - R.1 33)) R (List.range' (y_fb (1 - R.1 33)) ((((y_ckN R).flatMap S.rec).length + 1) / 512 + 1)) = p at o1 o2 o3 o4 k2 k3 k4 c1 c2
  have inr : ∀ b, b ∈ (List.range' (y_fb (1 - R.1 33)) ((((y_ckN R).flatMap S.rec).length + 1) / 512 + 1)).take k → y_fb (1 - R.1 33) ≤ b ∧ b ≤ y_fb (1 - R.1 33) + 4 := fun b hb => by
    have := List.mem_of_mem_take hb
    rw [List.mem_range'_1] at this
    omega
  have d1 := h1.1
  have lo : ∀ a, (a < 1024 ∨ (y_hs (R.1 33) ≤ a ∧ a < y_hs (R.1 33) + R.1 31 + 2)) → p.1.2.2.2 a = R.2.2.2 a := fun a ha => by
    rw [k4, if_neg]
    intro q
    have := inr _ q.1
    rcases hh with ⟨_, w1, w2⟩ | ⟨_, w1, w2⟩ <;> omega
  have same : ∀ X : Rp, (∀ f, f ≠ 34 → f ≠ 35 → X.1 f = R.1 f) → X.2.2.1 = R.2.2.1 → (∀ a, (a < 1024 ∨ (y_hs (R.1 33) ≤ a ∧ a < y_hs (R.1 33) + R.1 31 + 2)) → X.2.2.2 a = R.2.2.2 a) → DuOk X → DD S X := fun X x1 x3 x4 x5 => by
    obtain ⟨_, d2, d3, d4⟩ := h1
    refine ⟨⟨?_, fun j hj => ?_, fun j hj => ?_, ?_⟩, by rw [x1 32 (by decide) (by decide)]; exact h2, by rw [x3]; exact h3, ?_, ?_, by rw [x3]; exact h6, by rw [x1 33 (by decide) (by decide)]; exact h7', x5⟩
    · rw [x1 31 (by decide) (by decide), x3]; exact d1
    · rw [x3] at hj ⊢
      rw [x1 33 (by decide) (by decide), x4 _ (Or.inr ⟨by omega, by omega⟩)]; exact d2 j hj
    · rw [x1 33 (by decide) (by decide), x1 32 (by decide) (by decide), x4 _ (Or.inl (by omega))]; exact d3 j hj
    · rw [x1 32 (by decide) (by decide)]
      rcases d4 with ⟨h', y1, y2, y3⟩ | y
      · exact Or.inl ⟨h', y1, y2, fun j hj => by rw [x4 _ (Or.inl (by omega))]; exact y3 j hj⟩
      · exact Or.inr (by rw [x4 _ (Or.inl (by omega))]; exact y)
    · rw [x3]; exact (rpB_5 (Gw.refl S) _ (z0_5 X R) h4).1
    · unfold y_up0
      rw [x3]
      exact ((rpB_5 (Gw.refl S) _ (z0_5 X R) h4).2.tr h5).tr (E5.f (fun f _ a2 a3 => (x1 f a2 a3).symm))
  by_cases cp : p.2 = true
  · have ep : p = (p.1, true) := Prod.ext rfl cp
    rw [c2 p.1 ep]
    by_cases c35 : p.1.1 35 = 0
    · rw [if_pos c35]
      refine ⟨fun q => (by cases q), fun _ => ⟨_, rfl, fun f a1 a2 => (u_n _ _ a2).trans (o1 f a1 a2), o2, same _ (fun f a1 a2 => (u_n _ _ a2).trans (o1 f a1 a2)) o3 lo (Or.inr (u_s _ _ _))⟩⟩
    · rw [if_neg c35]
      refine ⟨fun _ => ⟨_, rfl, fun f a1 a2 a3 a4 a5 => ?_, o2, ?_, ?_, ?_⟩, fun q => (by cases q)⟩
      · rw [n_1, u_n _ _ a1, u_n _ _ a3, u_n _ _ a2, b1_o a4 a5]; exact o1 f a4 a5
      · rw [n_1, u_n _ _ (by decide), u_n _ _ (by decide), u_s]; exact Nat.le_refl _
      · have := ckN_len hB hC.V
        show (y_ckN R).length < 48
        omega
      · generalize hX : ((((y_b1 (headL (nI (R.1 32 + 1)) (nI (1 - R.1 33))) (512 * ((R.1 32 + 1) % 2)) p.1 ((R.1 32 + 1) % 2)).u 32 (R.1 32 + 1)).u 33 (1 - R.1 33)).u 31 ((y_ckN R).flatMap S.rec).length).n (y_ckN R) = X
        have x31 : X.1 31 = ((y_ckN R).flatMap S.rec).length := by rw [← hX, n_1, u_s]
        have x32 : X.1 32 = R.1 32 + 1 := by rw [← hX, n_1, u_n _ _ (by decide), u_n _ _ (by decide), u_s]
        have x33 : X.1 33 = 1 - R.1 33 := by rw [← hX, n_1, u_n _ _ (by decide), u_s]
        have xn : X.2.2.1 = y_ckN R := by rw [← hX]; rfl
        have xf : ∀ f, f ≠ 31 → f ≠ 32 → f ≠ 33 → f ≠ 34 → f ≠ 35 → X.1 f = R.1 f := fun f a1 a2 a3 a4 a5 => by
          rw [← hX, n_1, u_n _ _ a1, u_n _ _ a3, u_n _ _ a2, b1_o a4 a5]; exact o1 f a4 a5
        have xd : ∀ a, X.2.2.2 a = if max (512 * ((R.1 32 + 1) % 2)) (512 * ((R.1 32 + 1) % 2)) ≤ a ∧ a < 512 * ((R.1 32 + 1) % 2 + 1) then byA (headL (nI (R.1 32 + 1)) (nI (1 - R.1 33))) (a - 512 * ((R.1 32 + 1) % 2)) else p.1.2.2.2 a := fun a => by rw [← hX]; rfl
        have xD : DuOk X := by
          have e35 : X.1 35 = (y_b1 (headL (nI (R.1 32 + 1)) (nI (1 - R.1 33))) (512 * ((R.1 32 + 1) % 2)) p.1 ((R.1 32 + 1) % 2)).1 35 := by rw [← hX, n_1, u_n _ _ (by decide), u_n _ _ (by decide), u_n _ _ (by decide)]
          have := DuOk_b1 (o4 h8) (headL (nI (R.1 32 + 1)) (nI (1 - R.1 33))) (512 * ((R.1 32 + 1) % 2)) ((R.1 32 + 1) % 2)
          unfold DuOk at this ⊢
          rw [e35]; exact this
        clear hX
        have q := ckN_rp (S := S) (R := R) (Z := y_z0 X) hB.2.1 hB.2.2.1 h7 hA
        refine ⟨⟨by rw [x31, xn], fun j hj => ?_, fun j hj => ?_, Or.inl ⟨R.1 33, h7', by omega, fun j hj => ?_⟩⟩, by omega, by rw [xn]; exact fun n hn => ckN_nt hB h7l hn, by rw [xn]; exact q.1, ?_, ?_, by omega, xD⟩
        · rw [xn] at hj ⊢
          rw [x33, xd, if_neg (by rcases hh with ⟨_, w1, w2⟩ | ⟨_, w1, w2⟩ <;> omega), k4]
          have hmem : (y_hs (1 - R.1 33) + j) / 512 ∈ (List.range' (y_fb (1 - R.1 33)) ((((y_ckN R).flatMap S.rec).length + 1) / 512 + 1)).take k := by
            rw [k2 cp, List.take_length, List.mem_range'_1]
            omega
          rw [if_pos ⟨hmem, by omega⟩, show y_hs (1 - R.1 33) + j - y_hs (1 - R.1 33) = j by omega]
        · rw [x32, x33, xd, if_pos (by omega), show 512 * ((R.1 32 + 1) % 2) + j - 512 * ((R.1 32 + 1) % 2) = j by omega]
        · rw [x32, xd, if_neg (by omega), lo _ (Or.inl (by omega))]
          rw [show (R.1 32 + 1 + 1) % 2 = R.1 32 % 2 by omega, show R.1 32 + 1 - 1 = R.1 32 by omega]
          exact h1.2.2.1 j hj
        · unfold y_up0
          rw [xn]
          exact q.2.tr ⟨(xf 7 (by decide) (by decide) (by decide) (by decide) (by decide)).symm, (xf 8 (by decide) (by decide) (by decide) (by decide) (by decide)).symm, (xf 10 (by decide) (by decide) (by decide) (by decide) (by decide)).symm, (xf 11 (by decide) (by decide) (by decide) (by decide) (by decide)).symm, (xf 12 (by decide) (by decide) (by decide) (by decide) (by decide)).symm⟩
        · have := ckN_len hB hC.V
          rw [xn]; omega
  · have cf : p.2 = false := Bool.eq_false_iff.mpr cp
    rw [c1 cf]
    exact ⟨fun q => (by cases q), fun _ => ⟨p.1, rfl, o1, o2, same p.1 o1 o3 lo (o4 h8)⟩⟩
