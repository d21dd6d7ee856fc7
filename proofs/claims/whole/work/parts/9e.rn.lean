/-! ===== the reference comes up: all its notes; going down and up ===== -/
theorem rep_o (S : Sx) (R : Rp) (n : Nt) {f : Nat} (h : f < 7 ∨ 12 < f) : (y_rep S R n).1 f = R.1 f := by
  unfold y_rep
  split
  · exact u_n _ _ (by omega)
  · split
    · rw [u_n _ _ (by omega), u_n _ _ (by omega), u_n _ _ (by omega)]
    · exact u_n _ _ (by omega)
  · rw [u_n _ _ (by omega), u_n _ _ (by omega), u_n _ _ (by omega), u_n _ _ (by omega), u_n _ _ (by omega)]
  · unfold rst
    rw [u_n _ _ (by omega), u_n _ _ (by omega), u_n _ _ (by omega), u_n _ _ (by omega), u_n _ _ (by omega)]
  · exact u_n _ _ (by omega)
  · rfl
theorem reps_o (S : Sx) : ∀ (l : List Nt) (R : Rp), (∀ f, f < 7 ∨ 12 < f → (l.foldl (y_rep S) R).1 f = R.1 f) ∧ (l.foldl (y_rep S) R).2 = R.2 := by
  intro l
  induction l with
  | nil => intro R; exact ⟨fun _ _ => rfl, rfl⟩
  | cons n l ih =>
    intro R
    obtain ⟨a1, a2⟩ := ih (y_rep S R n)
    exact ⟨fun f hf => (a1 f hf).trans (rep_o S R n hf), a2.trans (rep_2 S R n)⟩
theorem drop_c {l : List Nt} {k : Nat} (h : k < l.length) : l.drop k = l.getD k ntD :: l.drop (k + 1) := by
  rw [List.drop_eq_getElem_cons h, List.getD_eq_getElem?_getD, List.getElem?_eq_getElem h]; rfl
theorem q_reps {ρ : Type} {kx : vM → Option ρ} {Q : ρ → Prop} {S : Sx} {r : Nat} {R0 : Rp} (hC : Cx S) (hr : r < 9) (hl : R0.2.2.1.length ≤ 48) : ∀ (d k fl : Nat) (M : vM) (R : Rp), k + d = R0.2.2.1.length → d < fl → R.2 = R0.2 → SfOk S R → rpA S R (R0.2.2.1.drop k) → WM M (S.set r R) → (∀ M', WM M' (S.set r ((R0.2.2.1.drop k).foldl (y_rep S) R)) → tr (kx M') Q) → tr (L_X12_comeUp_112 (nI r) kx fl M (nI k)) Q := by
  have hV1 : 1 ≤ S.V := hC.2.2.1
  have hL1 : 1 ≤ S.L := hC.2.2.2.2.1
  intro d
  induction d with
  | zero =>
    intro k fl M R h1 h2 e hs hp h g
    obtain ⟨fl, rfl⟩ : ∃ f', fl = f' + 1 := ⟨fl - 1, by omega⟩
    have hk : R0.2.2.1.length ≤ k := by omega
    rw [List.drop_eq_nil_of_le hk] at g
    have e30 : M.2 30 r = nI R.2.2.1.length := by
      have := (WM_r h hr).2.2.2.2.2.2.2.2.2.1
      rw [vw_1 rfl] at this; exact this
    rw [L_X12_comeUp_112]
    refine tr_G (show r < 9 from hr) (by omega) ?_
    rw [e30, e, show R0.2.2.1.length = k by omega, if_pos (Int32.le_refl _)]
    exact g M h
  | succ d ih =>
    intro k fl M R h1 h2 e hs hp h g
    obtain ⟨fl, rfl⟩ : ∃ f', fl = f' + 1 := ⟨fl - 1, by omega⟩
    have hk : k < R0.2.2.1.length := by omega
    rw [drop_c hk] at hp g
    obtain ⟨hp1, hp2⟩ := hp
    refine q_rep hC h hr (by rw [e]; exact hk) (by rw [e]; exact hl) (show R.2.2.1.getD k ntD = R0.2.2.1.getD k ntD by rw [e]) hs hp1 fun M' w => ?_
    exact ih (k + 1) fl M' _ (by omega) (by omega) ((rep_2 _ _ _).trans e) (SfOk_rep hV1 hL1 hs hp1) hp2 w g
theorem q_58 {ρ : Type} {kx : vM → Option ρ} {Q : ρ → Prop} {M : vM} {r : Nat} (hr : r < 9) (g : ∀ M', zk r M' M → (∀ j, j ≠ 14 → j ≠ 17 → j ≠ 18 → M'.2 j = M.2 j) → (∀ x, x < 16 → M'.2 14 (16 * (40 * r) + x) = 0) → (∀ x, x < 16 → M'.2 17 (16 * r + x) = 0) → (∀ x, x < 16 → M'.2 18 (16 * r + x) = 0) → tr (kx M') Q) : tr (L_X12_comeUp_58 (nI r) kx fu M 0) Q := by
  refine tr_up0 (g := L_X12_comeUp_58 (nI r) kx) (fun n M' => zk r M' M ∧ (∀ j, j ≠ 14 → j ≠ 17 → j ≠ 18 → M'.2 j = M.2 j) ∧ (∀ x, x < n → M'.2 14 (16 * (40 * r) + x) = 0) ∧ (∀ x, x < n → M'.2 17 (16 * r + x) = 0) ∧ (∀ x, x < n → M'.2 18 (16 * r + x) = 0)) 16 (by decide) (fun f M1 hP => ?_) (fun f k M1 hk1 hP ih => ?_) M ⟨zk.refl, fun _ _ _ _ => rfl, fun x hx => absurd hx (Nat.not_lt_zero _), fun x hx => absurd hx (Nat.not_lt_zero _), fun x hx => absurd hx (Nat.not_lt_zero _)⟩
  · obtain ⟨p1, p2, p3, p4, p5⟩ := hP
    rw [L_X12_comeUp_58, if_pos (show (16 : Int32) ≤ nI 16 from nI_le (Nat.le_refl 16) (by decide))]
    exact g M1 p1 p2 p3 p4 p5
  · obtain ⟨p1, p2, p3, p4, p5⟩ := hP
    rw [L_X12_comeUp_58, if_neg (show ¬ (16 : Int32) ≤ nI k from nI_ge (b := 16) (by omega) (by decide))]
    refine r_at (i := 0) (by decide) ?_
    rw [show (16 : Int32) * nI (40 * r + 0 % 40) = nI (16 * (40 * r)) from nI_mul 16 _, nI_add, show (16 : Int32) * nI r = nI (16 * r) from nI_mul 16 _, nI_add, nI_add1]
    refine tr_S (show _ < 5760 by omega) (by omega) ?_
    refine tr_S (show _ < 144 by omega) (by omega) ?_
    refine tr_S (show _ < 144 by omega) (by omega) ?_
    refine ih _ ⟨((p1.u (show 640 * r ≤ _ by omega) (show _ < 640 * r + 640 by omega)).u (show 16 * r ≤ _ by omega) (show _ < 16 * r + 16 by omega)).u (show 16 * r ≤ _ by omega) (show _ < 16 * r + 16 by omega), fun x x1 x2 x3 => ?_, fun x hx => ?_, fun x hx => ?_, fun x hx => ?_⟩
    · rw [← p2 x x1 x2 x3]
      exact funext fun y => by rw [uE_j _ _ _ x3, uE_j _ _ _ x2, uE_j _ _ _ x1]
    · rw [uE_j _ _ _ (by decide), uE_j _ _ _ (by decide)]
      by_cases e : x = k
      · subst e; rw [uE_s]
      · rw [uE_i _ _ (by omega)]; exact p3 x (by omega)
    · rw [uE_j _ _ _ (by decide)]
      by_cases e : x = k
      · subst e; rw [uE_s]
      · rw [uE_i _ _ (by omega), uE_j _ _ _ (by decide)]; exact p4 x (by omega)
    · by_cases e : x = k
      · subst e; rw [uE_s]
      · rw [uE_i _ _ (by omega), uE_j _ _ _ (by decide), uE_j _ _ _ (by decide)]; exact p5 x (by omega)
theorem r_comeUp {M : vM} {S : Sx} {r : Nat} {R : Rp} (hC : Cx S) (h : WM M (S.set r R)) (hr : r < 9) (hJ : JR R) (hrep : rpA S (y_z0 R) R.2.2.1) (hB : BR S (y_up1 S R)) (hg : R.1 32 < 2 ^ 30) : tr (F_X12_comeUp M (nI r)) (fun M' => WM M' (y_ckp (S.set r (y_up1 S R)) r).1) := by
  have hV1 : 1 ≤ S.V := hC.2.2.1
  have hL1 : 1 ≤ S.L := hC.2.2.2.2.1
  unfold F_X12_comeUp
  refine tr_S (show r < 9 from hr) (by omega) ?_
  refine tr_S (show r < 9 from hr) (by omega) ?_
  refine tr_S (show r < 9 from hr) (by omega) ?_
  refine tr_S (show r < 9 from hr) (by omega) ?_
  refine tr_S (show r < 9 from hr) (by omega) ?_
  refine tr_S (show r < 9 from hr) (by omega) ?_
  refine tr_S (show r < 9 from hr) (by omega) ?_
  refine tr_S (show r < 9 from hr) (by omega) ?_
  have st : ∀ {X : vM} (j : Nat), zk r X M → zs j = 1 → zk r (uE X j r 0) M := fun j z e => z.u (by rw [e]; omega) (by rw [e]; omega)
  have z0 := st 44 (st 43 (st 12 (st 11 (st 10 (st 9 (st 8 (st 7 (zk.refl (r := r) (M := M)) rfl) rfl) rfl) rfl) rfl) rfl) rfl) rfl
  have k0 : ∀ j x, j ≠ 7 → j ≠ 8 → j ≠ 9 → j ≠ 10 → j ≠ 11 → j ≠ 12 → j ≠ 43 → j ≠ 44 → (uE (uE (uE (uE (uE (uE (uE (uE M 7 r 0) 8 r 0) 9 r 0) 10 r 0) 11 r 0) 12 r 0) 43 r 0) 44 r 0).2 j x = M.2 j x := fun j x a b c d e f g h => by rw [uE_j _ _ _ h, uE_j _ _ _ g, uE_j _ _ _ f, uE_j _ _ _ e, uE_j _ _ _ d, uE_j _ _ _ c, uE_j _ _ _ b, uE_j _ _ _ a]
  have v0 : ∀ j, (j = 7 ∨ j = 8 ∨ j = 9 ∨ j = 10 ∨ j = 11 ∨ j = 12 ∨ j = 43 ∨ j = 44) → (uE (uE (uE (uE (uE (uE (uE (uE M 7 r 0) 8 r 0) 9 r 0) 10 r 0) 11 r 0) 12 r 0) 43 r 0) 44 r 0).2 j r = 0 := by
    intro j hj
    have st2 : ∀ {X : vM} (i : Nat), (j = i ∨ X.2 j r = 0) → (uE X i r 0).2 j r = 0 := fun i hx => by
      by_cases e : j = i
      · subst e; exact uE_s _ _ _ _
      · rw [uE_j _ _ _ e]; exact hx.resolve_left e
    rcases hj with e | e | e | e | e | e | e | e
    · exact st2 _ (Or.inr (st2 _ (Or.inr (st2 _ (Or.inr (st2 _ (Or.inr (st2 _ (Or.inr (st2 _ (Or.inr (st2 _ (Or.inr (st2 _ (Or.inl e)))))))))))))))
    · exact st2 _ (Or.inr (st2 _ (Or.inr (st2 _ (Or.inr (st2 _ (Or.inr (st2 _ (Or.inr (st2 _ (Or.inr (st2 _ (Or.inl e)))))))))))))
    · exact st2 _ (Or.inr (st2 _ (Or.inr (st2 _ (Or.inr (st2 _ (Or.inr (st2 _ (Or.inr (st2 _ (Or.inl e)))))))))))
    · exact st2 _ (Or.inr (st2 _ (Or.inr (st2 _ (Or.inr (st2 _ (Or.inr (st2 _ (Or.inl e)))))))))
    · exact st2 _ (Or.inr (st2 _ (Or.inr (st2 _ (Or.inr (st2 _ (Or.inl e)))))))
    · exact st2 _ (Or.inr (st2 _ (Or.inr (st2 _ (Or.inl e)))))
    · exact st2 _ (Or.inr (st2 _ (Or.inl e)))
    · exact st2 _ (Or.inl e)
  generalize uE (uE (uE (uE (uE (uE (uE (uE M 7 r 0) 8 r 0) 9 r 0) 10 r 0) 11 r 0) 12 r 0) 43 r 0) 44 r 0 = M1 at z0 k0 v0 ⊢
  refine q_58 hr fun M2 z2 k2 u14 u17 u18 => ?_
  have zz : zk r M2 M := ⟨by rw [z2.1, z0.1], fun j x hx => by rw [z2.2 j x hx, z0.2 j x hx]⟩
  have w2 : WM M2 (S.set r (y_z0 R)) := by
    refine WM_zk h hr zz ?_
    have hA := WM_r h hr
    have same : ∀ j x, j ≠ 7 → j ≠ 8 → j ≠ 9 → j ≠ 10 → j ≠ 11 → j ≠ 12 → j ≠ 43 → j ≠ 44 → j ≠ 14 → j ≠ 17 → j ≠ 18 → vw M2 r j x = vw M r j x := fun j x a b c d e f g h i1 i2 i3 => by
      unfold vw
      rw [k2 j i1 i2 i3]
      split
      · exact k0 j _ a b c d e f g h
      · rfl
    refine RR_st hA (fun j x hj => same j x (by omega) (by omega) (by omega) (by omega) (by omega) (by omega) (by omega) (by omega) (by omega) (by omega) (by omega)) rfl (fun j hj => ?_) (fun i k b1 b2 b3 => ?_) (fun i b1 b2 b3 => ?_) (fun i b1 b2 => ?_) (fun s hs => ?_) (fun s hs => ?_)
    · have nn : ∀ m, sc m = false → j ≠ m := fun m hm e => by rw [e, hm] at hj; exact absurd hj (by decide)
      by_cases c : j = 7 ∨ j = 8 ∨ j = 9 ∨ j = 10 ∨ j = 11 ∨ j = 12 ∨ j = 43 ∨ j = 44
      · rw [vw_1 (sc_1 hj), k2 j (nn 14 rfl) (nn 17 rfl) (nn 18 rfl), v0 j c]
        rcases c with rfl | rfl | rfl | rfl | rfl | rfl | rfl | rfl <;> rfl
      · rw [same j 0 (by omega) (by omega) (by omega) (by omega) (by omega) (by omega) (by omega) (by omega) (nn 14 rfl) (nn 17 rfl) (nn 18 rfl), hA.1 j hj]
        unfold y_z0
        rw [u_n _ _ (by omega), u_n _ _ (by omega), u_n _ _ (by omega), u_n _ _ (by omega), u_n _ _ (by omega), u_n _ _ (by omega), u_n _ _ (by omega), u_n _ _ (by omega)]
    · have b2' : i ≤ 0 := b2
      obtain rfl : i = 0 := by omega
      rw [vw_a (show _ < 640 by omega), show zs 14 * r + (16 * (0 % 40) + k) = 16 * (40 * r) + k from by show 640 * r + _ = _; omega, u14 k b3]; rfl
    · have b3' : i ≤ 0 := b3
      omega
    · have b2' : i ≤ 0 := b2
      have b1' : 0 < i := b1
      omega
    · rw [vw_a (show _ < 16 from hs)]
      exact (u17 s hs).trans rfl
    · rw [vw_a (show _ < 16 from hs)]
      exact (u18 s hs).trans rfl
  have hsf : SfOk S (y_z0 R) := ⟨Nat.le_refl 0, Nat.zero_le _, Nat.le_refl 0, Nat.zero_le _, (by decide : 0 < 29990)⟩
  refine q_reps (R0 := R) hC hr hJ.2.2.1 R.2.2.1.length 0 fu M2 (y_z0 R) (by omega) (by have := hJ.2.2.1; show _ < 32768; omega) rfl hsf hrep w2 fun M3 w3 => ?_
  have w3' : WM M3 (S.set r (y_up0 S R)) := w3
  obtain ⟨o1, o2⟩ := reps_o S R.2.2.1 (y_z0 R)
  refine tr_Gr w3' hr rfl ?_
  refine tr_Sr _ w3' hr rfl (by decide) (by decide) (by decide) fun M4 w4 => ?_
  refine tr_S (show r < 9 from hr) (by omega) ?_
  have w5 := WM_u (j := 35) (v := y_no) w4 hr rfl (by decide) (by decide) (by decide)
  rw [show nI y_no = (-1 : Int32) from rfl] at w5
  refine tr_Sr 0 w5 hr rfl (by decide) (by decide) (by decide) fun M6 w6 => ?_
  have w6' : WM M6 (S.set r (y_up1 S R)) := w6
  have p31 : (y_up1 S R).1 31 = R.1 31 := (o1 31 (by decide)).trans rfl
  have p33 : (y_up1 S R).1 33 = R.1 33 := (o1 33 (by decide)).trans rfl
  have p32 : (y_up1 S R).1 32 = R.1 32 := (o1 32 (by decide)).trans rfl
  have pn : (y_up1 S R).2.2.1 = R.2.2.1 := congrArg (fun x => x.2.1) o2
  refine tr_b2 (r_ckp hC w6' hr ⟨by rw [p33]; exact hJ.1, by rw [p31, pn]; exact hJ.2.1, by rw [pn]; exact hJ.2.2.1, Or.inr rfl⟩ hB (by rw [p32]; exact hg)) fun M7 v hv => ?_
  exact tr_some hv.2
