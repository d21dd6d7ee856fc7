/-! ===== loops; the reference lays a state aside ===== -/
theorem tr_up {σ ρ : Type} {g : Nat → σ → Int32 → Option ρ} {Q : ρ → Prop} (P : Nat → σ → Prop) (n : Nat) (hexit : ∀ f M, P n M → tr (g (f + 1) M (nI n)) Q) (hstep : ∀ f k M, k < n → P k M → (∀ M', P (k + 1) M' → tr (g f M' (nI (k + 1))) Q) → tr (g (f + 1) M (nI k)) Q) : ∀ (d k f : Nat) (M : σ), k + d = n → d < f → P k M → tr (g f M (nI k)) Q := by
  intro d
  induction d with
  | zero =>
    intro k f M h1 h2 h
    obtain ⟨f, rfl⟩ : ∃ f', f = f' + 1 := ⟨f - 1, by omega⟩
    obtain rfl : k = n := by omega
    exact hexit f M h
  | succ d ih =>
    intro k f M h1 h2 h
    obtain ⟨f, rfl⟩ : ∃ f', f = f' + 1 := ⟨f - 1, by omega⟩
    exact hstep f k M (by omega) h fun M' h' => ih (k + 1) f M' (by omega) (by omega) h'
theorem tr_up0 {σ ρ : Type} {g : Nat → σ → Int32 → Option ρ} {Q : ρ → Prop} (P : Nat → σ → Prop) (n : Nat) (hn : n < 32768) (hexit : ∀ f M, P n M → tr (g (f + 1) M (nI n)) Q) (hstep : ∀ f k M, k < n → P k M → (∀ M', P (k + 1) M' → tr (g f M' (nI (k + 1))) Q) → tr (g (f + 1) M (nI k)) Q) (M : σ) (h : P 0 M) : tr (g fu M 0) Q := by
  have := tr_up P n hexit hstep n 0 fu M (by omega) hn h
  rw [nI_0] at this
  exact this
/-- from t - 1 down to s -/
theorem tr_down {σ ρ : Type} {g : Nat → σ → Int32 → Option ρ} {Q : ρ → Prop} (P : Nat → σ → Prop) (s : Nat) (hexit : ∀ f M, P s M → tr (g (f + 1) M (nI s - 1)) Q) (hstep : ∀ f k M, s ≤ k → P (k + 1) M → (∀ M', P k M' → tr (g f M' (nI k - 1)) Q) → tr (g (f + 1) M (nI k)) Q) : ∀ (d t f : Nat) (M : σ), s + d = t → d < f → P t M → tr (g f M (nI t - 1)) Q := by
  intro d
  induction d with
  | zero =>
    intro t f M h1 h2 h
    obtain ⟨f, rfl⟩ : ∃ f', f = f' + 1 := ⟨f - 1, by omega⟩
    obtain rfl : t = s := by omega
    exact hexit f M h
  | succ d ih =>
    intro t f M h1 h2 h
    obtain ⟨f, rfl⟩ : ∃ f', f = f' + 1 := ⟨f - 1, by omega⟩
    obtain ⟨t, rfl⟩ : ∃ t', t = t' + 1 := ⟨t - 1, by omega⟩
    rw [nI_p1]
    exact hstep f t M (by omega) h fun M' h' => ih t f M' (by omega) (by omega) h'
theorem ms_st {V : Nat} {tb : Nat → Rq} {g : Nat → Nat} {i : Nat} : ∀ n, i ≤ n → (stN V tb g n).2.2.2 i = (stN V tb g i).2.2.2 i := by
  intro n
  induction n with
  | zero => intro h; rw [show i = 0 by omega]
  | succ n ih =>
    intro h
    by_cases e : i = n + 1
    · rw [e]
    · exact (va_up_ne _ _ e).trans (ih (by omega))
theorem r_at {ρ : Type} {M : vM} {r i : Nat} {f : vM → Int32 → Option ρ} {Q : ρ → Prop} (hi : i < 2 ^ 31) (g : tr (f M (nI (40 * r + i % 40))) Q) : tr (b2 (F_X12_at M (nI r) (nI i)) f) Q := by
  unfold F_X12_at
  rw [b2_, show (40 : Int32) * nI r = nI (40 * r) from nI_mul 40 r, show nI i - nI i / (40 : Int32) * (40 : Int32) = nI (i % 40) from nI_rem (b := 40) hi (by decide), nI_add]
  exact g
theorem WM_h {M : vM} {S : Sx} {r i k : Nat} {R : Rp} (h : WM M (S.set r R)) (hr : r < 9) (h1 : R.1 8 ≤ i) (h2 : i ≤ R.1 7) (hk : k < 16) : M.2 14 (16 * (40 * r + i % 40) + k) = (S.sta i).1 k := by
  have := (WM_r h hr).2.1 i k h1 h2 hk
  rw [vw_a (show _ < 640 by omega)] at this
  rw [← this]
  exact congrArg (M.2 14) (by show _ = 640 * r + _; omega)
theorem WM_m {M : vM} {S : Sx} {r i : Nat} {R : Rp} (h : WM M (S.set r R)) (hr : r < 9) (h1 : 1 ≤ i) (h2 : R.1 7 < i + S.V) (h3 : i ≤ R.1 7) : M.2 15 (40 * r + i % 40) = (S.sta i).2.2.2 i := by
  have := (WM_r h hr).2.2.1 i h1 h2 h3
  rw [vw_a (show _ < 40 by omega)] at this
  exact this
theorem WM_sl' {M : vM} {S : Sx} {r i : Nat} {R : Rp} (h : WM M (S.set r R)) (hr : r < 9) (h2 : R.1 9 < i) (h3 : i ≤ R.1 7) : M.2 16 (40 * r + i % 40) = nI (S.lg i) := by
  have := (WM_r h hr).2.2.2.1 i h2 h3
  rw [vw_a (show _ < 40 by omega)] at this
  exact this
theorem WM_sq {M : vM} {S : Sx} {r s : Nat} {R : Rp} (h : WM M (S.set r R)) (hr : r < 9) (hs : s < 16) : M.2 17 (16 * r + s) = nI ((S.sta (R.1 7)).2.1 s) := by
  have := (WM_r h hr).2.2.2.2.1 s hs
  rw [vw_a (show _ < 16 by omega)] at this
  exact this
theorem WM_vd {M : vM} {S : Sx} {r s : Nat} {R : Rp} (h : WM M (S.set r R)) (hr : r < 9) (hs : s < 16) : M.2 18 (16 * r + s) = nI ((S.sta (R.1 7)).2.2.1 s) := by
  have := (WM_r h hr).2.2.2.2.2.1 s hs
  rw [vw_a (show _ < 16 by omega)] at this
  exact this
theorem r_store {M : vM} {S : Sx} {r j a : Nat} {R : Rp} (h : WM M (S.set r R)) (hr : r < 9) (hC : Cx S) (hj : zs j = 0) (hk : mKd j = 21) (ha : a + 66 ≤ mL j) (hL : mL j < 2 ^ 31) (hix : R.1 7 < 2 ^ 30) (hz : R.1 8 ≤ R.1 7) : tr (F_X12_store M (nI r) j (nI a)) (fun M' => M'.1 = M.1 ∧ (∀ k, k ≠ j → M'.2 k = M.2 k) ∧ (∀ x, x < a ∨ a + 66 ≤ x → M'.2 j x = M.2 j x) ∧ imA (M'.2 j) a S.V (S.sta (R.1 7)) (R.1 7)) := by
  have nz : ∀ k, zs k ≠ 0 → k ≠ j := fun k hk e => hk (by rw [e]; exact hj)
  have hV := hC.V
  unfold F_X12_store
  refine tr_Gr h hr rfl ?_
  refine tr_gd hk ?_
  refine tr_S (by omega) (by omega) ?_
  refine tr_up0 (g := L_X12_store_12 (nI r) j (nI a) (fun (M17 : vM) => L_X12_store_99 (nI r) j (nI a) (fun (M32 : vM) => some M32) fu M17 ((0 : Int32)))) (fun k M' => M'.1 = M.1 ∧ (∀ x, x ≠ j → M'.2 x = M.2 x) ∧ (∀ x, x < a ∨ a + 66 ≤ x → M'.2 j x = M.2 j x) ∧ M'.2 j a = nI (R.1 7) ∧ (∀ x, x < k → M'.2 j (a + 1 + x) = (S.sta (R.1 7)).1 x) ∧ (∀ x, x < k → M'.2 j (a + 17 + x) = nI ((S.sta (R.1 7)).2.1 x)) ∧ (∀ x, x < k → M'.2 j (a + 33 + x) = nI ((S.sta (R.1 7)).2.2.1 x))) 16 (by decide) (fun f M1 hP => ?_) (fun f k M1 hk1 hP ih => ?_) _ ?_
  · rw [L_X12_store_12, if_pos (show (16 : Int32) ≤ nI 16 from nI_le (Nat.le_refl 16) (by decide))]
    obtain ⟨p1, p2, p3, p4, p5, p6, p7⟩ := hP
    refine tr_up0 (g := L_X12_store_99 (nI r) j (nI a) (fun (M32 : vM) => some M32)) (fun k M' => M'.1 = M.1 ∧ (∀ x, x ≠ j → M'.2 x = M.2 x) ∧ (∀ x, x < a ∨ a + 66 ≤ x → M'.2 j x = M.2 j x) ∧ (∀ x, x < a + 49 → M'.2 j x = M1.2 j x) ∧ (∀ v, v < k → v < S.V → M'.2 j (a + 49 + v) = y_wn (S.sta (R.1 7)) (R.1 7) v)) 17 (by decide) (fun f M2 hP => ?_) (fun f k M2 hk2 hP ih => ?_) _ ?_
    · obtain ⟨q1, q2, q3, q4, q5⟩ := hP
      rw [L_X12_store_99, if_pos (show (17 : Int32) ≤ nI 17 from nI_le (Nat.le_refl 17) (by decide))]
      refine tr_some ⟨q1, q2, q3, ?_, fun k hk => ?_, fun k hk => ?_, fun k hk => ?_, fun v hv => q5 v (by omega) hv⟩
      · rw [q4 _ (by omega)]; exact p4
      · rw [q4 _ (by omega)]; exact p5 k hk
      · rw [q4 _ (by omega)]; exact p6 k hk
      · rw [q4 _ (by omega)]; exact p7 k hk
    · obtain ⟨q1, q2, q3, q4, q5⟩ := hP
      have e7 : M2.2 7 r = nI (R.1 7) := by rw [q2 7 (nz 7 (by decide))]; exact WM_g h hr rfl
      have fin : ∀ v : Int32, (k < S.V → v = y_wn (S.sta (R.1 7)) (R.1 7) k) → tr ((mS M2 j (nI a + (49 : Int32) + nI k) v).bind fun M20 => L_X12_store_99 (nI r) j (nI a) (fun (M32 : vM) => some M32) f M20 (nI k + 1)) (fun M' => M'.1 = M.1 ∧ (∀ k, k ≠ j → M'.2 k = M.2 k) ∧ (∀ x, x < a ∨ a + 66 ≤ x → M'.2 j x = M.2 j x) ∧ imA (M'.2 j) a S.V (S.sta (R.1 7)) (R.1 7)) := by
        intro v hv
        rw [show nI a + (49 : Int32) = nI (a + 49) from nI_add a 49, nI_add, show nI k + (1 : Int32) = nI (k + 1) from nI_add k 1]
        refine tr_S (by omega) (by omega) ?_
        refine ih _ ⟨q1, fun x hx => ?_, fun x hx => ?_, fun x hx => ?_, fun v' h1 h2 => ?_⟩
        · rw [← q2 x hx]; exact funext fun y => uE_j _ _ _ hx
        · rw [uE_i _ _ (by omega)]; exact q3 x hx
        · rw [uE_i _ _ (by omega)]; exact q4 x hx
        · by_cases e : v' = k
          · subst e; rw [uE_s]; exact hv h2
          · rw [uE_i _ _ (by omega)]; exact q5 v' (by omega) h2
      rw [L_X12_store_99, if_neg (show ¬ (17 : Int32) ≤ nI k from nI_ge (b := 17) (by omega) (by decide))]
      refine tr_G (by rw [show mL 7 = 9 from rfl]; exact hr) (by omega) ?_
      rw [e7]
      by_cases c1 : R.1 7 < k + 1
      · have c1' : nI (R.1 7) - nI k < 1 := by
          by_cases e : R.1 7 = k
          · rw [e, Int32.sub_self]; decide
          · exact Int32.lt_trans (nI_subneg (by omega) (by omega)) (by decide)
        rw [if_pos c1']
        refine tr_gd hk (fin 0 fun _ => ?_)
        unfold y_wn
        rw [if_pos (by omega)]
      · rw [nI_sub (by omega), if_neg (show ¬ nI (R.1 7 - k) < (1 : Int32) from Int32.not_lt.mpr (nI_le (a := 1) (by omega) (by omega)))]
        rw [show M2.1 2 = nI S.V by rw [q1]; exact WM_V h]
        refine tr_lt (by omega) (by omega) (fun c2 => ?_) (fun c2 => ?_)
        · refine tr_G (by rw [show mL 7 = 9 from rfl]; exact hr) (by omega) ?_
          rw [e7, nI_sub (by omega)]
          refine r_at (by omega) ?_
          refine tr_G (show _ < 360 by omega) (by omega) ?_
          refine tr_gd hk (fin _ fun _ => ?_)
          rw [q2 15 (nz 15 (by decide)), WM_m h hr (by omega) (by omega) (by omega)]
          unfold y_wn
          rw [if_neg (by omega)]
          exact (ms_st _ (by omega)).symm
        · exact tr_gd hk (fin 0 fun q => by omega)
    · exact ⟨p1, p2, p3, fun _ _ => rfl, fun v hv => absurd hv (Nat.not_lt_zero _)⟩
  · obtain ⟨p1, p2, p3, p4, p5, p6, p7⟩ := hP
    rw [L_X12_store_12, if_neg (show ¬ (16 : Int32) ≤ nI k from nI_ge (b := 16) (by omega) (by decide))]
    refine tr_G (by rw [show mL 7 = 9 from rfl]; exact hr) (by omega) ?_
    rw [show M1.2 7 r = nI (R.1 7) by rw [p2 7 (nz 7 (by decide))]; exact WM_g h hr rfl]
    refine r_at (by omega) ?_
    rw [show (16 : Int32) * nI (40 * r + R.1 7 % 40) = nI (16 * (40 * r + R.1 7 % 40)) from nI_mul 16 _, nI_add, show (16 : Int32) * nI r = nI (16 * r) from nI_mul 16 r, nI_add, show nI a + (1 : Int32) = nI (a + 1) from nI_add a 1, show nI a + (17 : Int32) = nI (a + 17) from nI_add a 17, show nI a + (33 : Int32) = nI (a + 33) from nI_add a 33, nI_add, nI_add, nI_add, show nI k + (1 : Int32) = nI (k + 1) from nI_add k 1]
    refine tr_G (show _ < 5760 by omega) (by omega) ?_
    rw [p2 14 (nz 14 (by decide)), WM_h h hr hz (Nat.le_refl _) hk1]
    refine tr_gd hk (tr_S (by omega) (by omega) ?_)
    refine tr_G (show _ < 144 by omega) (by omega) ?_
    rw [uE_j _ _ _ (nz 17 (by decide)), p2 17 (nz 17 (by decide)), WM_sq h hr hk1]
    refine tr_gd hk (tr_S (by omega) (by omega) ?_)
    refine tr_G (show _ < 144 by omega) (by omega) ?_
    rw [uE_j _ _ _ (nz 18 (by decide)), uE_j _ _ _ (nz 18 (by decide)), p2 18 (nz 18 (by decide)), WM_vd h hr hk1]
    refine tr_gd hk (tr_S (by omega) (by omega) ?_)
    refine ih _ ⟨p1, fun x hx => ?_, fun x hx => ?_, ?_, fun x hx => ?_, fun x hx => ?_, fun x hx => ?_⟩
    · rw [← p2 x hx]; exact funext fun y => by rw [uE_j _ _ _ hx, uE_j _ _ _ hx, uE_j _ _ _ hx]
    · rw [uE_i _ _ (by omega), uE_i _ _ (by omega), uE_i _ _ (by omega)]; exact p3 x hx
    · rw [uE_i _ _ (by omega), uE_i _ _ (by omega), uE_i _ _ (by omega)]; exact p4
    · rw [uE_i _ _ (by omega), uE_i _ _ (by omega)]
      by_cases e : x = k
      · subst e; rw [uE_s]
      · rw [uE_i _ _ (by omega)]; exact p5 x (by omega)
    · rw [uE_i _ _ (by omega)]
      by_cases e : x = k
      · subst e; rw [uE_s]
      · rw [uE_i _ _ (by omega), uE_i _ _ (by omega)]; exact p6 x (by omega)
    · by_cases e : x = k
      · subst e; rw [uE_s]
      · rw [uE_i _ _ (by omega), uE_i _ _ (by omega), uE_i _ _ (by omega)]; exact p7 x (by omega)
  · refine ⟨rfl, fun x hx => funext fun y => uE_j _ _ _ hx, fun x hx => uE_i _ _ (by omega), uE_s _ _ _ _, fun x hx => absurd hx (Nat.not_lt_zero _), fun x hx => absurd hx (Nat.not_lt_zero _), fun x hx => absurd hx (Nat.not_lt_zero _)⟩
