/-! ===== lose, double, deliver ===== -/
theorem s_lose {c : vC} {M : vM} {S : Sx} (hW : WC K0 c S) (hM : WM M S) (hB : Bs S) (hfl : S.fl.length ≤ 200) (a1 : Int32) : ∃ S', Sim (F_X11_loseAt S.N c a1) (F_X12_loseAt M a1) S' ∧ (S' = S ∨ ∃ i, i < S.fl.length ∧ S' = S.setf (S.fl.eraseIdx i)) := by
  have h0 : WM (mW M 0 0) S := WM_0 hM
  have e53 : (mW M 0 0).1 53 = nI S.fl.length := h0.2.1
  unfold F_X11_loseAt F_X12_loseAt
  rcases ars (n := S.fl.length) (by omega) a1 with hb | ⟨i, hi, rfl⟩
  · refine ⟨S, ⟨0, ?_, ?_⟩, Or.inl rfl⟩
    · unfold F_X3_take
      rw [e_look0 hW hb, b2_, oc_n, b2_, oc_n]
      exact tr_z0 (tr_some ⟨rfl, hW⟩)
    · refine tr_l1 ?_
      by_cases c1 : a1 < 0
      · rw [if_pos c1]; exact tr_z0 (tr_some ⟨rfl, h0⟩)
      · rw [if_neg c1, e53, if_neg (fun q => by
          have := hb.resolve_left c1
          exact absurd q (Int32.not_lt.mpr this))]
        exact tr_z0 (tr_some ⟨rfl, h0⟩)
  · refine ⟨S.setf (S.fl.eraseIdx i), ⟨1, ?_, ?_⟩, Or.inr ⟨i, hi, rfl⟩⟩
    · refine tr_b2 (c_take hW hfl hi) fun c1 v q => ?_
      obtain ⟨k, e, hk, w⟩ := q
      have e' : v = some k := e
      rw [e', oc_s, gd_ hk]
      exact tr_z1 (tr_some ⟨rfl, WC_drop w⟩)
    · refine tr_l1 ?_
      rw [if_neg (nIn (by omega)), e53, if_pos (nI_lt hi (by omega))]
      refine tr_bind (r_remove hB.1 h0 hfl hi) fun M2 q => ?_
      exact tr_z1 (tr_some ⟨rfl, q.1⟩)
theorem q_d31 {ρ : Type} {i n : Nat} {kx : vM → Option ρ} {Q : ρ → Prop} (hi : i < n) (hn : n < 200) : ∀ (d k fl : Nat) (M : vM), M.1 53 = nI n → k + d = 8 → d < fl → (∀ M', M'.1 = M.1 → (∀ j x, ¬ (j = 39 ∧ 8 * n ≤ x ∧ x < 8 * n + 8) → M'.2 j x = M.2 j x) → (∀ x, x < k → M'.2 39 (8 * n + x) = M.2 39 (8 * n + x)) → (∀ x, k ≤ x → x < 8 → M'.2 39 (8 * n + x) = M.2 39 (8 * i + x)) → tr (kx M') Q) → tr (L_X12_doubleAt_31 (nI i) kx fl M (nI k)) Q := by
  intro d
  induction d with
  | zero =>
    intro k fl M h53 h1 h2 g
    obtain ⟨fl, rfl⟩ : ∃ f', fl = f' + 1 := ⟨fl - 1, by omega⟩
    rw [L_X12_doubleAt_31, if_pos (show (8 : Int32) ≤ nI k from nI_le (a := 8) (by omega) (by omega))]
    exact g M rfl (fun _ _ _ => rfl) (fun _ _ => rfl) (fun x a b => by omega)
  | succ d ih =>
    intro k fl M h53 h1 h2 g
    obtain ⟨fl, rfl⟩ : ∃ f', fl = f' + 1 := ⟨fl - 1, by omega⟩
    rw [L_X12_doubleAt_31, if_neg (show ¬ (8 : Int32) ≤ nI k from nI_ge (b := 8) (by omega) (by decide)), h53, show (8 : Int32) * nI i + nI k = nI (8 * i + k) by rw [show (8 : Int32) = nI 8 from rfl, nI_mul, nI_add], show (8 : Int32) * nI n + nI k = nI (8 * n + k) by rw [show (8 : Int32) = nI 8 from rfl, nI_mul, nI_add], nI_add1]
    refine tr_G (show 8 * i + k < 1608 by omega) (by omega) ?_
    refine tr_S (show 8 * n + k < 1608 by omega) (by omega) ?_
    refine ih (k + 1) fl _ h53 (by omega) (by omega) fun M' w1 w2 w3 w4 => g M' w1 (fun j x hx => ?_) (fun x hx => ?_) (fun x a b => ?_)
    · rw [w2 j x hx]
      by_cases e : j = 39
      · subst e; exact uE_i _ _ (fun q => hx ⟨rfl, by omega, by omega⟩)
      · exact uE_j _ _ _ e
    · rw [w3 x (by omega)]; exact uE_i _ _ (by omega)
    · by_cases e : x = k
      · subst e
        rw [w3 x (by omega), uE_s]
      · rw [w4 x (by omega) b]; exact uE_i _ _ (by omega)
theorem q_d70 {ρ : Type} {i n : Nat} {kx : vM → Option ρ} {Q : ρ → Prop} (hi : i < n) (hn : n < 200) : ∀ (d k fl : Nat) (M : vM), M.1 53 = nI n → k + d = 100 → d < fl → (∀ M', M'.1 = M.1 → (∀ j x, ¬ (j = 40 ∧ 100 * n ≤ x ∧ x < 100 * n + 100) → M'.2 j x = M.2 j x) → (∀ x, x < k → M'.2 40 (100 * n + x) = M.2 40 (100 * n + x)) → (∀ x, k ≤ x → x < 100 → M'.2 40 (100 * n + x) = M.2 40 (100 * i + x)) → tr (kx M') Q) → tr (L_X12_doubleAt_70 (nI i) kx fl M (nI k)) Q := by
  intro d
  induction d with
  | zero =>
    intro k fl M h53 h1 h2 g
    obtain ⟨fl, rfl⟩ : ∃ f', fl = f' + 1 := ⟨fl - 1, by omega⟩
    rw [L_X12_doubleAt_70, if_pos (show (100 : Int32) ≤ nI k from nI_le (a := 100) (by omega) (by omega))]
    exact g M rfl (fun _ _ _ => rfl) (fun _ _ => rfl) (fun x a b => by omega)
  | succ d ih =>
    intro k fl M h53 h1 h2 g
    obtain ⟨fl, rfl⟩ : ∃ f', fl = f' + 1 := ⟨fl - 1, by omega⟩
    rw [L_X12_doubleAt_70, if_neg (show ¬ (100 : Int32) ≤ nI k from nI_ge (b := 100) (by omega) (by decide)), h53, show (100 : Int32) * nI i + nI k = nI (100 * i + k) by rw [show (100 : Int32) = nI 100 from rfl, nI_mul, nI_add], show (100 : Int32) * nI n + nI k = nI (100 * n + k) by rw [show (100 : Int32) = nI 100 from rfl, nI_mul, nI_add], nI_add1]
    refine tr_G (show 100 * i + k < 20100 by omega) (by omega) ?_
    refine tr_S (show 100 * n + k < 20100 by omega) (by omega) ?_
    refine ih (k + 1) fl _ h53 (by omega) (by omega) fun M' w1 w2 w3 w4 => g M' w1 (fun j x hx => ?_) (fun x hx => ?_) (fun x a b => ?_)
    · rw [w2 j x hx]
      by_cases e : j = 40
      · subst e; exact uE_i _ _ (fun q => hx ⟨rfl, by omega, by omega⟩)
      · exact uE_j _ _ _ e
    · rw [w3 x (by omega)]; exact uE_i _ _ (by omega)
    · by_cases e : x = k
      · subst e
        rw [w3 x (by omega), uE_s]
      · rw [w4 x (by omega) b]; exact uE_i _ _ (by omega)
theorem s_double {c : vC} {M : vM} {S : Sx} (hW : WC K0 c S) (hM : WM M S) (hB : Bs S) (hfl : S.fl.length ≤ 200) (a1 : Int32) : ∃ S', Sim (F_X11_doubleAt S.N c a1) (F_X12_doubleAt M a1) S' ∧ (S' = S ∨ ∃ i, i < S.fl.length ∧ S.fl.length < 200 ∧ S' = S.setf (S.fl ++ [S.fl.getD i mgD])) := by
  have h0 : WM (mW M 0 0) S := WM_0 hM
  have e53 : (mW M 0 0).1 53 = nI S.fl.length := h0.2.1
  have a303 : cI c 303 0 = nI S.fl.length := hW.2.2.1.2.1
  unfold F_X11_doubleAt F_X12_doubleAt
  rcases ars (n := S.fl.length) (by omega) a1 with hb | ⟨i, hi, rfl⟩
  · refine ⟨S, ⟨0, ?_, ?_⟩, Or.inl rfl⟩
    · rw [e_look0 hW hb, b2_, oc_n]
      exact tr_z0 (tr_some ⟨rfl, hW⟩)
    · refine tr_l1 ?_
      by_cases c1 : a1 < 0
      · rw [if_pos c1]; exact tr_z0 (tr_some ⟨rfl, h0⟩)
      · rw [if_neg c1, e53, if_pos (hb.resolve_left c1)]
        exact tr_z0 (tr_some ⟨rfl, h0⟩)
  obtain ⟨_, _, _, _, _, p, t, hp⟩ := hW.2.2.1
  have hpi := hp.1 i (by omega)
  by_cases c2 : S.fl.length < 200
  · refine ⟨S.setf (S.fl ++ [S.fl.getD i mgD]), ⟨1, ?_, ?_⟩, Or.inr ⟨i, hi, c2, rfl⟩⟩
    · rw [e_look hW hfl hi hp, b2_, oc_s, gd_ hpi.2.1, a303, if_pos (show nI S.fl.length < (200 : Int32) from nI_lt (b := 200) c2 (by decide))]
      refine tr_bind (c_repeat hW c2 hi hp) fun c5 w5 => ?_
      exact tr_z1 (tr_some ⟨rfl, w5⟩)
    · refine tr_l1 ?_
      rw [if_neg (nIn (by omega)), e53, if_neg (nI_ge hi (by omega)), if_neg (show ¬ nI S.fl.length = (200 : Int32) from fun q => by have := nI_inj (b := 200) (by omega) (by decide) q; omega)]
      refine q_d31 (n := S.fl.length) hi c2 8 0 fu _ e53 (by omega) (show 8 < 32768 by decide) fun M1 x1 x2 x3 x4 => ?_
      have f53 : M1.1 53 = nI S.fl.length := by rw [x1]; exact e53
      refine q_d70 (n := S.fl.length) hi c2 100 0 fu _ f53 (by omega) (show 100 < 32768 by decide) fun M2 y1 y2 y3 y4 => ?_
      have g53 : M2.1 53 = nI S.fl.length := by rw [y1]; exact f53
      refine tr_G (show i < 201 by omega) (by omega) ?_
      rw [g53]
      refine tr_S (show S.fl.length < 201 by omega) (by omega) ?_
      rw [l1_]
      have h53 : (uE M2 41 S.fl.length (M2.2 41 i)).1 53 = nI S.fl.length := g53
      rw [h53, nI_add1]
      have k1 : ∀ f, f ≠ 53 → (mW (uE M2 41 S.fl.length (M2.2 41 i)) 53 (nI (S.fl.length + 1))).1 f = (mW M 0 0).1 f := fun f hf => by
        rw [mW_1 _ _ _ hf]
        show M2.1 f = _
        rw [y1, x1]
      have k53 : (mW (uE M2 41 S.fl.length (M2.2 41 i)) 53 (nI (S.fl.length + 1))).1 53 = nI (S.fl.length + 1) := mW_s _ _ _
      have k41 : ∀ x, (mW (uE M2 41 S.fl.length (M2.2 41 i)) 53 (nI (S.fl.length + 1))).2 41 x = if x = S.fl.length then M2.2 41 i else M2.2 41 x := fun x => by
        rw [mW_2]
        by_cases e : x = S.fl.length
        · rw [if_pos e, e, uE_s]
        · rw [if_neg e, uE_i _ _ e]
      have ko : ∀ j x, j ≠ 41 → (mW (uE M2 41 S.fl.length (M2.2 41 i)) 53 (nI (S.fl.length + 1))).2 j x = M2.2 j x := fun j x hj => by
        rw [mW_2, uE_j _ _ _ hj]
      generalize mW (uE M2 41 S.fl.length (M2.2 41 i)) 53 (nI (S.fl.length + 1)) = M3 at k1 k53 k41 ko ⊢
      have z41 : ∀ x, M2.2 41 x = M.2 41 x := fun x => by rw [y2 41 x (fun q => by omega), x2 41 x (fun q => by omega)]; rfl
      have z39 : ∀ x, ¬ (8 * S.fl.length ≤ x ∧ x < 8 * S.fl.length + 8) → M3.2 39 x = M.2 39 x := fun x hx => by rw [ko 39 x (by decide), y2 39 x (fun q => by omega), x2 39 x (fun q => hx q.2)]; rfl
      have z39' : ∀ x, x < 8 → M3.2 39 (8 * S.fl.length + x) = M.2 39 (8 * i + x) := fun x hx => by rw [ko 39 _ (by decide), y2 39 _ (fun q => by omega), x4 x (by omega) hx]; rfl
      have z40 : ∀ x, ¬ (100 * S.fl.length ≤ x ∧ x < 100 * S.fl.length + 100) → M3.2 40 x = M.2 40 x := fun x hx => by rw [ko 40 x (by decide), y2 40 x (fun q => hx q.2), x2 40 x (fun q => by omega)]; rfl
      have z40' : ∀ x, x < 100 → M3.2 40 (100 * S.fl.length + x) = M.2 40 (100 * i + x) := fun x hx => by rw [ko 40 _ (by decide), y4 x (by omega) hx, x2 40 _ (fun q => by omega)]; rfl
      refine tr_z1 (tr_some ⟨rfl, WM_fl h0 (fun f hf => k1 f (fun q => by subst q; cases hf)) ?_ (fun j p q r _ => ?_) (fun k hk => ?_)⟩)
      · rw [k53, List.length_append]; rfl
      · funext x
        rw [ko j x r, y2 j x (fun w => q w.1), x2 j x (fun w => p w.1)]
      · rw [List.length_append] at hk
        have hk' : k < S.fl.length + 1 := hk
        by_cases e : k = S.fl.length
        · subst e
          rw [getD_appM2]
          obtain ⟨p1, p2, p3⟩ := hM.2.2.2.2.2 i hi
          refine ⟨fun f hf => ?_, ?_, fun q => imA_sh (p3 q) hB.1.V (fun x hx => z40' x hx)⟩
          · rw [z39' f hf]; exact p1 f hf
          · rw [k41, if_pos rfl, z41]; exact p2
        · rw [getD_appM1 (by omega)]
          obtain ⟨p1, p2, p3⟩ := hM.2.2.2.2.2 k (by omega)
          refine ⟨fun f hf => ?_, ?_, fun q => imA_sh (p3 q) hB.1.V (fun x hx => z40 _ (by omega))⟩
          · rw [z39 _ (by omega)]; exact p1 f hf
          · rw [k41, if_neg e, z41]; exact p2
  · refine ⟨S, ⟨0, ?_, ?_⟩, Or.inl rfl⟩
    · rw [e_look hW hfl hi hp, b2_, oc_s, gd_ hpi.2.1, a303, if_neg (show ¬ nI S.fl.length < (200 : Int32) from nI_nlt (b := 200) (by omega) (by omega))]
      exact tr_z0 (tr_some ⟨rfl, hW⟩)
    · refine tr_l1 ?_
      rw [if_neg (nIn (by omega)), e53, if_neg (nI_ge hi (by omega)), if_pos (show nI S.fl.length = (200 : Int32) from by rw [show S.fl.length = 200 by omega]; rfl)]
      exact tr_z0 (tr_some ⟨rfl, h0⟩)
