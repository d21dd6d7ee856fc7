/-! ===== frames are taken and doubled: the reference ===== -/
theorem WM_fl {M M' : vM} {S : Sx} {l : List Mg} (h : WM M S) (h1 : ∀ f, sf f = true → M'.1 f = M.1 f) (h53 : M'.1 53 = nI l.length) (h2 : ∀ j, j ≠ 39 → j ≠ 40 → j ≠ 41 → j ≠ 45 → M'.2 j = M.2 j) (hg : ∀ i, i < l.length → RG M'.2 S.V S.sta i (l.getD i mgD)) : WM M' (S.setf l) := by
  obtain ⟨a1, a2, a3, a4, a5, a6⟩ := h
  have ev : ∀ r, vw M' r = vw M r := fun r => by
    funext j i
    unfold vw
    by_cases q : i < zs j
    · have := zs_0 (j := j) (fun e => by rw [e] at q; exact absurd q (Nat.not_lt_zero _))
      rw [if_pos q, if_pos q, h2 j (by omega) (by omega) (by omega) (by omega)]
    · rw [if_neg q, if_neg q]
  refine ⟨fun f hf => (h1 f hf).trans (a1 f hf), h53, RT_c (fun f hf => h2 f (by omega) (by omega) (by omega) (by omega)) a3, fun r hr => ?_, fun s hs => RS_c (fun f hf => h2 f (by omega) (by omega) (by omega) (by omega)) (a5 s hs), hg⟩
  rw [ev]; exact a4 r hr
theorem imA_sh {f g : Nat → Int32} {a b V i : Nat} {s : Sta} (h : imA g b V s i) (hV : V ≤ 16) (e : ∀ x, x < 100 → f (a + x) = g (b + x)) : imA f a V s i := by
  obtain ⟨h1, h2, h3, h4, h5⟩ := h
  refine ⟨?_, fun k hk => ?_, fun k hk => ?_, fun k hk => ?_, fun v hv => ?_⟩
  · have := e 0 (by decide)
    rw [Nat.add_zero, Nat.add_zero] at this
    rw [this]; exact h1
  · rw [Nat.add_assoc, e (1 + k) (by omega), ← Nat.add_assoc]; exact h2 k hk
  · rw [Nat.add_assoc, e (17 + k) (by omega), ← Nat.add_assoc]; exact h3 k hk
  · rw [Nat.add_assoc, e (33 + k) (by omega), ← Nat.add_assoc]; exact h4 k hk
  · rw [Nat.add_assoc, e (49 + v) (by omega), ← Nat.add_assoc]; exact h5 v hv
theorem q_r15 {ρ : Type} {l1 : Int32} {kx : vM → Option ρ} {Q : ρ → Prop} {n : Nat} (hn : n ≤ 199) : ∀ (d p fl : Nat) (M : vM), M.1 53 = nI n → p + d = 8 * n → d < fl → (∀ M', M'.1 = M.1 → (∀ j x, ¬ (j = 39 ∧ p ≤ x ∧ x < 8 * n) → M'.2 j x = M.2 j x) → (∀ x, p ≤ x → x < 8 * n → M'.2 39 x = M.2 39 (x + 8)) → tr (kx M') Q) → tr (L_X12_remove_15 l1 kx fl M (nI p)) Q := by
  intro d
  induction d with
  | zero =>
    intro p fl M h53 h1 h2 g
    obtain ⟨fl, rfl⟩ : ∃ f', fl = f' + 1 := ⟨fl - 1, by omega⟩
    rw [L_X12_remove_15, h53, show (8 : Int32) * nI n = nI (8 * n) from nI_mul 8 n, if_pos (nI_le (by omega) (by omega))]
    exact g M rfl (fun _ _ _ => rfl) (fun x a b => by omega)
  | succ d ih =>
    intro p fl M h53 h1 h2 g
    obtain ⟨fl, rfl⟩ : ∃ f', fl = f' + 1 := ⟨fl - 1, by omega⟩
    rw [L_X12_remove_15, h53, show (8 : Int32) * nI n = nI (8 * n) from nI_mul 8 n, if_neg (nI_ge (by omega) (by omega)), show nI p + (8 : Int32) = nI (p + 8) from nI_add p 8, nI_add1]
    refine tr_G (show p + 8 < 1608 by omega) (by omega) ?_
    refine tr_S (show p < 1608 by omega) (by omega) ?_
    refine ih (p + 1) fl _ h53 (by omega) (by omega) fun M' w1 w2 w3 => g M' w1 (fun j x hx => ?_) (fun x a b => ?_)
    · rw [w2 j x (fun q => hx ⟨q.1, by omega, q.2.2⟩)]
      by_cases e : j = 39
      · subst e; exact uE_i _ _ (fun q => hx ⟨rfl, by omega, by omega⟩)
      · exact uE_j _ _ _ e
    · by_cases e : x = p
      · subst e
        rw [w2 39 x (fun q => by omega), uE_s]
      · rw [w3 x (by omega) b]; exact uE_i _ _ (by omega)
theorem q_r52 {ρ : Type} {l1 : Int32} {kx : vM → Option ρ} {Q : ρ → Prop} {n : Nat} (hn : n ≤ 199) : ∀ (d p fl : Nat) (M : vM), M.1 53 = nI n → p + d = 100 * n → d < fl → (∀ M', M'.1 = M.1 → (∀ j x, ¬ (j = 40 ∧ p ≤ x ∧ x < 100 * n) → M'.2 j x = M.2 j x) → (∀ x, p ≤ x → x < 100 * n → M'.2 40 x = M.2 40 (x + 100)) → tr (kx M') Q) → tr (L_X12_remove_52 l1 kx fl M (nI p)) Q := by
  intro d
  induction d with
  | zero =>
    intro p fl M h53 h1 h2 g
    obtain ⟨fl, rfl⟩ : ∃ f', fl = f' + 1 := ⟨fl - 1, by omega⟩
    rw [L_X12_remove_52, h53, show (100 : Int32) * nI n = nI (100 * n) from nI_mul 100 n, if_pos (nI_le (by omega) (by omega))]
    exact g M rfl (fun _ _ _ => rfl) (fun x a b => by omega)
  | succ d ih =>
    intro p fl M h53 h1 h2 g
    obtain ⟨fl, rfl⟩ : ∃ f', fl = f' + 1 := ⟨fl - 1, by omega⟩
    rw [L_X12_remove_52, h53, show (100 : Int32) * nI n = nI (100 * n) from nI_mul 100 n, if_neg (nI_ge (by omega) (by omega)), show nI p + (100 : Int32) = nI (p + 100) from nI_add p 100, nI_add1]
    refine tr_G (show p + 100 < 20100 by omega) (by omega) ?_
    refine tr_S (show p < 20100 by omega) (by omega) ?_
    refine ih (p + 1) fl _ h53 (by omega) (by omega) fun M' w1 w2 w3 => g M' w1 (fun j x hx => ?_) (fun x a b => ?_)
    · rw [w2 j x (fun q => hx ⟨q.1, by omega, q.2.2⟩)]
      by_cases e : j = 40
      · subst e; exact uE_i _ _ (fun q => hx ⟨rfl, by omega, by omega⟩)
      · exact uE_j _ _ _ e
    · by_cases e : x = p
      · subst e
        rw [w2 40 x (fun q => by omega), uE_s]
      · rw [w3 x (by omega) b]; exact uE_i _ _ (by omega)
theorem q_r86 {ρ : Type} {kx : vM → Option ρ} {Q : ρ → Prop} {n : Nat} (hn : n ≤ 199) : ∀ (d p fl : Nat) (M : vM), M.1 53 = nI n → p + d = n → d < fl → (∀ M', M'.1 = M.1 → (∀ j x, ¬ (j = 41 ∧ p ≤ x ∧ x < n) → M'.2 j x = M.2 j x) → (∀ x, p ≤ x → x < n → M'.2 41 x = M.2 41 (x + 1)) → tr (kx M') Q) → tr (L_X12_remove_86 kx fl M (nI p)) Q := by
  intro d
  induction d with
  | zero =>
    intro p fl M h53 h1 h2 g
    obtain ⟨fl, rfl⟩ : ∃ f', fl = f' + 1 := ⟨fl - 1, by omega⟩
    rw [L_X12_remove_86, h53, if_pos (nI_le (by omega) (by omega))]
    exact g M rfl (fun _ _ _ => rfl) (fun x a b => by omega)
  | succ d ih =>
    intro p fl M h53 h1 h2 g
    obtain ⟨fl, rfl⟩ : ∃ f', fl = f' + 1 := ⟨fl - 1, by omega⟩
    rw [L_X12_remove_86, h53, if_neg (nI_ge (by omega) (by omega)), nI_add1]
    refine tr_G (show p + 1 < 201 by omega) (by omega) ?_
    refine tr_S (show p < 201 by omega) (by omega) ?_
    refine ih (p + 1) fl _ h53 (by omega) (by omega) fun M' w1 w2 w3 => g M' w1 (fun j x hx => ?_) (fun x a b => ?_)
    · rw [w2 j x (fun q => hx ⟨q.1, by omega, q.2.2⟩)]
      by_cases e : j = 41
      · subst e; exact uE_i _ _ (fun q => hx ⟨rfl, by omega, by omega⟩)
      · exact uE_j _ _ _ e
    · by_cases e : x = p
      · subst e
        rw [w2 41 x (fun q => by omega), uE_s]
      · rw [w3 x (by omega) b]; exact uE_i _ _ (by omega)
theorem getD_er {l : List Mg} {i k : Nat} : (l.eraseIdx i).getD k mgD = if k < i then l.getD k mgD else l.getD (k + 1) mgD := by
  rw [List.getD_eq_getElem?_getD, List.getElem?_eraseIdx]
  split
  · rw [List.getD_eq_getElem?_getD]
  · rw [List.getD_eq_getElem?_getD]
theorem er_len {l : List Mg} {i : Nat} (h : i < l.length) : (l.eraseIdx i).length = l.length - 1 := List.length_eraseIdx_of_lt h
theorem r_remove {M : vM} {S : Sx} {i : Nat} (hC : Cx S) (h : WM M S) (hfl : S.fl.length ≤ 200) (hi : i < S.fl.length) : tr (F_X12_remove M (nI i)) (fun M' => WM M' (S.setf (S.fl.eraseIdx i)) ∧ M'.2 45 = M.2 45 ∧ M'.1 58 = M.1 58) := by
  unfold F_X12_remove
  have e53 : M.1 53 - 1 = nI (S.fl.length - 1) := by rw [h.2.1]; exact nI_sub (b := 1) (by omega)
  rw [l1_, e53, show (8 : Int32) * nI i = nI (8 * i) from nI_mul 8 i, show (100 : Int32) * nI i = nI (100 * i) from nI_mul 100 i]
  have m53 : (mW M 53 (nI (S.fl.length - 1))).1 53 = nI (S.fl.length - 1) := mW_s _ _ _
  refine q_r15 (n := S.fl.length - 1) (by omega) (8 * (S.fl.length - 1) - 8 * i) (8 * i) fu _ m53 (by omega) (show _ < 32768 by omega) fun M1 a1 a2 a3 => ?_
  have m53' : M1.1 53 = nI (S.fl.length - 1) := by rw [a1]; exact m53
  refine q_r52 (n := S.fl.length - 1) (by omega) (100 * (S.fl.length - 1) - 100 * i) (100 * i) fu _ m53' (by omega) (show _ < 32768 by omega) fun M2 b1 b2 b3 => ?_
  have m53'' : M2.1 53 = nI (S.fl.length - 1) := by rw [b1]; exact m53'
  refine q_r86 (n := S.fl.length - 1) (by omega) (S.fl.length - 1 - i) i fu _ m53'' (by omega) (show _ < 32768 by omega) fun M3 c1 c2 c3 => ?_
  have f1 : ∀ f, f ≠ 53 → M3.1 f = M.1 f := fun f hf => by rw [c1, b1, a1]; exact mW_1 _ _ _ hf
  have f39 : ∀ x, M3.2 39 x = M1.2 39 x := fun x => by rw [c2 39 x (fun q => by omega), b2 39 x (fun q => by omega)]
  have f40 : ∀ x, M3.2 40 x = M2.2 40 x := fun x => by rw [c2 40 x (fun q => by omega)]
  have g39 : ∀ x, ¬ (8 * i ≤ x ∧ x < 8 * (S.fl.length - 1)) → M3.2 39 x = M.2 39 x := fun x hx => by rw [f39, a2 39 x (fun q => hx q.2)]; rfl
  have h39 : ∀ x, 8 * i ≤ x → x < 8 * (S.fl.length - 1) → M3.2 39 x = M.2 39 (x + 8) := fun x p q => by rw [f39, a3 x p q]; rfl
  have g40 : ∀ x, ¬ (100 * i ≤ x ∧ x < 100 * (S.fl.length - 1)) → M3.2 40 x = M.2 40 x := fun x hx => by rw [f40, b2 40 x (fun q => hx q.2), a2 40 x (fun q => by omega)]; rfl
  have h40 : ∀ x, 100 * i ≤ x → x < 100 * (S.fl.length - 1) → M3.2 40 x = M.2 40 (x + 100) := fun x p q => by rw [f40, b3 x p q, a2 40 (x + 100) (fun q => by omega)]; rfl
  have g41 : ∀ x, ¬ (i ≤ x ∧ x < S.fl.length - 1) → M3.2 41 x = M.2 41 x := fun x hx => by rw [c2 41 x (fun q => hx q.2), b2 41 x (fun q => by omega), a2 41 x (fun q => by omega)]; rfl
  have h41 : ∀ x, i ≤ x → x < S.fl.length - 1 → M3.2 41 x = M.2 41 (x + 1) := fun x p q => by rw [c3 x p q, b2 41 (x + 1) (fun q => by omega), a2 41 (x + 1) (fun q => by omega)]; rfl
  have go : ∀ j, j ≠ 39 → j ≠ 40 → j ≠ 41 → M3.2 j = M.2 j := fun j p q r => by
    funext x
    rw [c2 j x (fun w => r w.1), b2 j x (fun w => q w.1), a2 j x (fun w => p w.1)]; rfl
  refine tr_some ⟨WM_fl h (fun f hf => f1 f (fun q => by subst q; cases hf)) ?_ (fun j p q r _ => go j p q r) (fun k hk => ?_), go 45 (by decide) (by decide) (by decide), f1 58 (by decide)⟩
  · rw [c1, m53'', er_len hi]
  · rw [er_len hi] at hk
    rw [getD_er]
    by_cases c : k < i
    · rw [if_pos c]
      obtain ⟨p1, p2, p3⟩ := h.2.2.2.2.2 k (by omega)
      refine ⟨fun f hf => ?_, ?_, fun q => imA_sh (p3 q) hC.V (fun x hx => ?_)⟩
      · rw [g39 _ (by omega)]; exact p1 f hf
      · rw [g41 _ (by omega)]; exact p2
      · exact g40 _ (by omega)
    · rw [if_neg c]
      obtain ⟨p1, p2, p3⟩ := h.2.2.2.2.2 (k + 1) (by omega)
      refine ⟨fun f hf => ?_, ?_, fun q => imA_sh (p3 q) hC.V (fun x hx => ?_)⟩
      · rw [h39 _ (by omega) (by omega), show 8 * k + f + 8 = 8 * (k + 1) + f by omega]; exact p1 f hf
      · rw [h41 _ (by omega) (by omega)]; exact p2
      · rw [h40 _ (by omega) (by omega), show 100 * k + x + 100 = 100 * (k + 1) + x by omega]
