/-! ===== the class's queue ===== -/
theorem c_isLike {N : Nat} {c : vC} {S : Sx} {a a' q q' : Nat} (hC : Cx S) (ha : RqA c a (S.tb q)) (ha' : RqA c a' (S.tb q')) : F_X8_isLike N c a' (some a) = some (c, if (S.tb q').1 0 = (S.tb q).1 0 ∧ (S.tb q').1 1 = (S.tb q).1 1 then (1 : Int32) else 0) := by
  obtain ⟨a1, a2, a3, a4, _⟩ := ha
  obtain ⟨b1, b2, b3, b4, _⟩ := ha'
  obtain ⟨t1, t2, t3⟩ := hC.tb q
  obtain ⟨u1, u2, u3⟩ := hC.tb q'
  unfold F_X8_isLike
  rw [gd_ b2, Option.bind_some, gd_ a2, b3, a3]
  by_cases e : (S.tb q').1 0 = (S.tb q).1 0
  · rw [if_pos (by rw [e]), gd_ b2, gd_ a2, b4, a4]
    by_cases e2 : (S.tb q').1 1 = (S.tb q).1 1
    · rw [if_pos (by rw [e2]), zb1, if_pos ⟨e, e2⟩]
    · rw [if_neg (fun x => e2 (nI_inj (by omega) (by omega) x)), zb0, if_neg (fun x => e2 x.2)]
  · rw [if_neg (fun x => e (nI_inj (by omega) (by omega) x)), zb0, if_neg (fun x => e x.1)]
theorem c_add {mm : Kp} {N : Nat} {c : vC} {S : Sx} {r a q : Nat} {R : Rp} (hC : Cx S) (h : WC mm c (S.set r R)) (hr : r < S.N) (h6 : R.1 6 = 1) (hQ : QOk S R) (ha : RqA c a (S.tb q)) (h0 : 0 < q) (hU : ∀ q', q' ∈ R.2.1 → (S.tb q').1 0 = (S.tb q).1 0 → (S.tb q').1 1 = (S.tb q).1 1 → q' = q) : tr (F_X6_add N c r (some a)) (fun c' => WC mm c' (y_wait (S.set r R) r q)) := by
  obtain ⟨hq8, hq⟩ := hQ
  have hqu := WC_qu h hr h6
  have ew : y_wait (S.set r R) r q = if q ∈ R.2.1 ∨ 8 ≤ R.2.1.length then S.set r R else S.set r (R.q (R.2.1 ++ [q])) := by
    unfold y_wait
    rw [set_rp]
    dsimp only
    rw [set_set]
  rw [ew]
  unfold F_X6_add
  rw [oc_s, hqu.1]
  refine tr_lt (b := 8) (by omega) (by decide) (fun c8 => ?_) (fun c8 => by rw [if_pos (Or.inr c8)]; exact tr_some h)
  have main : ∀ (d i fl : Nat), i + d = R.2.1.length → d < fl → (∀ k, k < i → R.2.1.getD k 0 ≠ q) → tr (L_X6_add_16 N r a (fun (M9 : vC) => some M9) (fun (M10 : vC) => (cSQ M10 600 r ((cI M10 601 r)) (some a)).bind fun M11 => lt1 (uI M11 601 r (((cI M11 601 r) + (1 : Int32)))) fun M12 => some M12) fl c (nI i)) (fun c' => WC mm c' (if q ∈ R.2.1 ∨ 8 ≤ R.2.1.length then S.set r R else S.set r (R.q (R.2.1 ++ [q])))) := by
    intro d
    induction d with
    | zero =>
      intro i fl h1 h2 hn
      obtain ⟨fl, rfl⟩ : ∃ f', fl = f' + 1 := ⟨fl - 1, by omega⟩
      have hnm : ¬ (q ∈ R.2.1 ∨ 8 ≤ R.2.1.length) := by
        rintro (hm | hm)
        · obtain ⟨k, hk, e⟩ := List.getElem_of_mem hm
          refine hn k (by omega) ?_
          rw [List.getD_eq_getElem?_getD, List.getElem?_eq_getElem hk, e]; rfl
        · omega
      rw [L_X6_add_16, hqu.1, if_pos (nI_le (by omega) (by omega)), if_neg hnm, cSQv (show R.2.1.length < 8 from c8) (by omega) (by show (cK c a == 9) = true; rw [ha.2.1]; rfl), Option.bind_some]
      refine tr_l1 (tr_some ?_)
      have e1 : cI (uQ c 600 r R.2.1.length (some a)) 601 r = nI R.2.1.length := hqu.1
      rw [e1, nI_add1]
      have z : zc r (uI (uQ c 600 r R.2.1.length (some a)) 601 r (nI (R.2.1.length + 1))) c := (zc_I rfl).tr (zc_Q rfl)
      refine WC_q' h z (fun k hk => uI_f _ _ _ hk) rfl rfl (fun f hf => uQ_f _ _ _ _ hf) rfl (fun _ _ => ⟨?_, fun k hk => ?_⟩)
      · show cI _ 601 r = nI (R.2.1 ++ [q]).length
        rw [uI_s, List.length_append]; rfl
      · have hk' : k < R.2.1.length + 1 := by
          have : k < (R.2.1 ++ [q]).length := hk
          rw [List.length_append] at this; exact this
        show RqO _ S.tb (cQ (uQ c 600 r R.2.1.length (some a)) 600 r k) ((R.2.1 ++ [q]).getD k 0)
        by_cases e : k = R.2.1.length
        · subst e
          rw [uQ_s, List.getD_eq_getElem?_getD, List.getElem?_append_right (Nat.le_refl _), Nat.sub_self]
          exact RqO.some h0 (ha.c z.1)
        · rw [uQ_j _ _ _ _ e, List.getD_eq_getElem?_getD, List.getElem?_append_left (by omega), ← List.getD_eq_getElem?_getD]
          exact (hqu.2 k (by omega)).c z.1
    | succ d ih =>
      intro i fl h1 h2 hn
      obtain ⟨fl, rfl⟩ : ∃ f', fl = f' + 1 := ⟨fl - 1, by omega⟩
      have hi : i < R.2.1.length := by omega
      have hm := getD_mem hi
      obtain ⟨h0', hn'⟩ := hq _ hm
      obtain ⟨a', ea, ha'⟩ := (hqu.2 i hi).2 h0'
      rw [L_X6_add_16, hqu.1, if_neg (nI_ge hi (by omega)), cQv (show i < 8 by omega) (by omega), Option.bind_some, ea, Option.bind_some, gd_ ha'.2.1, c_isLike hC ha ha', b2_]
      by_cases e : (S.tb (R.2.1.getD i 0)).1 0 = (S.tb q).1 0 ∧ (S.tb (R.2.1.getD i 0)).1 1 = (S.tb q).1 1
      · rw [if_pos e, if_neg (by decide), if_pos (Or.inl (by rw [← hU _ hm e.1 e.2]; exact hm))]
        exact tr_some h
      · rw [if_neg e, if_pos rfl, nI_add1]
        refine ih (i + 1) fl (by omega) (by omega) fun k hk => ?_
        by_cases ek : k = i
        · subst ek
          intro x
          exact e (by rw [x]; exact ⟨rfl, rfl⟩)
        · exact hn k (by omega)
  exact main R.2.1.length 0 fu (by omega) (by show _ < 32768; omega) (fun k hk => absurd hk (Nat.not_lt_zero _))
/-- the queue without its first ones -/
theorem c_dropF {mm : Kp} {N : Nat} {c : vC} {S : Sx} {r n : Nat} {R : Rp} (h : WC mm c (S.set r R)) (hr : r < S.N) (h6 : R.1 6 = 1) (hQ : QOk S R) (hn : n ≤ R.2.1.length) : tr (F_X6_dropFirst N c r (nI n)) (fun c' => WC mm c' (S.set r (R.q (R.2.1.drop n)))) := by
  obtain ⟨hq8, hq⟩ := hQ
  have hqu := WC_qu h hr h6
  unfold F_X6_dropFirst
  have main : ∀ (d i fl : Nat) (c' : vC), i + d = R.2.1.length → n ≤ i → d < fl → zc r c' c → (∀ k, cI c' k r = cI c k r) → cP c' = cP c → cR c' = cR c → (∀ f, f ≠ 600 → cQ c' f r = cQ c f r) → cJ c' = cJ c → (∀ k, n + k < i → cQ c' 600 r k = cQ c 600 r (n + k)) → (∀ k, i ≤ n + k → cQ c' 600 r k = cQ c 600 r k) → tr (L_X6_dropFirst_2 N r (nI n) (fun (M4 : vC) => lt1 (uI M4 601 r (((cI M4 601 r) - nI n))) fun M5 => some M5) fl c' (nI i)) (fun c' => WC mm c' (S.set r (R.q (R.2.1.drop n)))) := by
    intro d
    induction d with
    | zero =>
      intro i fl c' h1 hni h2 z eI eP eR eQ eJ g1 g2
      obtain ⟨fl, rfl⟩ : ∃ f', fl = f' + 1 := ⟨fl - 1, by omega⟩
      rw [L_X6_dropFirst_2, eI 601, hqu.1, if_pos (nI_le (by omega) (by omega)), nI_sub hn]
      refine tr_l1 (tr_some (WC_q' h ((zc_I rfl).tr z) (fun k hk => (uI_f _ _ _ hk).trans (eI k)) eP eR eQ eJ (fun _ _ => ⟨?_, fun k hk => ?_⟩)))
      · show cI _ 601 r = nI (R.2.1.drop n).length
        rw [uI_s, List.length_drop]
      · have hk' : k < R.2.1.length - n := by
          have : k < (R.2.1.drop n).length := hk
          rw [List.length_drop] at this; exact this
        show RqO _ S.tb (cQ c' 600 r k) ((R.2.1.drop n).getD k 0)
        rw [g1 k (by omega), List.getD_eq_getElem?_getD, List.getElem?_drop, ← List.getD_eq_getElem?_getD]
        exact (hqu.2 (n + k) (by omega)).c ((zc_I (r := r) rfl).tr z).1
    | succ d ih =>
      intro i fl c' h1 hni h2 z eI eP eR eQ eJ g1 g2
      obtain ⟨fl, rfl⟩ : ∃ f', fl = f' + 1 := ⟨fl - 1, by omega⟩
      have hi : i < R.2.1.length := by omega
      obtain ⟨h0', hn'⟩ := hq _ (getD_mem hi)
      obtain ⟨a', ea, ha'⟩ := (hqu.2 i hi).2 h0'
      have ha2 := ha'.c z.1
      rw [L_X6_dropFirst_2, eI 601, hqu.1, if_neg (nI_ge hi (by omega)), cQv (show i < 8 by omega) (by omega), Option.bind_some, g2 i (by omega), ea, nI_sub hni, cSQv (show i - n < 8 by omega) (by omega) (by show (cK c' a' == 9) = true; rw [ha2.2.1]; rfl), Option.bind_some, nI_add1]
      refine ih (i + 1) fl _ (by omega) (by omega) (by omega) ((zc_Q rfl).tr z) eI eP eR (fun f hf => (uQ_f _ _ _ _ hf).trans (eQ f hf)) eJ (fun k hk => ?_) (fun k hk => ?_)
      · by_cases e : k = i - n
        · subst e
          rw [uQ_s, show n + (i - n) = i by omega, ea]
        · rw [uQ_j _ _ _ _ e]; exact g1 k (by omega)
      · rw [uQ_j _ _ _ _ (by omega)]; exact g2 k (by omega)
  exact main (R.2.1.length - n) n fu c (by omega) (Nat.le_refl _) (by show _ < 32768; omega) zc.refl (fun _ => rfl) rfl rfl (fun _ _ => rfl) rfl (fun k hk => by omega) (fun _ _ => rfl)
/-- the first one that is new, brought to the front -/
theorem c_adv {mm : Kp} {N : Nat} {c : vC} {S : Sx} {r : Nat} {R : Rp} (hC : Cx S) (h : WC mm c (S.set r R)) (hr : r < S.N) (h6 : R.1 6 = 1) (hQ : QOk S R) : tr (F_X6_advance N c r r) (fun p => (R.2.1.dropWhile (fun q => y_known (S.set r R) r q) = [] ∧ p.2 = none ∧ WC mm p.1 (S.set r R)) ∨ ∃ q qs a, R.2.1.dropWhile (fun q => y_known (S.set r R) r q) = q :: qs ∧ p.2 = some a ∧ 0 < q ∧ q < S.1 4 ∧ WC mm p.1 (S.set r (R.q (q :: qs))) ∧ RqA p.1 a (S.tb q)) := by
  have hQ' := hQ
  obtain ⟨hq8, hq⟩ := hQ
  have hqu := WC_qu h hr h6
  have s4 := (WC_st h hr h6).2.2.2.1
  unfold F_X6_advance
  have main : ∀ (d i fl : Nat), i + d = R.2.1.length → d < fl → (∀ k, k < i → y_known (S.set r R) r (R.2.1.getD k 0) = true) → tr (L_X6_advance_2 N r r (fun (M6 : vC) (l7 : Int32) => (F_X6_dropFirst N M6 r (l7)).bind fun M8 => (cGQ M8 600 r ((0 : Int32))).bind fun v9 => some (M8, (v9))) (fun (M10 : vC) => some (M10, none)) fl c (nI i)) (fun p => (R.2.1.dropWhile (fun q => y_known (S.set r R) r q) = [] ∧ p.2 = none ∧ WC mm p.1 (S.set r R)) ∨ ∃ q qs a, R.2.1.dropWhile (fun q => y_known (S.set r R) r q) = q :: qs ∧ p.2 = some a ∧ 0 < q ∧ q < S.1 4 ∧ WC mm p.1 (S.set r (R.q (q :: qs))) ∧ RqA p.1 a (S.tb q)) := by
    intro d
    induction d with
    | zero =>
      intro i fl h1 h2 hn
      obtain ⟨fl, rfl⟩ : ∃ f', fl = f' + 1 := ⟨fl - 1, by omega⟩
      rw [L_X6_advance_2, hqu.1, if_pos (nI_le (by omega) (by omega))]
      refine tr_some (Or.inl ⟨?_, rfl, h⟩)
      rw [dW_drop _ _ i hn (by omega) (Or.inl (by omega)), List.drop_eq_nil_of_le (by omega)]
    | succ d ih =>
      intro i fl h1 h2 hn
      obtain ⟨fl, rfl⟩ : ∃ f', fl = f' + 1 := ⟨fl - 1, by omega⟩
      have hi : i < R.2.1.length := by omega
      have hm := getD_mem hi
      obtain ⟨h0', hn'⟩ := hq _ hm
      obtain ⟨a', ea, ha'⟩ := (hqu.2 i hi).2 h0'
      rw [L_X6_advance_2, hqu.1, if_neg (nI_ge hi (by omega)), cQv (show i < 8 by omega) (by omega), Option.bind_some, ea, c_isNewS (ixx := R.1 7) hC s4 ha', b2_]
      by_cases cf : y_fresh S (R.1 7) (R.2.1.getD i 0)
      · rw [if_pos cf, if_neg (by decide)]
        have hk : y_known (S.set r R) r (R.2.1.getD i 0) = false := by
          have := kn_fr (S := S) (r := r) (R := R) (q := R.2.1.getD i 0)
          rw [decide_eq_true cf] at this
          cases hh : y_known (S.set r R) r (R.2.1.getD i 0)
          · rfl
          · rw [hh] at this; exact absurd this (by decide)
        have hd := dW_drop _ _ i hn (by omega) (Or.inr hk)
        have hd2 : R.2.1.drop i = R.2.1.getD i 0 :: R.2.1.drop (i + 1) := by
          rw [List.drop_eq_getElem_cons hi, List.getD_eq_getElem?_getD, List.getElem?_eq_getElem hi]; rfl
        refine tr_bind (c_dropF h hr h6 hQ' (n := i) (by omega)) fun c2 w2 => ?_
        rw [hd2] at w2
        rw [hd, hd2]
        have hqu2 := WC_qu w2 hr h6
        obtain ⟨a2, ea2, ha2⟩ := (hqu2.2 0 (Nat.zero_lt_succ _)).2 (show 0 < R.2.1.getD i 0 from h0')
        rw [show (0 : Int32) = nI 0 from rfl, cQv (show 0 < 8 by decide) (by decide), Option.bind_some, ea2]
        exact tr_some (Or.inr ⟨_, _, a2, rfl, rfl, h0', hn', w2, ha2⟩)
      · rw [if_neg cf, if_pos rfl, nI_add1]
        refine ih (i + 1) fl (by omega) (by omega) fun k hk => ?_
        by_cases ek : k = i
        · subst ek
          have := kn_fr (S := S) (r := r) (R := R) (q := R.2.1.getD k 0)
          rw [decide_eq_false cf] at this
          cases hh : y_known (S.set r R) r (R.2.1.getD k 0)
          · rw [hh] at this; exact absurd this (by decide)
          · rfl
        · exact hn k (by omega)
  exact main R.2.1.length 0 fu (by omega) (by show _ < 32768; omega) (fun k hk => absurd hk (Nat.not_lt_zero _))
theorem c_first {mm : Kp} {N : Nat} {c : vC} {S : Sx} {r : Nat} {R : Rp} (h : WC mm c (S.set r R)) (hr : r < S.N) (h6 : R.1 6 = 1) (hQ : QOk S R) (hl : 0 < R.2.1.length) : ∃ a, F_X6_first N c r = some (c, some a) ∧ RqA c a (S.tb (R.2.1.headD 0)) ∧ 0 < R.2.1.headD 0 := by
  have hqu := WC_qu h hr h6
  have hm := getD_mem hl
  obtain ⟨h0', hn'⟩ := hQ.2 _ hm
  obtain ⟨a', ea, ha'⟩ := (hqu.2 0 hl).2 h0'
  rw [← headD_get] at h0' ha'
  refine ⟨a', ?_, ha', h0'⟩
  have := hQ.1
  unfold F_X6_first
  rw [hqu.1, if_neg (show ¬ nI R.2.1.length ≤ (0 : Int32) from nI_ge (a := 0) hl (by omega)), show (0 : Int32) = nI 0 from rfl, cQv (show 0 < 8 by decide) (by decide), Option.bind_some, ea]
