/-! ===== the reference's queues ===== -/
theorem RR_q' {V : Nat} {st : Nat → Sta} {lg : Nat → Nat} {w w' : Nat → Nat → Int32} {R : Rp} {l : List Nat} (h : RR V st lg w R) (hn : ∀ k x, k ≠ 26 → k ≠ 27 → w' k x = w k x) (h1 : ∀ k, k < l.length → w' 26 k = nI (l.getD k 0)) (h2 : w' 27 0 = nI l.length) : RR V st lg w' (R.q l) := by
  obtain ⟨a1, a2, a3, a4, a5, a6, a7, a8, a9, a10, a11⟩ := h
  refine ⟨fun k hk => ?_, fun i k b1 b2 b3 => ?_, fun i b1 b2 b3 => ?_, fun i b1 b2 => ?_, fun s hs => ?_, fun s hs => ?_, h1, h2, fun k hk => ?_, ?_, fun a ha => ?_⟩
  · rw [hn k 0 (fun e => by rw [e] at hk; exact absurd hk (by decide)) (fun e => by rw [e] at hk; exact absurd hk (by decide))]; exact a1 k hk
  · rw [hn _ _ (by decide) (by decide)]; exact a2 i k b1 b2 b3
  · rw [hn _ _ (by decide) (by decide)]; exact a3 i b1 b2 b3
  · rw [hn _ _ (by decide) (by decide)]; exact a4 i b1 b2
  · rw [hn _ _ (by decide) (by decide)]; exact a5 s hs
  · rw [hn _ _ (by decide) (by decide)]; exact a6 s hs
  · obtain ⟨q1, q2, q3, q4, q5, q6⟩ := a9 k hk
    have e29 : w' 29 = w 29 := funext fun x => hn _ _ (by decide) (by decide)
    refine ⟨?_, ?_, ?_, ?_, fun e => ?_, fun e x hx => ?_⟩
    · rw [hn _ _ (by decide) (by decide)]; exact q1
    · rw [hn _ _ (by decide) (by decide)]; exact q2
    · rw [hn _ _ (by decide) (by decide)]; exact q3
    · rw [hn _ _ (by decide) (by decide)]; exact q4
    · rw [e29]; exact q5 e
    · rw [hn _ _ (by decide) (by decide)]; exact q6 e x hx
  · rw [hn _ _ (by decide) (by decide)]; exact a10
  · rw [hn _ _ (by decide) (by decide)]; exact a11 a ha
theorem WM_q {M M' : vM} {S : Sx} {r : Nat} {R : Rp} {l : List Nat} (h : WM M (S.set r R)) (hr : r < 9) (e0 : M'.1 = M.1) (hn : ∀ k, k ≠ 26 → k ≠ 27 → M'.2 k = M.2 k) (o1 : ∀ x, (x < 8 * r ∨ 8 * r + 8 ≤ x) → M'.2 26 x = M.2 26 x) (o2 : ∀ x, x ≠ r → M'.2 27 x = M.2 27 x) (h8 : l.length ≤ 8) (h1 : ∀ k, k < l.length → M'.2 26 (8 * r + k) = nI (l.getD k 0)) (h2 : M'.2 27 r = nI l.length) : WM M' (S.set r (R.q l)) := by
  refine WM_zk h hr ⟨e0, fun j x hx => ?_⟩ (RR_q' (WM_r h hr) (fun k x k1 k2 => ?_) (fun k hk => ?_) ?_)
  · by_cases e : j = 26
    · subst e; exact o1 x hx
    · by_cases e2 : j = 27
      · subst e2
        have hx' : x < 1 * r ∨ 1 * r + 1 ≤ x := hx
        exact o2 x (by omega)
      · rw [hn j e e2]
  · unfold vw; rw [hn k k1 k2]
  · rw [vw_a (show k < 8 by omega)]; exact h1 k hk
  · rw [vw_1 rfl]; exact h2
theorem WM_qg {M : vM} {S : Sx} {r k : Nat} {R : Rp} (h : WM M (S.set r R)) (hr : r < 9) (h8 : R.2.1.length ≤ 8) (hk : k < R.2.1.length) : M.2 26 (8 * r + k) = nI (R.2.1.getD k 0) := by
  have := (WM_r h hr).2.2.2.2.2.2.1 k hk
  rw [vw_a (show k < 8 by omega)] at this
  exact this
theorem WM_ql' {M : vM} {S : Sx} {r : Nat} {R : Rp} (h : WM M (S.set r R)) (hr : r < 9) : M.2 27 r = nI R.2.1.length := by
  have := (WM_r h hr).2.2.2.2.2.2.2.1
  rw [vw_1 rfl] at this
  exact this
theorem er_get (l : List Nat) (i k : Nat) : (l.eraseIdx i).getD k 0 = if k < i then l.getD k 0 else l.getD (k + 1) 0 := by
  rw [List.getD_eq_getElem?_getD, List.getElem?_eraseIdx]
  split
  · rw [List.getD_eq_getElem?_getD]
  · rw [List.getD_eq_getElem?_getD]
theorem r_drop {M : vM} {S : Sx} {r i : Nat} {R : Rp} {c2 : Int32} (h : WM M (S.set r R)) (hr : r < 9) (h8 : R.2.1.length ≤ 8) (hi : i < R.2.1.length) (e2 : c2 = nI i) : tr (F_X12_dropFirst M (nI r) c2) (fun M' => WM M' (S.set r (R.q (R.2.1.eraseIdx i)))) := by
  subst e2
  have hl : (R.2.1.eraseIdx i).length = R.2.1.length - 1 := by
    rw [List.length_eraseIdx, if_pos hi]
  unfold F_X12_dropFirst
  refine tr_G (show r < 9 from hr) (by omega) ?_
  rw [WM_ql' h hr, show nI R.2.1.length - (1 : Int32) = nI (R.2.1.length - 1) from nI_sub (b := 1) (by omega)]
  refine tr_S (show r < 9 from hr) (by omega) ?_
  refine tr_up (g := L_X12_dropFirst_12 (nI r) (fun (M7 : vM) => some M7)) (fun k M' => i ≤ k ∧ M'.1 = M.1 ∧ (∀ k, k ≠ 26 → k ≠ 27 → M'.2 k = M.2 k) ∧ (∀ x, (x < 8 * r ∨ 8 * r + 8 ≤ x) → M'.2 26 x = M.2 26 x) ∧ (∀ x, x ≠ r → M'.2 27 x = M.2 27 x) ∧ M'.2 27 r = nI (R.2.1.length - 1) ∧ (∀ x, x < 8 → M'.2 26 (8 * r + x) = if i ≤ x ∧ x < k then M.2 26 (8 * r + x + 1) else M.2 26 (8 * r + x))) (R.2.1.length - 1) (fun f M1 hP => ?_) (fun f k M1 hk hP ih => ?_) (R.2.1.length - 1 - i) i fu _ (by omega) (by show _ < 32768; omega) ⟨Nat.le_refl _, rfl, fun k k1 k2 => funext fun x => uE_j _ _ _ k2, fun x hx => uE_j _ _ _ (by decide), fun x hx => uE_i _ _ hx, uE_s _ _ _ _, fun x hx => by rw [if_neg (by omega)]; exact uE_j _ _ _ (by decide)⟩
  · obtain ⟨hki, p1, p2, p3, p4, p5, p6⟩ := hP
    rw [L_X12_dropFirst_12]
    refine tr_G (show r < 9 from hr) (by omega) ?_
    rw [p5, if_pos (Int32.le_refl _)]
    refine tr_some (WM_q h hr p1 p2 p3 p4 (by omega) (fun k hk => ?_) (by rw [p5, hl]))
    rw [hl] at hk
    rw [p6 k (by omega), er_get]
    by_cases c : k < i
    · rw [if_neg (by omega), if_pos c]; exact WM_qg h hr h8 (by omega)
    · rw [if_pos (by omega), if_neg c]; exact WM_qg (k := k + 1) h hr h8 (by omega)
  · obtain ⟨hki, p1, p2, p3, p4, p5, p6⟩ := hP
    rw [L_X12_dropFirst_12]
    refine tr_G (show r < 9 from hr) (by omega) ?_
    rw [p5]
    refine tr_le (by omega) (by omega) (fun c => by omega) (fun c => ?_)
    rw [show (8 : Int32) * nI r = nI (8 * r) from nI_mul 8 r, nI_add, nI_add1, nI_add1]
    refine tr_G (show _ < 72 by omega) (by omega) ?_
    refine tr_S (show _ < 72 by omega) (by omega) ?_
    refine ih _ ⟨by omega, p1, fun j j1 j2 => ?_, fun x hx => ?_, fun x hx => ?_, ?_, fun x hx => ?_⟩
    · rw [← p2 j j1 j2]; exact funext fun x => uE_j _ _ _ j1
    · rw [uE_i _ _ (by omega)]; exact p3 x hx
    · rw [uE_j _ _ _ (by decide)]; exact p4 x hx
    · rw [uE_j _ _ _ (by decide)]; exact p5
    · by_cases e : x = k
      · subst e
        rw [uE_s, if_pos (by omega)]
        have := p6 (x + 1) (by omega)
        rw [show 8 * r + (x + 1) = 8 * r + x + 1 by omega, if_neg (by omega)] at this
        exact this
      · rw [uE_i _ _ (by omega), p6 x hx]
        by_cases c2 : i ≤ x ∧ x < k
        · rw [if_pos c2, if_pos (by omega)]
        · rw [if_neg c2, if_neg (by omega)]
theorem r_known {M : vM} {S : Sx} {r q : Nat} (hC : Cx S) (h : WM M S) (hr : r < 9) (h0 : 0 < q) (hq : q < S.1 4) : F_X12_isKnown M (nI r) (nI q) = some (M, if y_known S r q = true then (1 : Int32) else 0) := by
  have hnr := hC.nr
  obtain ⟨ts, tq, tn⟩ := hC.tb q
  have w : WM M (S.set r (S.rp r)) := by rw [set_id]; exact h
  have sb := sta_b hC ((S.rp r).1 7) ((S.tb q).1 0)
  suffices hh : tr (F_X12_isKnown M (nI r) (nI q)) (fun p => p = (M, if y_known S r q = true then (1 : Int32) else 0)) by
    obtain ⟨a, e, rfl⟩ := hh
    exact e
  unfold F_X12_isKnown
  refine tr_G (show q < 4200 by omega) (by omega) ?_
  refine tr_G (show q < 4200 by omega) (by omega) ?_
  rw [WM_t h h0 hq (show 1 < 3 by decide), WM_t h h0 hq (show 0 < 3 by decide), show (16 : Int32) * nI r = nI (16 * r) from nI_mul 16 r, nI_add]
  refine tr_G (show _ < 144 by omega) (by omega) ?_
  rw [WM_sq w hr ts]
  refine tr_lt (by omega) (by omega) (fun c => ?_) (fun c => ?_)
  · refine tr_z0 (tr_some ?_)
    rw [if_neg (show ¬ y_known S r q = true by unfold y_known; rw [decide_eq_true_iff]; omega)]
  · refine tr_z1 (tr_some ?_)
    rw [if_pos (show y_known S r q = true by unfold y_known; rw [decide_eq_true_iff]; omega)]
def QOk (S : Sx) (R : Rp) : Prop := R.2.1.length ≤ 8 ∧ ∀ q, q ∈ R.2.1 → 0 < q ∧ q < S.1 4
theorem known_set {S : Sx} {r q : Nat} {l : List Nat} : y_known (S.set r ((S.rp r).q l)) r q = y_known S r q := by
  unfold y_known
  rw [set_rp]; rfl
theorem getD_mem {l : List Nat} {k : Nat} (h : k < l.length) : l.getD k 0 ∈ l := by
  rw [List.getD_eq_getElem?_getD, List.getElem?_eq_getElem h]
  exact List.getElem_mem h
theorem dW_drop (p : Nat → Bool) : ∀ (l : List Nat) (n : Nat), (∀ k, k < n → p (l.getD k 0) = true) → n ≤ l.length → (n = l.length ∨ p (l.getD n 0) = false) → l.dropWhile p = l.drop n := by
  intro l
  induction l with
  | nil => intro n _ h _; obtain rfl : n = 0 := by simpa using h
           rfl
  | cons a l ih =>
    intro n h1 h2 h3
    cases n with
    | zero =>
      rcases h3 with h3 | h3
      · exact absurd h3 (by simp)
      · have h3' : p a = false := h3
        rw [List.dropWhile_cons, h3']; rfl
    | succ n =>
      have ha : p a = true := h1 0 (by omega)
      rw [List.dropWhile_cons, ha, if_pos rfl, List.drop_succ_cons]
      refine ih n (fun k hk => h1 (k + 1) (by omega)) (by simpa using h2) ?_
      rcases h3 with h3 | h3
      · left; simpa using h3
      · right; exact h3
theorem drop_er (l : List Nat) (n : Nat) : (l.drop n).eraseIdx 0 = l.drop (n + 1) := by
  rw [List.eraseIdx_zero, List.tail_drop]
theorem q_p51 {ρ : Type} {kx : vM → Option ρ} {Q : ρ → Prop} {M : vM} {S : Sx} {r n : Nat} {R : Rp} (h : WM M (S.set r R)) (hr : r < 9) (h8 : R.2.1.length ≤ 8) (hn : n ≤ R.2.1.length) (g : ∀ M', WM M' (S.set r (R.q (R.2.1.drop n))) → tr (kx M') Q) : tr (L_X12_propose_51 (nI r) (nI n) kx fu M 0) Q := by
  refine tr_up0 (g := L_X12_propose_51 (nI r) (nI n) kx) (fun k M' => WM M' (S.set r (R.q (R.2.1.drop k)))) n (by omega) (fun f M1 hP => ?_) (fun f k M1 hk hP ih => ?_) M h
  · rw [L_X12_propose_51, if_pos (Int32.le_refl _)]
    exact g M1 hP
  · rw [L_X12_propose_51, if_neg (nI_ge hk (by omega)), nI_add1]
    have hlen : (R.2.1.drop k).length = R.2.1.length - k := List.length_drop
    refine tr_bind (r_drop (i := 0) hP hr (by show (R.2.1.drop k).length ≤ 8; omega) (by show 0 < (R.2.1.drop k).length; omega) rfl) fun M2 w2 => ?_
    refine ih M2 ?_
    have e : (R.q (R.2.1.drop k)).q ((R.q (R.2.1.drop k)).2.1.eraseIdx 0) = R.q (R.2.1.drop (k + 1)) := by
      show R.q ((R.2.1.drop k).eraseIdx 0) = _
      rw [drop_er]
    rw [e] at w2
    exact w2
/-- the queue's decided ones go, from the last to the first -/
theorem q_t111 {M : vM} {S : Sx} {r : Nat} (hC : Cx S) (h : WM M S) (hr : r < 9) (hQ : QOk S (S.rp r)) : tr (L_X12_tell_111 (nI r) (fun (M26 : vM) => some M26) fu M (nI (S.rp r).2.1.length - 1)) (fun M' => WM M' (S.set r ((S.rp r).q ((S.rp r).2.1.filter (fun q => !y_known S r q))))) := by
  obtain ⟨q8, qi⟩ := hQ
  refine tr_down (g := L_X12_tell_111 (nI r) (fun (M26 : vM) => some M26)) (fun t M' => t ≤ (S.rp r).2.1.length ∧ WM M' (S.set r ((S.rp r).q ((S.rp r).2.1.take t ++ ((S.rp r).2.1.drop t).filter (fun q => !y_known S r q))))) 0 (fun f M1 hP => ?_) (fun f k M1 hk hP ih => ?_) (S.rp r).2.1.length _ fu M (by omega) (by show _ < 32768; omega) ⟨Nat.le_refl _, ?_⟩
  · obtain ⟨_, p⟩ := hP
    rw [L_X12_tell_111, if_pos (show nI 0 - 1 < 0 by decide)]
    exact tr_some p
  · obtain ⟨hk2, p⟩ := hP
    have hmem : (S.rp r).2.1.getD k 0 ∈ (S.rp r).2.1 := getD_mem (by omega)
    obtain ⟨m0, m1⟩ := qi _ hmem
    have hlen : ((S.rp r).2.1.take (k + 1) ++ ((S.rp r).2.1.drop (k + 1)).filter (fun q => !y_known S r q)).length ≤ 8 := by
      rw [List.length_append, List.length_take]
      have := List.length_filter_le (fun q => !y_known S r q) ((S.rp r).2.1.drop (k + 1))
      rw [List.length_drop] at this
      omega
    have hkl : k < ((S.rp r).2.1.take (k + 1) ++ ((S.rp r).2.1.drop (k + 1)).filter (fun q => !y_known S r q)).length := by
      rw [List.length_append, List.length_take]; omega
    have hget : ((S.rp r).2.1.take (k + 1) ++ ((S.rp r).2.1.drop (k + 1)).filter (fun q => !y_known S r q)).getD k 0 = (S.rp r).2.1.getD k 0 := by
      rw [List.getD_eq_getElem?_getD, List.getElem?_append_left (by rw [List.length_take]; omega), List.getElem?_take, if_pos (by omega), ← List.getD_eq_getElem?_getD]
    rw [L_X12_tell_111, if_neg (nIn (by omega)), show (8 : Int32) * nI r = nI (8 * r) from nI_mul 8 r, nI_add, nI_m1]
    refine tr_G (show _ < 72 by omega) (by omega) ?_
    rw [WM_qg p hr hlen hkl]
    show tr (b2 (F_X12_isKnown M1 (nI r) (nI (((S.rp r).2.1.take (k + 1) ++ ((S.rp r).2.1.drop (k + 1)).filter (fun q => !y_known S r q)).getD k 0))) _) _
    rw [hget, r_known (hC.set r _) p hr m0 m1, b2_, known_set]
    have ed : (S.rp r).2.1.drop k = (S.rp r).2.1.getD k 0 :: (S.rp r).2.1.drop (k + 1) := by
      rw [List.drop_eq_getElem_cons (by omega), List.getD_eq_getElem?_getD, List.getElem?_eq_getElem (by omega)]; rfl
    have et : (S.rp r).2.1.take (k + 1) = (S.rp r).2.1.take k ++ [(S.rp r).2.1.getD k 0] := by
      rw [List.take_succ_eq_append_getElem (by omega), List.getD_eq_getElem?_getD, List.getElem?_eq_getElem (by omega)]; rfl
    refine tr_if (fun c => ?_) (fun c => ?_)
    · refine ih M1 ⟨by omega, ?_⟩
      rw [ed, List.filter_cons_of_pos (by rw [c]; rfl)]
      rw [et, List.append_assoc] at p
      exact p
    · refine tr_bind (r_drop (i := k) p hr hlen hkl rfl) fun M2 w2 => ?_
      refine ih M2 ⟨by omega, ?_⟩
      rw [ed, List.filter_cons_of_neg (by rw [c]; decide)]
      have e : ((S.rp r).2.1.take (k + 1) ++ ((S.rp r).2.1.drop (k + 1)).filter (fun q => !y_known S r q)).eraseIdx k = (S.rp r).2.1.take k ++ ((S.rp r).2.1.drop (k + 1)).filter (fun q => !y_known S r q) := by
        rw [et, List.append_assoc, List.eraseIdx_append_of_length_le (by rw [List.length_take]; omega), List.length_take, show k - min k (S.rp r).2.1.length = 0 by omega]
        rfl
      have w2' : WM M2 (S.set r ((S.rp r).q (((S.rp r).2.1.take (k + 1) ++ ((S.rp r).2.1.drop (k + 1)).filter (fun q => !y_known S r q)).eraseIdx k))) := w2
      rw [e] at w2'
      exact w2'
  · rw [List.take_length, List.drop_length, List.filter_nil, List.append_nil, show (S.rp r).q (S.rp r).2.1 = S.rp r from rfl, set_id]
    exact h
theorem r_wait {M : vM} {S : Sx} {r q : Nat} (hC : Cx S) (h : WM M S) (hr : r < 9) (hq : q < S.1 4) (hQ : QOk S (S.rp r)) : tr (F_X12_waitAt M (nI r) (nI q)) (fun M' => WM M' (y_wait S r q)) := by
  obtain ⟨q8, qi⟩ := hQ
  have hnr := hC.nr
  have w : WM M (S.set r (S.rp r)) := by rw [set_id]; exact h
  unfold F_X12_waitAt
  have loop : ∀ d k fl (l3 : Int32), k + d = (S.rp r).2.1.length → d < fl → (l3 = if q ∈ (S.rp r).2.1.take k then 1 else 0) → tr (L_X12_waitAt_5 (nI r) (nI q) (fun (M6 : vM) (l7 : Int32) => if l7 = 0 then ((mG M6 27 (nI r)).bind fun v8 => if (8 : Int32) ≤ v8 then (some M6) else ((mG M6 27 (nI r)).bind fun v9 => (mS M6 26 ((((8 : Int32) * nI r) + v9)) (nI q)).bind fun M10 => (mG M10 27 (nI r)).bind fun v11 => (mS M10 27 (nI r) ((v11 + (1 : Int32)))).bind fun M12 => some M12)) else (some M6)) fl M l3 (nI k)) (fun M' => WM M' (y_wait S r q)) := by
    intro d
    induction d with
    | zero =>
      intro k fl l3 h1 h2 h3
      obtain ⟨fl, rfl⟩ : ∃ f', fl = f' + 1 := ⟨fl - 1, by omega⟩
      obtain rfl : k = (S.rp r).2.1.length := by omega
      rw [List.take_length] at h3
      rw [L_X12_waitAt_5]
      refine tr_G (show r < 9 from hr) (by omega) ?_
      rw [WM_ql' w hr, if_pos (Int32.le_refl _)]
      unfold y_wait
      by_cases c : q ∈ (S.rp r).2.1
      · rw [h3, if_pos c, if_neg (by decide)]
        rw [if_pos (Or.inl c)]
        exact tr_some h
      · rw [h3, if_neg c, if_pos rfl]
        refine tr_G (show r < 9 from hr) (by omega) ?_
        rw [WM_ql' w hr]
        refine tr_le (a := 8) (by decide) (by omega) (fun c8 => ?_) (fun c8 => ?_)
        · rw [if_pos (Or.inr c8)]
          exact tr_some h
        · rw [if_neg (by rintro (a | a); exact c a; omega)]
          refine tr_G (show r < 9 from hr) (by omega) ?_
          rw [WM_ql' w hr, show (8 : Int32) * nI r = nI (8 * r) from nI_mul 8 r, nI_add]
          refine tr_S (show _ < 72 by omega) (by omega) ?_
          refine tr_G (show r < 9 from hr) (by omega) ?_
          rw [uE_j _ _ _ (by decide), WM_ql' w hr, nI_add1]
          refine tr_S (show r < 9 from hr) (by omega) ?_
          refine tr_some ?_
          have hl : ((S.rp r).2.1 ++ [q]).length = (S.rp r).2.1.length + 1 := by rw [List.length_append]; rfl
          refine WM_q w hr rfl (fun k k1 k2 => funext fun x => by rw [uE_j _ _ _ k2, uE_j _ _ _ k1]) (fun x hx => by rw [uE_j _ _ _ (by decide), uE_i _ _ (by omega)]) (fun x hx => by rw [uE_i _ _ hx, uE_j _ _ _ (by decide)]) (by omega) (fun k hk => ?_) (by rw [uE_s, hl])
          rw [hl] at hk
          rw [uE_j _ _ _ (by decide)]
          by_cases e : k = (S.rp r).2.1.length
          · subst e
            rw [uE_s, List.getD_eq_getElem?_getD, List.getElem?_append_right (Nat.le_refl _), Nat.sub_self]; rfl
          · rw [uE_i _ _ (by omega), List.getD_eq_getElem?_getD, List.getElem?_append_left (by omega), ← List.getD_eq_getElem?_getD]
            exact WM_qg w hr q8 (by omega)
    | succ d ih =>
      intro k fl l3 h1 h2 h3
      obtain ⟨fl, rfl⟩ : ∃ f', fl = f' + 1 := ⟨fl - 1, by omega⟩
      have et : (S.rp r).2.1.take (k + 1) = (S.rp r).2.1.take k ++ [(S.rp r).2.1.getD k 0] := by
        rw [List.take_succ_eq_append_getElem (by omega), List.getD_eq_getElem?_getD, List.getElem?_eq_getElem (by omega)]; rfl
      rw [L_X12_waitAt_5]
      refine tr_G (show r < 9 from hr) (by omega) ?_
      rw [WM_ql' w hr, if_neg (nI_ge (by omega) (by omega)), nI_add1]
      by_cases c : q ∈ (S.rp r).2.1.take k
      · rw [h3, if_pos c, if_neg (by decide)]
        refine ih (k + 1) fl 1 (by omega) (by omega) ?_
        rw [if_pos (by rw [et]; exact List.mem_append_left _ c)]
      · rw [h3, if_neg c, if_pos rfl, show (8 : Int32) * nI r + nI k = nI (8 * r + k) by rw [show (8 : Int32) * nI r = nI (8 * r) from nI_mul 8 r, nI_add]]
        refine tr_G (show _ < 72 by omega) (by omega) ?_
        rw [WM_qg w hr q8 (by omega)]
        have hm := qi _ (getD_mem (l := (S.rp r).2.1) (k := k) (by omega))
        refine tr_eq (by omega) (by omega) (fun e => ?_) (fun e => ?_)
        · refine ih (k + 1) fl 1 (by omega) (by omega) ?_
          rw [if_pos (by rw [et, ← e]; exact List.mem_append_right _ (List.mem_singleton.mpr rfl))]
        · refine ih (k + 1) fl 0 (by omega) (by omega) ?_
          rw [if_neg (by
            rw [et]
            intro hc
            rcases List.mem_append.mp hc with a | a
            · exact c a
            · exact e (List.mem_singleton.mp a).symm)]
  have := loop (S.rp r).2.1.length 0 fu 0 (by omega) (by show _ < 32768; omega) (by rw [List.take_zero, if_neg (by simp)])
  rw [nI_0] at this
  exact this
