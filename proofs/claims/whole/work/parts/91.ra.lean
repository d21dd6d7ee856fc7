/-! ===== the reference sends ===== -/
theorem mW_s (M : vM) (f : Nat) (v : Int32) : (mW M f v).1 f = v := by
  unfold mW
  exact va_up_self _ _ _
theorem WM_f {M : vM} {S : Sx} {f v : Nat} (h : WM M S) (hf : f = 54 ∨ f = 55 ∨ f = 56) : WM (mW M f (nI v)) (S.u f v) := by
  obtain ⟨h1, h2, h3, h4, h5, h6⟩ := h
  have e : ∀ g, g < 54 → (S.u f v).1 g = S.1 g := fun g hg => va_up_ne _ _ (by omega)
  have eV : (S.u f v).V = S.V := e 2 (by decide)
  have eS : (S.u f v).sta = S.sta := by
    funext i
    show stN ((S.u f v).1 2) S.tb S.lg i = stN (S.1 2) S.tb S.lg i
    rw [e 2 (by decide)]
  refine ⟨fun g hg => ?_, ?_, ?_, fun r hr => ?_, h5, fun i hi => ?_⟩
  · by_cases q : g = f
    · subst q
      show va_up M.1 g (nI v) g = nI (va_up S.1 g v g)
      rw [va_up_self, va_up_self]
    · rw [mW_1 _ _ _ q, h1 g hg]
      exact congrArg nI (va_up_ne _ _ q).symm
  · rw [mW_1 _ _ _ (by omega)]; exact h2
  · show RT M.2 S.tb ((S.u f v).1 4)
    rw [e 4 (by decide)]; exact h3
  · rw [eV, eS]; exact h4 r hr
  · rw [eV, eS]; exact h6 i hi
theorem WM_snd {M M' : vM} {S : Sx} {m : Mg} (h : WM M S) (e0 : ∀ f, f ≠ 53 → M'.1 f = M.1 f) (e1 : M'.1 53 = nI (S.fl.length + 1)) (e2 : ∀ j, j ≠ 39 → j ≠ 40 → j ≠ 41 → M'.2 j = M.2 j) (e3 : ∀ x, x < 8 * S.fl.length → M'.2 39 x = M.2 39 x) (e4 : ∀ x, x < 100 * S.fl.length → M'.2 40 x = M.2 40 x) (e5 : ∀ x, x < S.fl.length → M'.2 41 x = M.2 41 x) (hV : S.V ≤ 16) (g : RG M'.2 S.V S.sta S.fl.length m) : WM M' (S.setf (S.fl ++ [m])) := by
  obtain ⟨h1, h2, h3, h4, h5, h6⟩ := h
  have ev : ∀ r, vw M' r = vw M r := fun r => by
    funext j i
    unfold vw
    by_cases hz : i < zs j
    · rw [if_pos hz, if_pos hz]
      obtain ⟨z1, z2, z3, z4, z5, _⟩ := zs_0 (j := j) (by omega)
      rw [e2 j z3 z4 z5]
    · rw [if_neg hz, if_neg hz]
  refine ⟨fun f hf => ?_, ?_, RT_c (fun f hf => e2 f (by omega) (by omega) (by omega)) h3, fun r hr => by rw [ev]; exact h4 r hr, fun s hs => RS_c (fun f hf => e2 f (by omega) (by omega) (by omega)) (h5 s hs), fun i hi => ?_⟩
  · rw [e0 f (fun e => by rw [e] at hf; exact absurd hf (by decide))]; exact h1 f hf
  · rw [e1]
    show _ = nI (S.fl ++ [m]).length
    rw [List.length_append]; rfl
  · show RG M'.2 S.V S.sta i ((S.fl ++ [m]).getD i mgD)
    have hi' : i < (S.fl ++ [m]).length := hi
    rw [List.length_append] at hi'
    simp only [List.length_cons, List.length_nil] at hi'
    by_cases e : i < S.fl.length
    · rw [List.getD_eq_getElem?_getD, List.getElem?_append_left e, ← List.getD_eq_getElem?_getD]
      obtain ⟨a1, a2, a3⟩ := h6 i e
      refine ⟨fun f hf => by rw [e3 _ (by omega)]; exact a1 f hf, by rw [e5 _ e]; exact a2, fun q => ?_⟩
      obtain ⟨p1, p2, p3, p4, p5⟩ := a3 q
      have hV' : S.V ≤ 16 := hV
      exact ⟨by rw [e4 _ (by omega)]; exact p1, fun k hk => by rw [e4 _ (by omega)]; exact p2 k hk, fun k hk => by rw [e4 _ (by omega)]; exact p3 k hk, fun k hk => by rw [e4 _ (by omega)]; exact p4 k hk, fun v hv => by
        have hv' : v < S.V := hv
        rw [e4 _ (by omega)]; exact p5 v hv⟩
    · obtain rfl : i = S.fl.length := by omega
      rw [List.getD_eq_getElem?_getD, List.getElem?_append_right (Nat.le_refl _), Nat.sub_self]
      exact g
/-- eight numbers of a message -/
theorem q_msg {ρ : Type} {M : vM} {n : Nat} {a0 a1 a2 a3 a4 a5 a6 a7 : Int32} {K : vM → Option ρ} {Q : ρ → Prop} (hn : n < 201) (g : ∀ M', M'.1 = M.1 → (∀ j, j ≠ 39 → M'.2 j = M.2 j) → (∀ x, x < 8 * n → M'.2 39 x = M.2 39 x) → M'.2 39 (8 * n) = a0 → M'.2 39 (8 * n + 1) = a1 → M'.2 39 (8 * n + 2) = a2 → M'.2 39 (8 * n + 3) = a3 → M'.2 39 (8 * n + 4) = a4 → M'.2 39 (8 * n + 5) = a5 → M'.2 39 (8 * n + 6) = a6 → M'.2 39 (8 * n + 7) = a7 → tr (K M') Q) : tr ((mS M 39 ((8 : Int32) * nI n) a0).bind fun M2 => (mS M2 39 ((8 : Int32) * nI n + (1 : Int32)) a1).bind fun M3 => (mS M3 39 ((8 : Int32) * nI n + (2 : Int32)) a2).bind fun M4 => (mS M4 39 ((8 : Int32) * nI n + (3 : Int32)) a3).bind fun M5 => (mS M5 39 ((8 : Int32) * nI n + (4 : Int32)) a4).bind fun M6 => (mS M6 39 ((8 : Int32) * nI n + (5 : Int32)) a5).bind fun M7 => (mS M7 39 ((8 : Int32) * nI n + (6 : Int32)) a6).bind fun M8 => (mS M8 39 ((8 : Int32) * nI n + (7 : Int32)) a7).bind K) Q := by
  rw [show (8 : Int32) * nI n = nI (8 * n) from nI_mul 8 n, show nI (8 * n) + (1 : Int32) = nI (8 * n + 1) from nI_add _ 1, show nI (8 * n) + (2 : Int32) = nI (8 * n + 2) from nI_add _ 2, show nI (8 * n) + (3 : Int32) = nI (8 * n + 3) from nI_add _ 3, show nI (8 * n) + (4 : Int32) = nI (8 * n + 4) from nI_add _ 4, show nI (8 * n) + (5 : Int32) = nI (8 * n + 5) from nI_add _ 5, show nI (8 * n) + (6 : Int32) = nI (8 * n + 6) from nI_add _ 6, show nI (8 * n) + (7 : Int32) = nI (8 * n + 7) from nI_add _ 7]
  refine tr_S (show _ < 1608 by omega) (by omega) ?_
  refine tr_S (show _ < 1608 by omega) (by omega) ?_
  refine tr_S (show _ < 1608 by omega) (by omega) ?_
  refine tr_S (show _ < 1608 by omega) (by omega) ?_
  refine tr_S (show _ < 1608 by omega) (by omega) ?_
  refine tr_S (show _ < 1608 by omega) (by omega) ?_
  refine tr_S (show _ < 1608 by omega) (by omega) ?_
  refine tr_S (show _ < 1608 by omega) (by omega) ?_
  refine g _ rfl (fun j hj => funext fun x => ?_) (fun x hx => ?_) ?_ ?_ ?_ ?_ ?_ ?_ ?_ ?_
  · rw [uE_j _ _ _ hj, uE_j _ _ _ hj, uE_j _ _ _ hj, uE_j _ _ _ hj, uE_j _ _ _ hj, uE_j _ _ _ hj, uE_j _ _ _ hj, uE_j _ _ _ hj]
  · rw [uE_i _ _ (by omega), uE_i _ _ (by omega), uE_i _ _ (by omega), uE_i _ _ (by omega), uE_i _ _ (by omega), uE_i _ _ (by omega), uE_i _ _ (by omega), uE_i _ _ (by omega)]
  · rw [uE_i _ _ (by omega), uE_i _ _ (by omega), uE_i _ _ (by omega), uE_i _ _ (by omega), uE_i _ _ (by omega), uE_i _ _ (by omega), uE_i _ _ (by omega), uE_s]
  · rw [uE_i _ _ (by omega), uE_i _ _ (by omega), uE_i _ _ (by omega), uE_i _ _ (by omega), uE_i _ _ (by omega), uE_i _ _ (by omega), uE_s]
  · rw [uE_i _ _ (by omega), uE_i _ _ (by omega), uE_i _ _ (by omega), uE_i _ _ (by omega), uE_i _ _ (by omega), uE_s]
  · rw [uE_i _ _ (by omega), uE_i _ _ (by omega), uE_i _ _ (by omega), uE_i _ _ (by omega), uE_s]
  · rw [uE_i _ _ (by omega), uE_i _ _ (by omega), uE_i _ _ (by omega), uE_s]
  · rw [uE_i _ _ (by omega), uE_i _ _ (by omega), uE_s]
  · rw [uE_i _ _ (by omega), uE_s]
  · rw [uE_s]
theorem RG_mk {A : Nat → Nat → Int32} {V n kd fr tt bl sl rq td pc : Nat} {st : Nat → Sta} (a0 : A 39 (8 * n) = nI kd) (a1 : A 39 (8 * n + 1) = nI fr) (a2 : A 39 (8 * n + 2) = nI tt) (a3 : A 39 (8 * n + 3) = nI bl) (a4 : A 39 (8 * n + 4) = nI sl) (a5 : A 39 (8 * n + 5) = nI rq) (a6 : A 39 (8 * n + 6) = nI td) (a7 : A 39 (8 * n + 7) = 0) (b : A 41 n = if kd = 8 then nI pc else -1) (c : kd = 8 → imA (A 40) (100 * n) V (st sl) sl) : RG A V st n (y_msg kd fr tt bl sl rq td pc) := by
  refine ⟨fun f hf => ?_, b, c⟩
  have : f = 0 ∨ f = 1 ∨ f = 2 ∨ f = 3 ∨ f = 4 ∨ f = 5 ∨ f = 6 ∨ f = 7 := by omega
  rcases this with rfl | rfl | rfl | rfl | rfl | rfl | rfl | rfl
  · exact a0
  · exact a1
  · exact a2
  · exact a3
  · exact a4
  · exact a5
  · exact a6
  · exact a7
theorem r_send {M : vM} {S : Sx} {kd fr tt bl sl rq td : Nat} {c1 c2 c3 c4 c5 c6 c7 : Int32} (hC : Cx S) (h : WM M S) (hfl : S.fl.length ≤ 200) (hk : kd < 8 ∨ (8 < kd ∧ kd < 11)) (e1 : c1 = nI kd) (e2 : c2 = nI fr) (e3 : c3 = nI tt) (e4 : c4 = nI bl) (e5 : c5 = nI sl) (e6 : c6 = nI rq) (e7 : c7 = nI td) : tr (F_X12_send M c1 c2 c3 c4 c5 c6 c7) (fun M' => WM M' (y_send S (y_msg kd fr tt bl sl rq td 0))) := by
  subst e1; subst e2; subst e3; subst e4; subst e5; subst e6; subst e7
  unfold F_X12_send
  rw [l1_]
  have w1 : WM (mW M 54 (M.1 54 + 1)) (S.u 54 (S.1 54 + 1)) := by
    rw [h.1 54 rfl, nI_add1]; exact WM_f h (Or.inl rfl)
  have e53 : (mW M 54 (M.1 54 + 1)).1 53 = nI S.fl.length := w1.2.1
  rw [e53]
  refine tr_eq (b := 200) (by omega) (by decide) (fun c => ?_) (fun c => ?_)
  · rw [l1_]
    refine tr_some ?_
    unfold y_send
    rw [if_pos c, w1.1 55 rfl, nI_add1]
    exact WM_f w1 (Or.inr (Or.inl rfl))
  · refine q_msg (by omega) fun M9 k1 k2 k3 m0 m1 m2 m3 m4 m5 m6 m7 => ?_
    have e53' : M9.1 53 = nI S.fl.length := by rw [k1]; exact e53
    refine tr_jn ?_
    show tr (if nI kd = nI 8 then _ else _) _
    refine tr_eq (by omega) (by decide) (fun q => by omega) (fun _ => ?_)
    rw [e53']
    refine tr_S (show _ < 201 by omega) (by omega) ?_
    refine tr_jn ?_
    show tr (if nI kd = nI 8 then _ else _) _
    refine tr_eq (by omega) (by decide) (fun q => by omega) (fun _ => ?_)
    refine tr_l1 (tr_some ?_)
    unfold y_send
    rw [if_neg c]
    have e53'' : (uE M9 41 S.fl.length (-1)).1 53 = nI S.fl.length := e53'
    rw [e53'', nI_add1]
    refine WM_snd (S := S.u 54 (S.1 54 + 1)) w1 (fun f hf => ?_) ?_ (fun j j1 j2 j3 => ?_) (fun x hx => ?_) (fun x hx => ?_) (fun x hx => ?_) hC.V (RG_mk ?_ ?_ ?_ ?_ ?_ ?_ ?_ ?_ ?_ (fun q => by omega))
    · rw [mW_1 _ _ _ hf]
      show M9.1 f = _
      rw [k1]
    · exact mW_s _ _ _
    · rw [mW_2, ← k2 j j1]
      exact funext fun x => uE_j _ _ _ j3
    · rw [mW_2, uE_j _ _ _ (by decide)]; exact k3 x hx
    · rw [mW_2, uE_j _ _ _ (by decide), k2 40 (by decide)]
    · rw [mW_2, uE_i _ _ (by have : x < S.fl.length := hx; omega), k2 41 (by decide)]
    · rw [mW_2, uE_j _ _ _ (by decide)]; exact m0
    · rw [mW_2, uE_j _ _ _ (by decide)]; exact m1
    · rw [mW_2, uE_j _ _ _ (by decide)]; exact m2
    · rw [mW_2, uE_j _ _ _ (by decide)]; exact m3
    · rw [mW_2, uE_j _ _ _ (by decide)]; exact m4
    · rw [mW_2, uE_j _ _ _ (by decide)]; exact m5
    · rw [mW_2, uE_j _ _ _ (by decide)]; exact m6
    · rw [mW_2, uE_j _ _ _ (by decide)]; exact m7
    · rw [mW_2]
      show (uE M9 41 S.fl.length (-1)).2 41 S.fl.length = _
      rw [uE_s, if_neg (by omega)]
theorem send_o (S : Sx) (m : Mg) : (y_send S m).rp = S.rp ∧ (y_send S m).tb = S.tb ∧ (y_send S m).lg = S.lg ∧ (y_send S m).se = S.se ∧ (∀ f, f ≠ 54 → f ≠ 55 → (y_send S m).1 f = S.1 f) ∧ ((S.fl.length ≤ 200) → (y_send S m).fl.length ≤ 200) := by
  unfold y_send
  by_cases c : S.fl.length = 200
  · rw [if_pos c]
    exact ⟨rfl, rfl, rfl, rfl, fun f h1 h2 => (va_up_ne _ _ h2).trans (va_up_ne _ _ h1), fun h => h⟩
  · rw [if_neg c]
    refine ⟨rfl, rfl, rfl, rfl, fun f h1 h2 => va_up_ne _ _ h1, fun h => ?_⟩
    show (S.fl ++ [m]).length ≤ 200
    rw [List.length_append]
    simp only [List.length_cons, List.length_nil]
    omega
theorem Cx_c {S S' : Sx} (h : Cx S) (h1 : ∀ f, f < 12 → S'.1 f = S.1 f) (h2 : S'.tb = S.tb) (h3 : S'.se = S.se) : Cx S' := by
  unfold Cx at h ⊢
  have e1 := h1 1 (by decide)
  have e2 := h1 2 (by decide)
  have e3 := h1 3 (by decide)
  have e4 := h1 4 (by decide)
  have e5 := h1 11 (by decide)
  unfold SmS at h ⊢
  unfold Sx.N Sx.V Sx.L Sx.T at h ⊢
  rw [e1, e2, e3, e4, e5, h2, h3]
  exact h
theorem Cx.send {S : Sx} (h : Cx S) (m : Mg) : Cx (y_send S m) := Cx_c h (fun f hf => (send_o S m).2.2.2.2.1 f (by omega) (by omega)) (send_o S m).2.1 (send_o S m).2.2.2.1
theorem sendL_o (kd r b s q : Nat) : ∀ (ts : List Nat) (S : Sx), (y_sendL kd r b s q ts S).rp = S.rp ∧ (y_sendL kd r b s q ts S).tb = S.tb ∧ (y_sendL kd r b s q ts S).lg = S.lg ∧ (y_sendL kd r b s q ts S).se = S.se ∧ (∀ f, f ≠ 54 → f ≠ 55 → (y_sendL kd r b s q ts S).1 f = S.1 f) ∧ ((S.fl.length ≤ 200) → (y_sendL kd r b s q ts S).fl.length ≤ 200) := by
  intro ts
  induction ts with
  | nil => intro S; exact ⟨rfl, rfl, rfl, rfl, fun _ _ _ => rfl, id⟩
  | cons t ts ih =>
    intro S
    rw [y_sendL]
    by_cases c : t = r
    · rw [if_pos c]; exact ih S
    · rw [if_neg c]
      obtain ⟨a1, a2, a3, a4, a5, a6⟩ := ih (y_send S (y_msg kd r t b s q 0 0))
      obtain ⟨b1, b2, b3, b4, b5, b6⟩ := send_o S (y_msg kd r t b s q 0 0)
      exact ⟨a1.trans b1, a2.trans b2, a3.trans b3, a4.trans b4, fun f h1 h2 => (a5 f h1 h2).trans (b5 f h1 h2), fun h => a6 (b6 h)⟩
theorem r_sendAll {M : vM} {S : Sx} {kd r b s q : Nat} {c1 c3 c4 c5 : Int32} (hC : Cx S) (h : WM M S) (hfl : S.fl.length ≤ 200) (hr : r < 9) (hk : kd < 8 ∨ (8 < kd ∧ kd < 11)) (e1 : c1 = nI kd) (e3 : c3 = nI b) (e4 : c4 = nI s) (e5 : c5 = nI q) : tr (F_X12_sendAll M c1 (nI r) c3 c4 c5) (fun M' => WM M' (y_sendAll S kd r b s q)) := by
  subst e1; subst e3; subst e4; subst e5
  have hN := hC.N
  unfold F_X12_sendAll
  refine tr_up0 (g := L_X12_sendAll_3 (nI kd) (nI r) (nI b) (nI s) (nI q) (fun (M4 : vM) => some M4)) (fun k M' => ∃ S', WM M' S' ∧ Cx S' ∧ S'.N = S.N ∧ S'.fl.length ≤ 200 ∧ y_sendL kd r b s q (List.range' k (S.N - k)) S' = y_sendAll S kd r b s q) S.N (by omega) (fun f M1 hP => ?_) (fun f k M1 hk1 hP ih => ?_) M ⟨S, h, hC, rfl, hfl, rfl⟩
  · obtain ⟨S', p1, p2, p3, p4, p5⟩ := hP
    rw [L_X12_sendAll_3, show M1.1 1 = nI S.N by rw [p1.1 1 rfl]; exact congrArg nI p3, if_pos (Int32.le_refl _)]
    rw [Nat.sub_self] at p5
    refine tr_some ?_
    rw [← p5]; exact p1
  · obtain ⟨S', p1, p2, p3, p4, p5⟩ := hP
    rw [L_X12_sendAll_3, show M1.1 1 = nI S.N by rw [p1.1 1 rfl]; exact congrArg nI p3, if_neg (nI_ge hk1 (by omega)), nI_add1]
    rw [show S.N - k = S.N - (k + 1) + 1 by omega, List.range'_succ, y_sendL] at p5
    refine tr_eq (by omega) (by omega) (fun c => ?_) (fun c => ?_)
    · rw [if_pos c] at p5
      exact ih M1 ⟨S', p1, p2, p3, p4, p5⟩
    · rw [if_neg c] at p5
      refine tr_bind (r_send (kd := kd) (fr := r) (tt := k) (bl := b) (sl := s) (rq := q) (td := 0) p2 p1 p4 hk rfl rfl rfl rfl rfl rfl rfl) fun M2 w2 => ?_
      obtain ⟨b1, b2, b3, b4, b5, b6⟩ := send_o S' (y_msg kd r k b s q 0 0)
      exact ih M2 ⟨_, w2, p2.send _, (b5 1 (by decide) (by decide)).trans p3, b6 p4, p5⟩
