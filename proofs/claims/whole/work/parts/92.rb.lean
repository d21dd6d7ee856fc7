/-! ===== the reference helps ===== -/
theorem r_send8 {M : vM} {S : Sx} {r t pc ix : Nat} (hC : Cx S) (h : WM M S) (hr : r < 9) (hfl : S.fl.length ≤ 200) (hp : M.1 50 = nI pc) (eix : ix = (S.rp r).1 7) (hix : ix < 2 ^ 30) (h8 : (S.rp r).1 8 ≤ ix) : tr (F_X12_send M 8 (nI r) (nI t) 0 (nI ix) 0 0) (fun M' => WM M' (y_send S (y_msg 8 r t 0 ix 0 0 pc))) := by
  unfold F_X12_send
  rw [l1_]
  have w1 : WM (mW M 54 (M.1 54 + 1)) (S.u 54 (S.1 54 + 1)) := by
    rw [h.1 54 rfl, nI_add1]; exact WM_f h (Or.inl rfl)
  have e53 : (mW M 54 (M.1 54 + 1)).1 53 = nI S.fl.length := w1.2.1
  rw [e53]
  refine tr_eq (b := 200) (by omega) (by decide) (fun c => ?_) (fun c => ?_)
  · rw [l1_]
    refine tr_some ?_
    unfold y_send
    rw [if_pos c, w1.1 55 rfl, nI_add1]
    exact WM_f w1 (Or.inr (Or.inl rfl))
  · refine q_msg (by omega) fun M9 k1 k2 k3 m0 m1 m2 m3 m4 m5 m6 m7 => ?_
    have e53' : M9.1 53 = nI S.fl.length := by rw [k1]; exact e53
    refine tr_jn ?_
    rw [if_pos rfl, e53']
    refine tr_S (show _ < 201 by omega) (by omega) ?_
    rw [show M9.1 50 = nI pc by rw [k1, mW_1 _ _ _ (by decide)]; exact hp]
    refine tr_jn ?_
    rw [if_pos rfl]
    have e53'' : (uE M9 41 S.fl.length (nI pc)).1 53 = nI S.fl.length := e53'
    rw [e53'', show (100 : Int32) * nI S.fl.length = nI (100 * S.fl.length) from nI_mul 100 _]
    have kk : ∀ j, j ≠ 39 → j ≠ 41 → (uE M9 41 S.fl.length (nI pc)).2 j = M.2 j := fun j j1 j2 => by
      rw [show M.2 j = M9.2 j from (k2 j j1).symm]
      exact funext fun x => uE_j _ _ _ j2
    have evw : vw (uE M9 41 S.fl.length (nI pc)) r = vw M r := by
      funext j i
      unfold vw
      by_cases hz : i < zs j
      · rw [if_pos hz, if_pos hz]
        obtain ⟨z1, z2, z3, z4, z5, _⟩ := zs_0 (j := j) (by omega)
        rw [kk j z3 z5]
      · rw [if_neg hz, if_neg hz]
    have w2 : WM (uE M9 41 S.fl.length (nI pc)) ((S.u 54 (S.1 54 + 1)).set r (S.rp r)) := by
      obtain ⟨a1, a2, a3, a4, a5, a6⟩ := w1
      rw [show (S.u 54 (S.1 54 + 1)).set r (S.rp r) = S.u 54 (S.1 54 + 1) from set_id _ _]
      refine ⟨fun f hf => ?_, e53'', RT_c (fun f hf => kk f (by omega) (by omega)) a3, fun x hx => ?_, fun s hs => RS_c (fun f hf => kk f (by omega) (by omega)) (a5 s hs), fun i hi => ?_⟩
      · show M9.1 f = _
        rw [k1]; exact a1 f hf
      · have : vw (uE M9 41 S.fl.length (nI pc)) x = vw (mW M 54 (M.1 54 + 1)) x := by
          funext j i
          unfold vw
          by_cases hz : i < zs j
          · rw [if_pos hz, if_pos hz]
            obtain ⟨z1, z2, z3, z4, z5, _⟩ := zs_0 (j := j) (by omega)
            rw [kk j z3 z5]; rfl
          · rw [if_neg hz, if_neg hz]
        rw [this]; exact a4 x hx
      · have hi' : i < S.fl.length := hi
        obtain ⟨b1, b2, b3⟩ := a6 i hi
        refine ⟨fun f hf => ?_, ?_, fun q => ?_⟩
        · rw [uE_j _ _ _ (by decide), k3 _ (by omega)]; exact b1 f hf
        · rw [uE_i _ _ (by omega), k2 41 (by decide)]; exact b2
        · rw [kk 40 (by decide) (by decide)]; exact b3 q
    refine tr_bind (r_store (S := S.u 54 (S.1 54 + 1)) (j := 40) (a := 100 * S.fl.length) w2 hr (Cx_c hC (fun f hf => va_up_ne _ _ (by omega)) rfl rfl) (by decide) (by decide) (by show _ ≤ 20100; omega) (by decide) (by omega) (by omega)) fun M3 h3 => ?_
    obtain ⟨s1, s2, s3, s4⟩ := h3
    have e53m : M3.1 53 = nI S.fl.length := by rw [s1]; exact e53''
    refine tr_l1 (tr_some ?_)
    rw [e53m, nI_add1]
    unfold y_send
    rw [if_neg c]
    refine WM_snd (S := S.u 54 (S.1 54 + 1)) w1 (fun f hf => ?_) (mW_s _ _ _) (fun j j1 j2 j3 => ?_) (fun x hx => ?_) (fun x hx => ?_) (fun x hx => ?_) hC.V (RG_mk (kd := 8) ?_ ?_ ?_ ?_ ?_ ?_ ?_ ?_ ?_ (fun _ => ?_))
    · rw [mW_1 _ _ _ hf, s1]
      show M9.1 f = _
      rw [k1]
    · rw [mW_2, s2 j j2, kk j j1 j3]; rfl
    · rw [mW_2, s2 39 (by decide), uE_j _ _ _ (by decide)]; exact k3 x hx
    · have hx' : x < 100 * S.fl.length := hx
      rw [mW_2, s3 x (Or.inl hx'), kk 40 (by decide) (by decide)]; rfl
    · rw [mW_2, s2 41 (by decide), uE_i _ _ (by have : x < S.fl.length := hx; omega), k2 41 (by decide)]
    · rw [mW_2, s2 39 (by decide), uE_j _ _ _ (by decide)]; exact m0
    · rw [mW_2, s2 39 (by decide), uE_j _ _ _ (by decide)]; exact m1
    · rw [mW_2, s2 39 (by decide), uE_j _ _ _ (by decide)]; exact m2
    · rw [mW_2, s2 39 (by decide), uE_j _ _ _ (by decide)]; exact m3
    · rw [mW_2, s2 39 (by decide), uE_j _ _ _ (by decide)]; exact m4
    · rw [mW_2, s2 39 (by decide), uE_j _ _ _ (by decide)]; exact m5
    · rw [mW_2, s2 39 (by decide), uE_j _ _ _ (by decide)]; exact m6
    · rw [mW_2, s2 39 (by decide), uE_j _ _ _ (by decide)]; exact m7
    · rw [mW_2, s2 41 (by decide)]
      show (uE M9 41 S.fl.length (nI pc)).2 41 S.fl.length = _
      rw [uE_s, if_pos rfl]
    · rw [mW_2, eix]; exact s4
theorem r_layWhole {M : vM} {V i j a : Nat} {s : Sta} (hj : j ≠ 38) (hj2 : j ≠ 42) (hk : mKd j = 21) (ha : a + 66 ≤ mL j) (hL : mL j < 2 ^ 31) (hV : M.1 2 = nI V) (hV16 : V ≤ 16) (hi : i < 2 ^ 31) (hs : ∀ k, s.2.1 k < 2 ^ 30) (g : imA (M.2 j) a V s i) : tr (F_X12_layWhole M j (nI a)) (fun p => p.2 = nI (encSt V s i).length ∧ ∃ M', p.1 = sl M' (encSt V s i) ∧ M'.1 = M.1 ∧ (∀ k, k ≠ 42 → M'.2 k = M.2 k) ∧ ∀ x, x < (encSt V s i).length → M'.2 42 x = nI (byA (encSt V s i) x)) := by
  obtain ⟨i1, i2, i3, i4, i5⟩ := g
  have hl := encSt_len (V := V) hi hs hV16
  unfold F_X12_layWhole
  have e := e_layState (M := M) (l := []) (V := V) (vd := fun k => nI (s.2.2.1 k)) hj hk ha hL hV hV16 i1 hi i2 i3 (fun k => Nat.lt_trans (hs k) (by decide)) i4 i5 (Nat.le_of_ble_eq_true rfl)
  rw [List.nil_append] at e
  rw [l1_, sl_0, show F_X12_layState (sl M []) j (nI a) = some (sl M (encSt V s i)) from e, Option.bind_some]
  refine tr_up0 (g := L_X12_layWhole_13 (fun (M6 : vM) => some (M6, (M6.1 45)))) (fun k M' => ∃ M1, M' = sl M1 (encSt V s i) ∧ M1.1 = M.1 ∧ (∀ k, k ≠ 42 → M1.2 k = M.2 k) ∧ ∀ x, x < k → M1.2 42 x = nI (byA (encSt V s i) x)) (encSt V s i).length (by omega) (fun f M1 hP => ?_) (fun f k M1 hk1 hP ih => ?_) _ ⟨M, rfl, rfl, fun _ _ => rfl, fun x hx => absurd hx (Nat.not_lt_zero _)⟩
  · obtain ⟨M2, rfl, p1, p2, p3⟩ := hP
    rw [L_X12_layWhole_13, sl_45, if_pos (Int32.le_refl _)]
    exact tr_some ⟨rfl, M2, rfl, p1, p2, p3⟩
  · obtain ⟨M2, rfl, p1, p2, p3⟩ := hP
    rw [L_X12_layWhole_13, sl_45, if_neg (nI_ge hk1 (by omega)), nI_add1]
    refine tr_G (show _ < 2400 by omega) (by omega) ?_
    rw [sl_38 _ _ hk1]
    refine tr_S (show _ < 400 by omega) (by omega) ?_
    rw [uE_sl _ _ _ _ (by decide)]
    refine ih _ ⟨_, rfl, p1, fun k hk => ?_, fun x hx => ?_⟩
    · rw [← p2 k hk]; exact funext fun y => uE_j _ _ _ hk
    · by_cases e : x = k
      · subst e; rw [uE_s]
      · rw [uE_i _ _ e]; exact p3 x (by omega)
theorem sta_b {S : Sx} (hC : Cx S) (i k : Nat) : (S.sta i).2.1 k < 2 ^ 30 := (st_b (V := S.V) (g := S.lg) hC.tb i k).1
theorem enc_len {S : Sx} (hC : Cx S) {i : Nat} (hi : i < 2 ^ 31) : (S.enc i).length ≤ 197 := encSt_len hi (sta_b hC i) hC.V
theorem sendP_o (r t i : Nat) : ∀ (ts : List Nat) (S : Sx), (y_sendP r t i ts S).rp = S.rp ∧ (y_sendP r t i ts S).tb = S.tb ∧ (y_sendP r t i ts S).lg = S.lg ∧ (y_sendP r t i ts S).se = S.se ∧ (∀ f, f ≠ 54 → f ≠ 55 → (y_sendP r t i ts S).1 f = S.1 f) ∧ ((S.fl.length ≤ 200) → (y_sendP r t i ts S).fl.length ≤ 200) := by
  intro ts
  induction ts with
  | nil => intro S; exact ⟨rfl, rfl, rfl, rfl, fun _ _ _ => rfl, id⟩
  | cons k ts ih =>
    intro S
    rw [y_sendP]
    obtain ⟨a1, a2, a3, a4, a5, a6⟩ := ih (y_send S (y_msg 8 r t 0 i 0 0 k))
    obtain ⟨b1, b2, b3, b4, b5, b6⟩ := send_o S (y_msg 8 r t 0 i 0 0 k)
    exact ⟨a1.trans b1, a2.trans b2, a3.trans b3, a4.trans b4, fun f h1 h2 => (a5 f h1 h2).trans (b5 f h1 h2), fun h => a6 (b6 h)⟩
theorem r_help {M : vM} {S : Sx} {r t s : Nat} {c3 : Int32} (hC : Cx S) (h : WM M S) (hr : r < 9) (hfl : S.fl.length ≤ 200) (h7 : (S.rp r).1 7 < 2 ^ 30) (h8 : (S.rp r).1 8 ≤ (S.rp r).1 7) (h9 : (S.rp r).1 9 ≤ (S.rp r).1 7) (hs : s < 2 ^ 31) (e3 : c3 = nI s) : tr (F_X12_help M (nI r) (nI t) c3) (fun M' => WM M' (y_help S r t s)) := by
  subst e3
  have hV := hC.V
  have w : WM M (S.set r (S.rp r)) := by rw [set_id]; exact h
  unfold F_X12_help
  refine tr_Gr w hr rfl ?_
  refine tr_jnK (fun _ => ¬ ((S.rp r).1 9 < s ∧ s ≤ (S.rp r).1 7)) (fun _ c => ?_) (fun k hk => ?_)
  · unfold y_help
    rw [if_neg c]
    refine tr_bind (r_store (a := 0) w hr hC (by decide) (by decide) (by decide) (by decide) h7 h8) fun M3 h3 => ?_
    obtain ⟨s1, s2, s3, s4⟩ := h3
    have w3 : WM M3 S := WM_c h (fun f _ => by rw [s1]) (by rw [s1]) (fun j hj => s2 j (fun e => by rw [e] at hj; exact absurd hj (by decide)))
    refine tr_b2 (r_layWhole (V := S.V) (a := 0) (by decide) (by decide) (by decide) (by decide) (by decide) (w3.1 2 rfl) hV (by omega) (sta_b hC _) s4) fun M4 v4 h4 => ?_
    obtain ⟨e4, M5, e5, k1, k2, k3⟩ := h4
    dsimp only at e4 e5
    subst e4; subst e5
    have w5 : WM (sl M5 (encSt S.V (S.sta ((S.rp r).1 7)) ((S.rp r).1 7))) S := WM_sl (WM_c w3 (fun f _ => by rw [k1]) (by rw [k1]) (fun j hj => k2 j (fun e => by rw [e] at hj; exact absurd hj (by decide))))
    have hl : (encSt S.V (S.sta ((S.rp r).1 7)) ((S.rp r).1 7)).length ≤ 197 := enc_len hC (by omega)
    rw [show nI (encSt S.V (S.sta ((S.rp r).1 7)) ((S.rp r).1 7)).length + (63 : Int32) = nI ((encSt S.V (S.sta ((S.rp r).1 7)) ((S.rp r).1 7)).length + 63) from nI_add _ 63, show nI ((encSt S.V (S.sta ((S.rp r).1 7)) ((S.rp r).1 7)).length + 63) / (64 : Int32) = nI (y_many S ((S.rp r).1 7)) from nI_div (b := 64) (by omega) (by decide)]
    have hm : y_many S ((S.rp r).1 7) ≤ 4 := by
      show ((encSt S.V (S.sta ((S.rp r).1 7)) ((S.rp r).1 7)).length + 63) / 64 ≤ 4
      omega
    generalize y_many S ((S.rp r).1 7) = mm at hm ⊢
    refine tr_up0 (g := L_X12_help_73 (nI r) (nI t) (nI mm) (fun (M17 : vM) => some M17)) (fun k M' => ∃ S', WM M' S' ∧ Cx S' ∧ S'.rp = S.rp ∧ S'.fl.length ≤ 200 ∧ y_sendP r t ((S.rp r).1 7) (List.range' k (mm - k)) S' = y_sendP r t ((S.rp r).1 7) (List.range' 0 mm) S) mm (by omega) (fun f M1 hP => ?_) (fun f k M1 hk1 hP ih => ?_) _ ⟨S, w5, hC, rfl, hfl, rfl⟩
    · obtain ⟨S', p1, p2, p3, p4, p5⟩ := hP
      rw [L_X12_help_73, if_pos (Int32.le_refl _)]
      rw [Nat.sub_self] at p5
      refine tr_some ?_
      rw [← p5]; exact p1
    · obtain ⟨S', p1, p2, p3, p4, p5⟩ := hP
      rw [L_X12_help_73, if_neg (nI_ge hk1 (by omega)), nI_add1, l1_]
      rw [show mm - k = mm - (k + 1) + 1 by omega, List.range'_succ, y_sendP] at p5
      have w6 : WM (mW M1 50 (nI k)) S' := WM_w p1 (by decide) (by decide)
      have w7 : WM (mW M1 50 (nI k)) (S'.set r (S'.rp r)) := by rw [set_id]; exact w6
      refine tr_Gr w7 hr rfl ?_
      rw [show S'.rp r = S.rp r by rw [p3]]
      refine tr_bind (r_send8 (t := t) (pc := k) (ix := (S.rp r).1 7) p2 w6 hr p4 (mW_s _ _ _) (by rw [p3]) h7 (by rw [p3]; exact h8)) fun M2 w2 => ?_
      obtain ⟨b1, b2, b3, b4, b5, b6⟩ := send_o S' (y_msg 8 r t 0 ((S.rp r).1 7) 0 0 k)
      exact ih M2 ⟨_, w2, p2.send _, b1.trans p3, b6 p4, p5⟩
  · refine tr_le hs (by omega) (fun c => hk () (by omega)) (fun c => ?_)
    refine tr_Gr w hr rfl ?_
    refine tr_lt (by omega) hs (fun c2 => hk () (by omega)) (fun c2 => ?_)
    refine r_at hs ?_
    refine tr_G (show _ < 360 by omega) (by omega) ?_
    rw [WM_sl' w hr c c2]
    refine tr_bind (r_send (kd := 5) (fr := r) (tt := t) (bl := 0) (sl := s) (rq := S.lg s) (td := 0) hC h hfl (by omega) rfl rfl rfl rfl rfl rfl rfl) fun M2 w2 => ?_
    refine tr_some ?_
    unfold y_help
    rw [if_pos ⟨c, c2⟩]
    exact w2
