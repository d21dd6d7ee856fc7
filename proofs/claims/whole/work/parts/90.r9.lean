/-! ===== the reference applies a request: the whole of it ===== -/
theorem nI_add1 (k : Nat) : nI k + (1 : Int32) = nI (k + 1) := nI_add k 1
abbrev y_fresh (S : Sx) (ix q : Nat) : Prop := (S.sta ix).2.1 ((S.tb q).1 0) < (S.tb q).1 1
theorem sta_s (S : Sx) (i : Nat) : S.sta (i + 1) = y_app S.V (S.sta i) i (S.tb (S.lg (i + 1))) := rfl
/-- the loop that makes the values of the new index -/
theorem q_ap {ρ : Type} {kx : vM → Option ρ} {Q : ρ → Prop} {M : vM} {r q o n : Nat} {l3 l4 l5 : Int32} {m : Int32} {vq vo : Nat → Int32} (hr : r < 9) (hq : q < 4200) (ho : o < 40) (hn : n < 40) (hon : o ≠ n) (hm : M.2 15 (40 * r + n) = m) (hvq : ∀ k, k < 16 → M.2 5 (16 * q + k) = vq k) (hvo : ∀ k, k < 16 → M.2 14 (16 * (40 * r + o) + k) = vo k) (g : ∀ M', zk r M' M → (∀ j, j ≠ 14 → M'.2 j = M.2 j) → (∀ x, (x < 16 * (40 * r + n) ∨ 16 * (40 * r + n) + 16 ≤ x) → M'.2 14 x = M.2 14 x) → (∀ k, k < 16 → M'.2 14 (16 * (40 * r + n) + k) = if ((m >>> (nI k &&& 31)) &&& (1 : Int32)) = (1 : Int32) then vq k else vo k) → tr (kx M') Q) : tr (L_X12_applyTo_111 (nI r) (nI q) l3 l4 l5 (nI (40 * r + o)) (nI (40 * r + n)) kx fu M 0) Q := by
  refine tr_up0 (g := L_X12_applyTo_111 (nI r) (nI q) l3 l4 l5 (nI (40 * r + o)) (nI (40 * r + n)) kx) (fun k M' => zk r M' M ∧ (∀ j, j ≠ 14 → M'.2 j = M.2 j) ∧ (∀ x, (x < 16 * (40 * r + n) ∨ 16 * (40 * r + n) + 16 ≤ x) → M'.2 14 x = M.2 14 x) ∧ (∀ x, x < k → M'.2 14 (16 * (40 * r + n) + x) = if ((m >>> (nI x &&& 31)) &&& (1 : Int32)) = (1 : Int32) then vq x else vo x)) 16 (by decide) (fun f M1 hP => ?_) (fun f k M1 hk hP ih => ?_) M ⟨zk.refl, fun _ _ => rfl, fun _ _ => rfl, fun x hx => absurd hx (Nat.not_lt_zero _)⟩
  · obtain ⟨p1, p2, p3, p4⟩ := hP
    rw [L_X12_applyTo_111, if_pos (show (16 : Int32) ≤ nI 16 from nI_le (Nat.le_refl 16) (by decide))]
    exact g M1 p1 p2 p3 p4
  · obtain ⟨p1, p2, p3, p4⟩ := hP
    rw [L_X12_applyTo_111, if_neg (show ¬ (16 : Int32) ≤ nI k from nI_ge (b := 16) (by omega) (by decide))]
    refine tr_G (show _ < 360 by omega) (by omega) ?_
    rw [p2 15 (by decide), hm, show (16 : Int32) * nI q = nI (16 * q) from nI_mul 16 q, show (16 : Int32) * nI (40 * r + n) = nI (16 * (40 * r + n)) from nI_mul 16 _, show (16 : Int32) * nI (40 * r + o) = nI (16 * (40 * r + o)) from nI_mul 16 _, nI_add, nI_add, nI_add, nI_add1]
    have fin : ∀ v, v = (if ((m >>> (nI k &&& 31)) &&& (1 : Int32)) = (1 : Int32) then vq k else vo k) → tr ((mS M1 14 (nI (16 * (40 * r + n) + k)) v).bind fun M27 => L_X12_applyTo_111 (nI r) (nI q) l3 l4 l5 (nI (40 * r + o)) (nI (40 * r + n)) kx f M27 (nI (k + 1))) Q := by
      intro v hv
      refine tr_S (show _ < 5760 by omega) (by omega) ?_
      refine ih _ ⟨p1.u (by show 640 * r ≤ _; omega) (by show _ < 640 * r + 640; omega), fun j hj => ?_, fun x hx => ?_, fun x hx => ?_⟩
      · rw [← p2 j hj]; exact funext fun y => uE_j _ _ _ hj
      · rw [uE_i _ _ (by omega)]; exact p3 x hx
      · by_cases e : x = k
        · subst e; rw [uE_s]; exact hv
        · rw [uE_i _ _ (by omega)]; exact p4 x (by omega)
    by_cases c : ((m >>> (nI k &&& 31)) &&& (1 : Int32)) = (1 : Int32)
    · rw [if_pos c]
      refine tr_G (show _ < 67200 by omega) (by omega) ?_
      rw [p2 5 (by decide), hvq k hk]
      exact fin _ (by rw [if_pos c])
    · rw [if_neg c]
      refine tr_G (show _ < 5760 by omega) (by omega) ?_
      rw [p3 _ (by omega), hvo k hk]
      exact fin _ (by rw [if_neg c])
theorem nI_ssb {a b : Nat} (h : b ≤ a) : nI a - nI b = nI (a - b) := nI_sub h
set_option maxHeartbeats 1000000 in
theorem r_apply {M : vM} {S : Sx} {r q : Nat} {R : Rp} (hC : Cx S) (h : WM M (S.set r R)) (hr : r < 9) (h0 : 0 < q) (hq : q < S.1 4) (hix : R.1 7 < 30000) (hlg : S.lg (R.1 7 + 1) = q) (b8 : R.1 8 ≤ R.1 7) (b8' : R.1 7 ≤ R.1 8 + S.V) (b9 : R.1 9 ≤ R.1 7) (b9' : R.1 7 ≤ R.1 9 + S.L) : tr (F_X12_applyTo M (nI r) (nI q)) (fun M' => WM M' (S.set r (((R.u 7 (R.1 7 + 1)).u 8 (max (R.1 8) (R.1 7 + 1 - S.V))).u 9 (max (R.1 9) (R.1 7 + 1 - S.L))))) := by
  have hV := hC.V
  have hnr := hC.nr
  have hL : S.L ≤ 32 := hC.2.2.2.2.2.1
  have hL1 : 1 ≤ S.L := hC.2.2.2.2.1
  have hV1 : 1 ≤ S.V := hC.2.2.1
  obtain ⟨ts, tq, tn⟩ := hC.tb q
  have e0 : M.2 0 q = nI ((S.tb q).1 0) := WM_t (S := S.set r R) h h0 hq (by decide)
  have e1 : M.2 1 q = nI ((S.tb q).1 1) := WM_t (S := S.set r R) h h0 hq (by decide)
  have e4 : M.2 4 q = (S.tb q).2.1 4 := (h.2.2.1 q h0 hq).2.2.1
  have sb := fun k => st_b (V := S.V) (g := S.lg) hC.tb (R.1 7) k
  have hsq : (S.sta (R.1 7)).2.1 ((S.tb q).1 0) < 2 ^ 30 := (sb _).1
  have e7 := WM_g (j := 7) h hr rfl
  have e8 := WM_g (j := 8) h hr rfl
  have e9 := WM_g (j := 9) h hr rfl
  unfold F_X12_applyTo
  refine tr_G (show q < 4200 by omega) (by omega) ?_
  refine tr_G (show q < 4200 by omega) (by omega) ?_
  rw [e0, e1, show (16 : Int32) * nI r = nI (16 * r) from nI_mul 16 r, nI_add]
  refine tr_G (show _ < 144 by omega) (by omega) ?_
  rw [WM_sq h hr ts]
  refine tr_jnK (fun v => v = if y_fresh S (R.1 7) q then (1 : Int32) else 0) (fun s32 hs => ?_) (fun k hk => ?_)
  · refine tr_jnK2 (fun M' v => M' = M ∧ v = nI (y_ver S.V (S.sta (R.1 7)) (R.1 7) (S.tb q))) (fun M1 v hv => ?_) (fun k hk => ?_)
    · obtain ⟨rfl, rfl⟩ := hv
      refine tr_G (show r < 9 from hr) (by omega) ?_
      rw [e7]
      refine r_at (by omega) ?_
      refine tr_G (show r < 9 from hr) (by omega) ?_
      rw [e7, nI_add1]
      refine tr_S (show r < 9 from hr) (by omega) ?_
      refine tr_G (show r < 9 from hr) (by omega) ?_
      rw [uE_s]
      refine r_at (by omega) ?_
      refine tr_jnK (fun v => v = y_wr S.V (S.sta (R.1 7)) (R.1 7) (S.tb q)) (fun m hm => ?_) (fun k hk => ?_)
      · subst hm
        refine tr_S (show _ < 360 by omega) (by omega) ?_
        have hne : R.1 7 % 40 ≠ (R.1 7 + 1) % 40 := by omega
        refine q_ap (vq := (S.tb q).2.2) (vo := (S.sta (R.1 7)).1) (m := y_wr S.V (S.sta (R.1 7)) (R.1 7) (S.tb q)) hr (by omega) (by omega) (by omega) hne (uE_s _ _ _ _) (fun k hk => ?_) (fun k hk => ?_) (fun M2 z2 k2 o2 v2 => ?_)
        · rw [uE_j _ _ _ (by decide), uE_j _ _ _ (by decide)]
          exact (h.2.2.1 q h0 hq).2.2.2 k hk
        · rw [uE_j _ _ _ (by decide), uE_j _ _ _ (by decide)]
          exact WM_h h hr b8 (Nat.le_refl _) hk
        · have z3 : zk r M2 M1 := ⟨z2.1, fun j x hx => by
            rw [z2.2 j x hx]
            exact ((zk.refl.u (j := 7) (x := r) (v := nI (R.1 7 + 1)) (show 1 * r ≤ r by omega) (show r < 1 * r + 1 by omega)).u (j := 15) (x := 40 * r + (R.1 7 + 1) % 40) (show 40 * r ≤ _ by omega) (show _ < 40 * r + 40 by omega)).2 j x hx⟩
          have k7 : M2.2 7 r = nI (R.1 7 + 1) := by rw [k2 7 (by decide), uE_j _ _ _ (by decide), uE_s]
          have kx : ∀ j x, j ≠ 14 → j ≠ 15 → j ≠ 7 → M2.2 j x = M1.2 j x := fun j x q1 q2 q3 => by rw [k2 j q1, uE_j _ _ _ q2, uE_j _ _ _ q3]
          refine tr_jnK (fun M' => zk r M' M1 ∧ (∀ j, j ≠ 17 → j ≠ 18 → M'.2 j = M2.2 j) ∧ (∀ s, s < 16 → M'.2 17 (16 * r + s) = nI ((S.sta (R.1 7 + 1)).2.1 s)) ∧ (∀ s, s < 16 → M'.2 18 (16 * r + s) = nI ((S.sta (R.1 7 + 1)).2.2.1 s))) (fun M3 h3 => ?_) (fun k hk => ?_)
          · obtain ⟨z4, k4, sq4, vd4⟩ := h3
            refine tr_S (show _ < 360 by omega) (by omega) ?_
            refine tr_G (show r < 9 from hr) (by omega) ?_
            refine tr_G (show r < 9 from hr) (by omega) ?_
            rw [uE_j _ _ _ (by decide), uE_j _ _ _ (by decide), k4 8 (by decide) (by decide), k4 7 (by decide) (by decide), k7, kx 8 r (by decide) (by decide) (by decide), e8]
            have m2 : (uE M3 16 (40 * r + (R.1 7 + 1) % 40) (nI q)).1 2 = nI S.V := by
              show M3.1 2 = _
              rw [z4.1]; exact WM_V h
            have m3 : (uE M3 16 (40 * r + (R.1 7 + 1) % 40) (nI q)).1 3 = nI S.L := by
              show M3.1 3 = _
              rw [z4.1]; exact h.1 3 rfl
            rw [m2]
            refine tr_jnK (fun M' => zk r M' M1 ∧ M'.1 3 = nI S.L ∧ (∀ j, j ≠ 8 → M'.2 j = (uE M3 16 (40 * r + (R.1 7 + 1) % 40) (nI q)).2 j) ∧ M'.2 8 r = nI (max (R.1 8) (R.1 7 + 1 - S.V))) (fun M4 h4 => ?_) (fun k hk => ?_)
            · obtain ⟨z5, l5, k5, v5⟩ := h4
              refine tr_G (show r < 9 from hr) (by omega) ?_
              refine tr_G (show r < 9 from hr) (by omega) ?_
              have m7 : M4.2 7 r = nI (R.1 7 + 1) := by rw [k5 7 (by decide), uE_j _ _ _ (by decide), k4 7 (by decide) (by decide), k7]
              have m9 : M4.2 9 r = nI (R.1 9) := by rw [k5 9 (by decide), uE_j _ _ _ (by decide), k4 9 (by decide) (by decide), kx 9 r (by decide) (by decide) (by decide), e9]
              rw [m7, m9, l5]
              have fin : ∀ M5, zk r M5 M1 → (∀ j, j ≠ 9 → M5.2 j = M4.2 j) → M5.2 9 r = nI (max (R.1 9) (R.1 7 + 1 - S.L)) → WM M5 (S.set r (((R.u 7 (R.1 7 + 1)).u 8 (max (R.1 8) (R.1 7 + 1 - S.V))).u 9 (max (R.1 9) (R.1 7 + 1 - S.L)))) := by
                intro M5 z6 k6 v6
                refine WM_zk h hr z6 ?_
                obtain ⟨a1, a2, a3, a4, a5, a6, a7, a8, a9, a10, a11⟩ := WM_r h hr
                have same : ∀ j x, j ≠ 7 → j ≠ 8 → j ≠ 9 → j ≠ 14 → j ≠ 15 → j ≠ 16 → j ≠ 17 → j ≠ 18 → vw M5 r j x = vw M1 r j x := fun j x q1 q2 q3 q4 q5 q6 q7 q8 => by
                  unfold vw
                  rw [k6 j q3, k5 j q2, show (uE M3 16 (40 * r + (R.1 7 + 1) % 40) (nI q)).2 j = M3.2 j from funext fun y => uE_j _ _ _ q6, k4 j q7 q8, k2 j q4, show (uE (uE M1 7 r (nI (R.1 7 + 1))) 15 (40 * r + (R.1 7 + 1) % 40) (y_wr S.V (S.sta (R.1 7)) (R.1 7) (S.tb q))).2 j = M1.2 j from funext fun y => by rw [uE_j _ _ _ q5, uE_j _ _ _ q1]]
                have R7 : (((R.u 7 (R.1 7 + 1)).u 8 (max (R.1 8) (R.1 7 + 1 - S.V))).u 9 (max (R.1 9) (R.1 7 + 1 - S.L))).1 7 = R.1 7 + 1 := rfl
                have R8 : (((R.u 7 (R.1 7 + 1)).u 8 (max (R.1 8) (R.1 7 + 1 - S.V))).u 9 (max (R.1 9) (R.1 7 + 1 - S.L))).1 8 = max (R.1 8) (R.1 7 + 1 - S.V) := rfl
                have R9 : (((R.u 7 (R.1 7 + 1)).u 8 (max (R.1 8) (R.1 7 + 1 - S.V))).u 9 (max (R.1 9) (R.1 7 + 1 - S.L))).1 9 = max (R.1 9) (R.1 7 + 1 - S.L) := rfl
                unfold RR
                rw [R7, R8, R9]
                refine ⟨fun j hj => ?_, fun i k b1 b2 b3 => ?_, fun i b1 b2 b3 => ?_, fun i b1 b2 => ?_, fun s hs => ?_, fun s hs => ?_, fun k hk => ?_, ?_, fun k hk => ?_, ?_, fun a ha => ?_⟩
                · by_cases q7 : j = 7
                  · subst q7; rw [vw_1 rfl, k6 7 (by decide), m7]; rfl
                  · by_cases q8 : j = 8
                    · subst q8; rw [vw_1 rfl, k6 8 (by decide), v5]; rfl
                    · by_cases q9 : j = 9
                      · subst q9; rw [vw_1 rfl, v6]; rfl
                      · have nn : ∀ m, sc m = false → j ≠ m := fun m hm e => by rw [e, hm] at hj; exact absurd hj (by decide)
                        rw [same j 0 q7 q8 q9 (nn 14 rfl) (nn 15 rfl) (nn 16 rfl) (nn 17 rfl) (nn 18 rfl), a1 j hj, u_n _ _ q9, u_n _ _ q8, u_n _ _ q7]
                · have q14 : vw M5 r 14 (16 * (i % 40) + k) = M2.2 14 (16 * (40 * r + i % 40) + k) := by
                    rw [vw_a (show _ < 640 by omega), k6 14 (by decide), k5 14 (by decide), uE_j _ _ _ (by decide), k4 14 (by decide) (by decide)]
                    exact congrArg (M2.2 14) (by show 640 * r + _ = _; omega)
                  rw [q14]
                  by_cases e : i = R.1 7 + 1
                  · subst e
                    rw [v2 k b3, sta_s, hlg]; rfl
                  · rw [o2 _ (by omega), uE_j _ _ _ (by decide), uE_j _ _ _ (by decide)]
                    exact WM_h h hr (by omega) (by omega) b3
                · have q15 : vw M5 r 15 (i % 40) = (uE M1 15 (40 * r + (R.1 7 + 1) % 40) (y_wr S.V (S.sta (R.1 7)) (R.1 7) (S.tb q))).2 15 (40 * r + i % 40) := by
                    rw [vw_a (show _ < 40 by omega), k6 15 (by decide), k5 15 (by decide), uE_j _ _ _ (by decide), k4 15 (by decide) (by decide), k2 15 (by decide)]
                    show (uE (uE M1 7 r (nI (R.1 7 + 1))) 15 (40 * r + (R.1 7 + 1) % 40) (y_wr S.V (S.sta (R.1 7)) (R.1 7) (S.tb q))).2 15 (40 * r + i % 40) = _
                    by_cases e : i = R.1 7 + 1
                    · subst e; rw [uE_s, uE_s]
                    · rw [uE_i _ _ (by omega), uE_j _ _ _ (by decide), uE_i _ _ (by omega)]
                  rw [q15]
                  by_cases e : i = R.1 7 + 1
                  · subst e
                    rw [uE_s, sta_s, hlg]
                    exact (va_up_self _ _ _).symm
                  · rw [uE_i _ _ (by omega)]
                    exact WM_m h hr b1 (by omega) (by omega)
                · have q16 : vw M5 r 16 (i % 40) = (uE M1 16 (40 * r + (R.1 7 + 1) % 40) (nI q)).2 16 (40 * r + i % 40) := by
                    rw [vw_a (show _ < 40 by omega), k6 16 (by decide), k5 16 (by decide)]
                    show (uE M3 16 (40 * r + (R.1 7 + 1) % 40) (nI q)).2 16 (40 * r + i % 40) = _
                    by_cases e : i = R.1 7 + 1
                    · subst e; rw [uE_s, uE_s]
                    · rw [uE_i _ _ (by omega), uE_i _ _ (by omega), k4 16 (by decide) (by decide), kx 16 _ (by decide) (by decide) (by decide)]
                  rw [q16]
                  by_cases e : i = R.1 7 + 1
                  · subst e
                    rw [uE_s, hlg]
                  · rw [uE_i _ _ (by omega)]
                    exact WM_sl' h hr (by omega) (by omega)
                · rw [vw_a (show _ < 16 from hs), k6 17 (by decide), k5 17 (by decide), uE_j _ _ _ (by decide)]
                  exact sq4 s hs
                · rw [vw_a (show _ < 16 from hs), k6 18 (by decide), k5 18 (by decide), uE_j _ _ _ (by decide)]
                  exact vd4 s hs
                · rw [same 26 k (by decide) (by decide) (by decide) (by decide) (by decide) (by decide) (by decide) (by decide)]
                  exact a7 k hk
                · rw [same 27 0 (by decide) (by decide) (by decide) (by decide) (by decide) (by decide) (by decide) (by decide)]
                  exact a8
                · have e28 : vw M5 r 28 = vw M1 r 28 := funext fun x => same 28 x (by decide) (by decide) (by decide) (by decide) (by decide) (by decide) (by decide) (by decide)
                  have e29 : vw M5 r 29 = vw M1 r 29 := funext fun x => same 29 x (by decide) (by decide) (by decide) (by decide) (by decide) (by decide) (by decide) (by decide)
                  obtain ⟨p1, p2, p3, p4, p5, p6⟩ := a9 k hk
                  refine ⟨by rw [e28]; exact p1, by rw [e28]; exact p2, by rw [e28]; exact p3, by rw [e28]; exact p4, fun e => by rw [e29]; exact p5 e, fun e x hx => by rw [e29]; exact p6 e x hx⟩
                · rw [same 30 0 (by decide) (by decide) (by decide) (by decide) (by decide) (by decide) (by decide) (by decide)]
                  exact a10
                · rw [same 36 a (by decide) (by decide) (by decide) (by decide) (by decide) (by decide) (by decide) (by decide)]
                  exact a11 a ha
              refine tr_sle (by omega) (by omega) (by omega) (fun c => ?_) (fun c => ?_)
              · exact tr_some (fin M4 z5 (fun _ _ => rfl) (by rw [m9, Nat.max_eq_left (by omega)]))
              · refine tr_G (show r < 9 from hr) (by omega) ?_
                rw [m7, nI_sub (by omega)]
                refine tr_S (show r < 9 from hr) (by omega) ?_
                exact tr_some (fin _ (z5.u (show 1 * r ≤ r by omega) (show r < 1 * r + 1 by omega)) (fun j hj => funext fun y => uE_j _ _ _ hj) (by rw [uE_s, Nat.max_eq_right (by omega)]))
            · have z16 : zk r (uE M3 16 (40 * r + (R.1 7 + 1) % 40) (nI q)) M1 := z4.u (show 40 * r ≤ _ by omega) (show _ < 40 * r + 40 by omega)
              refine tr_sle (by omega) (by omega) (by omega) (fun c => ?_) (fun c => ?_)
              · refine hk _ ⟨z16, m3, fun _ _ => rfl, ?_⟩
                rw [uE_j _ _ _ (by decide), k4 8 (by decide) (by decide), kx 8 r (by decide) (by decide) (by decide), e8, Nat.max_eq_left (by omega)]
              · refine tr_G (show r < 9 from hr) (by omega) ?_
                rw [uE_j _ _ _ (by decide), k4 7 (by decide) (by decide), k7, nI_sub (by omega)]
                refine tr_S (show r < 9 from hr) (by omega) ?_
                refine hk _ ⟨z16.u (show 1 * r ≤ r by omega) (show r < 1 * r + 1 by omega), m3, fun j hj => funext fun y => uE_j _ _ _ hj, ?_⟩
                rw [uE_s, Nat.max_eq_right (by omega)]
          · subst hs
            by_cases c : y_fresh S (R.1 7) q
            · rw [if_neg (show ¬ (if y_fresh S (R.1 7) q then (1 : Int32) else 0) = 0 by rw [if_pos c]; decide)]
              refine tr_G (show q < 4200 by omega) (by omega) ?_
              rw [kx 1 q (by decide) (by decide) (by decide), e1]
              refine tr_S (show _ < 144 by omega) (by omega) ?_
              refine tr_S (show _ < 144 by omega) (by omega) ?_
              refine hk _ ⟨(z3.u (show 16 * r ≤ _ by omega) (show _ < 16 * r + 16 by omega)).u (show 16 * r ≤ _ by omega) (show _ < 16 * r + 16 by omega), fun j q1 q2 => funext fun y => by rw [uE_j _ _ _ q2, uE_j _ _ _ q1], fun s hs => ?_, fun s hs => ?_⟩
              · rw [uE_j _ _ _ (by decide), sta_s, hlg]
                show _ = nI ((if y_fresh S (R.1 7) q then va_up (S.sta (R.1 7)).2.1 ((S.tb q).1 0) ((S.tb q).1 1) else (S.sta (R.1 7)).2.1) s)
                rw [if_pos c]
                by_cases e : s = (S.tb q).1 0
                · rw [e, uE_s, va_up_self]
                · rw [uE_i _ _ (by omega), va_up_ne _ _ e, kx 17 _ (by decide) (by decide) (by decide)]
                  exact WM_sq h hr hs
              · rw [sta_s, hlg]
                show _ = nI ((if y_fresh S (R.1 7) q then va_up (S.sta (R.1 7)).2.2.1 ((S.tb q).1 0) (y_ver S.V (S.sta (R.1 7)) (R.1 7) (S.tb q)) else (S.sta (R.1 7)).2.2.1) s)
                rw [if_pos c]
                by_cases e : s = (S.tb q).1 0
                · rw [e, uE_s, va_up_self]
                · rw [uE_i _ _ (by omega), va_up_ne _ _ e, uE_j _ _ _ (by decide), kx 18 _ (by decide) (by decide) (by decide)]
                  exact WM_vd h hr hs
            · rw [if_pos (show (if y_fresh S (R.1 7) q then (1 : Int32) else 0) = 0 by rw [if_neg c])]
              refine hk _ ⟨z3, fun _ _ _ => rfl, fun s hs => ?_, fun s hs => ?_⟩
              · rw [kx 17 _ (by decide) (by decide) (by decide), WM_sq h hr hs, sta_s, hlg]
                show _ = nI ((if y_fresh S (R.1 7) q then va_up (S.sta (R.1 7)).2.1 ((S.tb q).1 0) ((S.tb q).1 1) else (S.sta (R.1 7)).2.1) s)
                rw [if_neg c]
              · rw [kx 18 _ (by decide) (by decide) (by decide), WM_vd h hr hs, sta_s, hlg]
                show _ = nI ((if y_fresh S (R.1 7) q then va_up (S.sta (R.1 7)).2.2.1 ((S.tb q).1 0) (y_ver S.V (S.sta (R.1 7)) (R.1 7) (S.tb q)) else (S.sta (R.1 7)).2.2.1) s)
                rw [if_neg c]
      · have hver : y_ver S.V (S.sta (R.1 7)) (R.1 7) (S.tb q) ≤ 2 := by
          unfold y_ver
          split
          · split <;> omega
          · omega
        refine tr_eq (a := y_ver S.V (S.sta (R.1 7)) (R.1 7) (S.tb q)) (b := 1) (by omega) (by decide) (fun c => ?_) (fun c => ?_)
        · refine tr_G (show q < 4200 by omega) (by omega) ?_
          rw [uE_j _ _ _ (by decide), e4]
          refine hk _ ?_
          unfold y_wr
          rw [if_pos c]
        · refine hk _ ?_
          unfold y_wr
          rw [if_neg c]
    · subst hs
      by_cases c : y_fresh S (R.1 7) q
      · rw [if_neg (show ¬ (if y_fresh S (R.1 7) q then (1 : Int32) else 0) = 0 by rw [if_pos c]; decide), r_verdict hC h hr h0 hq hix, b2_]
        refine hk _ _ ⟨rfl, ?_⟩
        unfold y_ver
        rw [if_pos c]
      · rw [if_pos (show (if y_fresh S (R.1 7) q then (1 : Int32) else 0) = 0 by rw [if_neg c])]
        refine hk _ _ ⟨rfl, ?_⟩
        unfold y_ver
        rw [if_neg c]
        rfl
  · refine tr_le (by omega) (by omega) (fun c => ?_) (fun c => ?_)
    · refine hk _ ?_
      rw [if_neg (show ¬ y_fresh S (R.1 7) q from Nat.not_lt.mpr c)]
    · refine hk _ ?_
      rw [if_pos (show y_fresh S (R.1 7) q from c)]
