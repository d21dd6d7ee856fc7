/-! ===== commit and try again ===== -/
theorem q_cmA {ρ : Type} {n s : Nat} {M : vM} {kx : vM → Option ρ} {Q : ρ → Prop} (hn : n < 4200) (hs : s < 16) (g : ∀ M', M'.1 = M.1 → (∀ j x, ¬ (j < 5 ∧ x = n) → M'.2 j x = M.2 j x) → M'.2 0 n = nI s → M'.2 1 n = M.2 47 s → M'.2 2 n = M.2 49 s → M'.2 3 n = M.2 50 s → M'.2 4 n = M.2 51 s → tr (kx M') Q) : tr ((mS M 0 (nI n) (nI s)).bind fun M9 => (mG M9 47 (nI s)).bind fun v10 => (mS M9 1 (nI n) v10).bind fun M11 => (mG M11 49 (nI s)).bind fun v12 => (mS M11 2 (nI n) v12).bind fun M13 => (mG M13 50 (nI s)).bind fun v14 => (mS M13 3 (nI n) v14).bind fun M15 => (mG M15 51 (nI s)).bind fun v16 => (mS M15 4 (nI n) v16).bind fun M17 => kx M17) Q := by
  have key : ∀ (X : vM) (j : Nat) (v : Int32), j < 5 → (∀ k x, ¬ (k = j ∧ x = n) → (uE X j n v).2 k x = X.2 k x) ∧ (uE X j n v).2 j n = v ∧ (uE X j n v).1 = X.1 := fun X j v _ => ⟨fun k x h => by
      by_cases e : k = j
      · subst e; exact uE_i _ _ (fun q => h ⟨rfl, q⟩)
      · exact uE_j _ _ _ e, uE_s _ _ _ _, rfl⟩
  refine tr_S (show n < 4200 from hn) (by omega) ?_
  obtain ⟨a1, a2, a3⟩ := key M 0 (nI s) (by decide)
  generalize uE M 0 n (nI s) = M1 at a1 a2 a3 ⊢
  refine tr_G (show s < 16 from hs) (by omega) ?_
  refine tr_S (show n < 4200 from hn) (by omega) ?_
  obtain ⟨b1, b2, b3⟩ := key M1 1 (M1.2 47 s) (by decide)
  generalize uE M1 1 n (M1.2 47 s) = M2 at b1 b2 b3 ⊢
  refine tr_G (show s < 16 from hs) (by omega) ?_
  refine tr_S (show n < 4200 from hn) (by omega) ?_
  obtain ⟨c1, c2, c3⟩ := key M2 2 (M2.2 49 s) (by decide)
  generalize uE M2 2 n (M2.2 49 s) = M3 at c1 c2 c3 ⊢
  refine tr_G (show s < 16 from hs) (by omega) ?_
  refine tr_S (show n < 4200 from hn) (by omega) ?_
  obtain ⟨d1, d2, d3⟩ := key M3 3 (M3.2 50 s) (by decide)
  generalize uE M3 3 n (M3.2 50 s) = M4 at d1 d2 d3 ⊢
  refine tr_G (show s < 16 from hs) (by omega) ?_
  refine tr_S (show n < 4200 from hn) (by omega) ?_
  obtain ⟨e1, e2, e3⟩ := key M4 4 (M4.2 51 s) (by decide)
  generalize uE M4 4 n (M4.2 51 s) = M5 at e1 e2 e3 ⊢
  refine g M5 (by rw [e3, d3, c3, b3, a3]) (fun j x h => ?_) ?_ ?_ ?_ ?_ ?_
  · rw [e1 j x (by omega), d1 j x (by omega), c1 j x (by omega), b1 j x (by omega), a1 j x (by omega)]
  · rw [e1 0 n (by omega), d1 0 n (by omega), c1 0 n (by omega), b1 0 n (by omega), a2]
  · rw [e1 1 n (by omega), d1 1 n (by omega), c1 1 n (by omega), b2, a1 47 s (by omega)]
  · rw [e1 2 n (by omega), d1 2 n (by omega), c2, b1 49 s (by omega), a1 49 s (by omega)]
  · rw [e1 3 n (by omega), d2, c1 50 s (by omega), b1 50 s (by omega), a1 50 s (by omega)]
  · rw [e2, d1 51 s (by omega), c1 51 s (by omega), b1 51 s (by omega), a1 51 s (by omega)]
theorem tbl_ses (S : Sx) (s : Nat) (e : Se) (q : Rq) : (S.ses s e).tbl q = (S.tbl q).ses s e := rfl
theorem s_commit {c : vC} {M : vM} {S : Sx} (hW : WC K0 c S) (hM : WM M S) (hB : Bs S) (hK : CmOk S) (hU : ∀ q q', q < S.1 4 → q' < S.1 4 → (S.tb q).1 0 = (S.tb q').1 0 → (S.tb q).1 1 = (S.tb q').1 1 → q = q') (a1 : Int32) : ∃ S', Sim (F_X11_commitIt S.N c a1) (F_X12_commitIt M a1) S' ∧ (S' = S ∨ ∃ s, s < 16 ∧ (S.se s).1 46 = 1 ∧ (S' = y_end S s 3 ∨ S' = y_commit S s)) := by
  have hN := hB.n
  have h0 : WM (mW M 0 0) S := WM_0 hM
  unfold F_X11_commitIt F_X12_commitIt
  rcases ars (n := 16) (by decide) a1 with hb | ⟨s, hs, rfl⟩
  · refine ⟨S, ⟨-1, ?_, ?_⟩, Or.inl rfl⟩
    · rw [e_ses0 hb, b2_, oc_n]
      exact tr_some ⟨rfl, hW⟩
    · refine tr_l1 ?_
      rw [r_isSes0 hb, b2_, if_pos rfl]
      exact tr_some ⟨rfl, h0⟩
  have b46 := hB.i hs
  obtain ⟨s1, s2, s3, s4, s5, s6, s7, s8, s9⟩ := hW.2.2.2.1 s hs
  have hx : WM (mW M 0 0) (S.ses s (S.se s)) := by rw [ses_id]; exact h0
  by_cases c1 : ¬ (S.se s).1 46 = 1
  · refine ⟨S, ⟨-1, ?_, ?_⟩, Or.inl rfl⟩
    · rw [e_ses hs, b2_, oc_s, gd_ hs, s1]
      exact tr_eq (b := 1) (by omega) (by decide) (fun q => absurd q c1) (fun q => tr_some ⟨rfl, hW⟩)
    · refine tr_l1 ?_
      rw [r_isSes hs, b2_, if_neg (by decide)]
      refine tr_Gn hx hs (by decide) ?_
      exact tr_eq (b := 1) (by omega) (by decide) (fun q => absurd q c1) (fun q => tr_some ⟨rfl, h0⟩)
  have c1 : (S.se s).1 46 = 1 := Decidable.of_not_not c1
  have hK' := hK
  obtain ⟨k1, k2, k3, k4, k5, k6, k7, k8, k9, k10, k11⟩ := hK'
  obtain ⟨z1, z2⟩ := k10 s hs c1
  by_cases c2 : (S.se s).2.1 51 = 0
  · refine ⟨y_end S s 3, ⟨3, ?_, ?_⟩, Or.inr ⟨s, hs, c1, Or.inl rfl⟩⟩
    · obtain ⟨e1, e2⟩ := c_endS (N := S.N) (s := s) (v := 3) hW (Or.inl rfl)
      rw [e_ses hs, b2_, oc_s, gd_ hs, s1, c1, if_pos (show nI 1 = (1 : Int32) from rfl), s6, if_pos c2, show (3 : Int32) = nI 3 from rfl, e1, Option.bind_some]
      refine tr_some ⟨?_, e2⟩
      have e3 := (e2.2.2.2.1 s hs).1
      have e4 : ((y_end S s 3).se s).1 46 = 3 := by
        rw [show (y_end S s 3).se s = (S.se s).u 46 3 from ses_s _ _ _]; rfl
      rw [e4] at e3
      exact e3
    · refine tr_l1 ?_
      rw [r_isSes hs, b2_, if_neg (by decide)]
      refine tr_Gn hx hs (by decide) ?_
      rw [c1, if_pos (show nI 1 = (1 : Int32) from rfl)]
      refine tr_G51 hx hs ?_
      rw [if_pos c2]
      refine tr_Sn 3 hx hs (by decide) fun M1 w1 => ?_
      exact tr_some ⟨rfl, w1⟩
  have hCx : Cx (y_com S s) := Cx_tbl hB.1 hs k8 (k9 s hs).1 ((k9 s hs).2 c1)
  have erp : (y_com S s).rp = S.rp := rfl
  have e4 : (y_com S s).1 4 = S.1 4 + 1 := va_up_self S.1 4 _
  have e1N : (y_com S s).1 1 = S.1 1 := va_up_ne S.1 (k := 4) (j := 1) (S.1 4 + 1) (by decide)
  have etn : (y_com S s).tb (S.1 4) = y_rqE (S.se s) s := va_up_self S.tb (S.1 4) _
  have eto : ∀ q, q ≠ S.1 4 → (y_com S s).tb q = S.tb q := fun q hq => va_up_ne _ _ hq
  have ess : (y_com S s).se s = y_comE (S.se s) (S.1 4) := ses_s _ _ _
  have hQ' : QOk (y_com S s) (S.rp ((S.se s).1 48)) := by
    have := (k5 _ z1 z2).2.2.2
    refine ⟨this.1, fun q hq => ⟨(this.2 q hq).1, ?_⟩⟩
    rw [e4]; exact Nat.lt_succ_of_lt (this.2 q hq).2
  have ewse : ∀ X : Sx, ∀ r q, (y_wait X r q).se = X.se := fun X r q => by
    unfold y_wait
    dsimp only
    split <;> rfl
  refine ⟨y_commit S s, ⟨2, ?_, ?_⟩, Or.inr ⟨s, hs, c1, Or.inr rfl⟩⟩
  · have e903 : cI c 903 s = nI ((S.se s).1 48) := by rw [s3, if_pos (Or.inl c1)]
    rw [e_ses hs, b2_, oc_s, gd_ hs, s1, c1, if_pos (show nI 1 = (1 : Int32) from rfl), s6, if_neg c2, e903, e_up hW z1 (by omega) z2, b2_]
    refine tr_bind (c_ask' hW hs c1 hK hN) fun c7 p7 => ?_
    obtain ⟨w7, a, ea, ra⟩ := p7
    rw [oc_s, gd_ z1, l1_, ea]
    have w7' : WC K0 c7 ((y_com S s).set ((S.se s).1 48) (S.rp ((S.se s).1 48))) := by
      have := set_id (y_com S s) ((S.se s).1 48)
      rw [erp] at this
      rw [this]; exact w7
    refine tr_bind (c_add hCx w7' (show (S.se s).1 48 < (y_com S s).1 1 by rw [e1N]; exact z1) z2 hQ' ra k7 (fun q' hq' x y => ?_)) fun c8 w8 => ?_
    · exfalso
      have hq := (k5 _ z1 z2).2.2.2.2 q' hq'
      rw [etn, eto q' (by omega)] at x y
      have x' : (S.tb q').1 0 = s := x
      have y' : (S.tb q').1 1 = (S.se s).1 47 + 1 := y
      have := k11 q' hq.1 hq.2
      rw [x'] at this
      omega
    · have es : y_wait ((y_com S s).set ((S.se s).1 48) (S.rp ((S.se s).1 48))) ((S.se s).1 48) (S.1 4) = y_commit S s := by
        have := set_id (y_com S s) ((S.se s).1 48)
        rw [erp] at this
        rw [this]; rfl
      rw [es] at w8
      refine tr_some ⟨?_, w8⟩
      have e3 := (w8.2.2.2.1 s hs).1
      have e5 : ((y_commit S s).se s).1 46 = 2 := by
        rw [show (y_commit S s).se = (y_com S s).se from ewse _ _ _, ess]; rfl
      rw [e5] at e3
      exact e3
  · refine tr_l1 ?_
    rw [r_isSes hs, b2_, if_neg (by decide)]
    refine tr_Gn hx hs (by decide) ?_
    rw [c1, if_pos (show nI 1 = (1 : Int32) from rfl)]
    refine tr_G51 hx hs ?_
    rw [if_neg c2]
    refine tr_Gn hx hs (by decide) ?_
    rw [nI_add1]
    refine tr_Sn ((S.se s).1 47 + 1) hx hs (by decide) fun M7 w7 => ?_
    refine tr_l1 ?_
    have m4 : M7.1 4 = nI (S.1 4) := w7.1 4 rfl
    rw [m4, nI_add1]
    have r7 := w7.2.2.2.2.1 s hs
    rw [ses_s] at r7
    have t7 := w7.2.2.1
    have f8 : ∀ f, f ≠ 4 → (mW M7 4 (nI (S.1 4 + 1))).1 f = M7.1 f := fun f hf => mW_1 _ _ _ hf
    have g8 : (mW M7 4 (nI (S.1 4 + 1))).1 4 = nI (S.1 4 + 1) := mW_s _ _ _
    have h8 : (mW M7 4 (nI (S.1 4 + 1))).2 = M7.2 := mW_2 _ _ _
    generalize mW M7 4 (nI (S.1 4 + 1)) = M8 at f8 g8 h8 ⊢
    refine q_cmA (n := S.1 4) (s := s) (by omega) hs fun M17 x1 x2 x3 x4 x5 x6 x7 => ?_
    refine q_cm (s := s) (n := S.1 4) hs (by omega) 16 0 fu M17 (by omega) (show 16 < 32768 by decide) fun M21 y1 y2 y3 y4 => ?_
    have hst : WM M21 ((S.tbl (y_rqE (S.se s) s)).ses s ((S.se s).u 47 ((S.se s).1 47 + 1))) := by
      rw [← tbl_ses]
      have hLg : LgOk (S.ses s ((S.se s).u 47 ((S.se s).1 47 + 1))) := k1
      refine WM_st w7 (fun f hf => ?_) (by rw [y1, x1, f8 53 (by decide)]) rfl rfl rfl rfl rfl hLg (fun i hi => sta_tbl (S := S.ses s ((S.se s).u 47 ((S.se s).1 47 + 1))) k3 hi) (fun j hj => ?_) (fun q q1 q2 => ?_)
      · rw [y1, x1]
        by_cases e : f = 4
        · subst e
          rw [g8]
          show nI (S.1 4 + 1) = nI (va_up S.1 4 (S.1 4 + 1) 4)
          rw [va_up_self]
        · rw [f8 f e, w7.1 f hf]
          show nI (S.1 f) = nI (va_up S.1 4 (S.1 4 + 1) f)
          rw [va_up_ne _ _ e]
      · funext x
        rw [y2 j x (by omega), x2 j x (by omega), h8]
      · have q2' : q < S.1 4 + 1 := by
          have q2x : q < va_up S.1 4 (S.1 4 + 1) 4 := q2
          rw [va_up_self] at q2x; exact q2x
        show (∀ f, f < 3 → M21.2 f q = nI ((va_up S.tb (S.1 4) (y_rqE (S.se s) s) q).1 f)) ∧ M21.2 3 q = (va_up S.tb (S.1 4) (y_rqE (S.se s) s) q).2.1 3 ∧ M21.2 4 q = (va_up S.tb (S.1 4) (y_rqE (S.se s) s) q).2.1 4 ∧ ∀ k, k < 16 → M21.2 5 (16 * q + k) = (va_up S.tb (S.1 4) (y_rqE (S.se s) s) q).2.2 k
        by_cases e : q = S.1 4
        · subst e
          rw [va_up_self]
          have sv : ∀ f, sse f = true → M7.2 f s = nI (((S.se s).u 47 ((S.se s).1 47 + 1)).1 f) := r7.1
          refine ⟨fun f hf => ?_, ?_, ?_, fun k hk => ?_⟩
          · rw [y2 f _ (by omega)]
            have hf' : f = 0 ∨ f = 1 ∨ f = 2 := by omega
            rcases hf' with rfl | rfl | rfl
            · exact x3
            · rw [x4, h8, sv 47 rfl]; rfl
            · rw [x5, h8, sv 49 rfl]; rfl
          · rw [y2 3 _ (by omega), x6, h8]; exact r7.2.1
          · rw [y2 4 _ (by omega), x7, h8]; exact r7.2.2.1
          · rw [y4 k (by omega) hk, x2 54 _ (by omega), h8]; exact r7.2.2.2 k hk
        · rw [va_up_ne _ _ e]
          obtain ⟨t1, t2, t3, t4⟩ := t7 q q1 (show q < S.1 4 by omega)
          refine ⟨fun f hf => ?_, ?_, ?_, fun k hk => ?_⟩
          · rw [y2 f q (by omega), x2 f q (by omega), h8]; exact t1 f hf
          · rw [y2 3 q (by omega), x2 3 q (by omega), h8]; exact t2
          · rw [y2 4 q (by omega), x2 4 q (by omega), h8]; exact t3
          · rw [y2 5 _ (by omega), x2 5 _ (by omega), h8]; exact t4 k hk
    refine tr_Sn (S.1 4) hst hs (by decide) fun M22 w22 => ?_
    refine tr_Sn 2 w22 hs (by decide) fun M23 w23 => ?_
    refine tr_Gn w23 hs (by decide) ?_
    have w23' : WM M23 (y_com S s) := w23
    refine tr_bind (r_wait (S := y_com S s) (r := (S.se s).1 48) (q := S.1 4) hCx w23' (by omega) (by rw [e4]; exact Nat.lt_succ_self _) hQ') fun M25 w25 => ?_
    exact tr_some ⟨rfl, w25⟩
