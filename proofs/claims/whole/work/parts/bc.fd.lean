theorem se_wait (X : Sx) (r q : Nat) : (y_wait X r q).se = X.se := by
  unfold y_wait
  dsimp only
  split <;> rfl
theorem s_retry {c : vC} {M : vM} {S : Sx} (hW : WC K0 c S) (hM : WM M S) (hB : Bs S) (hK : CmOk S) (hSe : ∀ s, s < 16 → (S.se s).1 46 = 2 → 0 < (S.se s).1 47 ∧ 0 < (S.se s).1 53) (hU : ∀ q q', q < S.1 4 → q' < S.1 4 → (S.tb q).1 0 = (S.tb q').1 0 → (S.tb q).1 1 = (S.tb q').1 1 → q = q') (a1 a2 : Int32) : ∃ S', Sim (F_X11_retryAt S.N c a1 a2) (F_X12_retryAt M a1 a2) S' ∧ (S' = S ∨ ∃ s r, s < 16 ∧ r < S.N ∧ (S.rp r).1 6 = 1 ∧ (S.se s).1 46 = 2 ∧ S' = y_retry S s r) := by
  have hN := hB.n
  have h0 : WM (mW M 0 0) S := WM_0 hM
  unfold F_X11_retryAt F_X12_retryAt
  rcases ars (n := 16) (by decide) a1 with hb | ⟨s, hs, rfl⟩
  · refine ⟨S, ⟨-1, ?_, ?_⟩, Or.inl rfl⟩
    · rw [e_ses0 hb, b2_]
      rcases ars (n := S.N) (by omega) a2 with hb2 | ⟨r, hr, rfl⟩
      · rw [e_upX hb2, b2_, oc_n]; exact tr_some ⟨rfl, hW⟩
      · by_cases h6 : (S.rp r).1 6 = 0
        · rw [e_up0 hW hr (by omega) h6, b2_, oc_n]; exact tr_some ⟨rfl, hW⟩
        · rw [e_up hW hr (by omega) (hB.u hr h6), b2_, oc_n]; exact tr_some ⟨rfl, hW⟩
    · refine tr_l1 ?_
      rw [r_isSes0 hb, b2_, if_pos rfl]
      exact tr_some ⟨rfl, h0⟩
  rcases ars (n := S.N) (by omega) a2 with hb2 | ⟨r, hr, rfl⟩
  · refine ⟨S, ⟨-1, ?_, ?_⟩, Or.inl rfl⟩
    · rw [e_ses hs, b2_, e_upX hb2, b2_, oc_s, gd_ hs, oc_n]
      exact tr_some ⟨rfl, hW⟩
    · refine tr_l1 ?_
      rw [r_isSes hs, b2_, if_neg (by decide), r_isUp0 h0 hb2, b2_, if_pos rfl]
      exact tr_some ⟨rfl, h0⟩
  by_cases h6 : (S.rp r).1 6 = 0
  · refine ⟨S, ⟨-1, ?_, ?_⟩, Or.inl rfl⟩
    · rw [e_ses hs, b2_, e_up0 hW hr (by omega) h6, b2_, oc_s, gd_ hs, oc_n]
      exact tr_some ⟨rfl, hW⟩
    · refine tr_l1 ?_
      rw [r_isSes hs, b2_, if_neg (by decide), r_isUp h0 hN hr (by omega), b2_, if_pos h6, if_pos rfl]
      exact tr_some ⟨rfl, h0⟩
  have h6' := hB.u hr h6
  have b46 := hB.i hs
  obtain ⟨s1, s2, s3, s4, s5, s6, s7, s8, s9⟩ := hW.2.2.2.1 s hs
  have hx : WM (mW M 0 0) (S.ses s (S.se s)) := by rw [ses_id]; exact h0
  by_cases c1 : ¬ (S.se s).1 46 = 2
  · refine ⟨S, ⟨-1, ?_, ?_⟩, Or.inl rfl⟩
    · rw [e_ses hs, b2_, e_up hW hr (by omega) h6', b2_, oc_s, gd_ hs, oc_s, gd_ hr, s1]
      exact tr_eq (b := 2) (by omega) (by decide) (fun q => absurd q c1) (fun q => tr_some ⟨rfl, hW⟩)
    · refine tr_l1 ?_
      rw [r_isSes hs, b2_, if_neg (by decide), r_isUp h0 hN hr (by omega), b2_, if_neg h6, if_neg (by decide)]
      refine tr_Gn hx hs (by decide) ?_
      exact tr_eq (b := 2) (by omega) (by decide) (fun q => absurd q c1) (fun q => tr_some ⟨rfl, h0⟩)
  have c1 : (S.se s).1 46 = 2 := Decidable.of_not_not c1
  obtain ⟨k1, k2, k3, k4, k5, k6, k7, k8, k9, k10, k11⟩ := hK
  obtain ⟨p47, p53⟩ := hSe s hs c1
  have n53 := k6 s hs c1
  have hQ := (k5 r hr h6').2.2.2
  have eS1 : (S.ses s ((S.se s).u 48 r)).rp = S.rp := rfl
  have hCx1 : Cx (S.ses s ((S.se s).u 48 r)) := by
    refine Cx_ses hB.1 (fun k hk => ?_)
    have := hB.1.s k hk
    by_cases e : k = s
    · rw [if_pos e]
      have := hB.1.s s hs
      exact ⟨this.1, show r < 2 ^ 31 by omega, this.2.2⟩
    · rw [if_neg e]; exact this
  have ek : (S.sta ((S.rp r).1 7)).2.1 s < 2 ^ 30 := sta_b hB.1 _ _
  have b47 := (k9 s hs).1
  -- the class
  have wc9 : WC K0 (uI c 903 s (nI r)) (S.ses s ((S.se s).u 48 r)) := by
    refine WC_ses hW (zq_I (by decide)) (fun _ => ⟨?_, ?_, ?_, ?_, ?_, ?_, ?_, fun q => ?_, fun k hk => ?_⟩)
    · rw [uI_f _ _ _ (by decide)]; exact s1
    · rw [uI_f _ _ _ (by decide)]; exact s2
    · rw [uI_s]
      exact (if_pos (show ((S.se s).u 48 r).1 46 = 1 ∨ ((S.se s).u 48 r).1 46 = 2 from Or.inr c1)).symm
    · rw [uI_f _ _ _ (by decide)]; exact s4
    · rw [uI_f _ _ _ (by decide)]; exact s5
    · rw [uI_f _ _ _ (by decide)]; exact s6
    · rw [uI_f _ _ _ (by decide)]; exact s7
    · have := s8 c1
      exact RqO.c this (ze_s rfl rfl rfl rfl (fun f f1 f2 => by
        funext i
        rw [uI_f _ _ _ (by omega)]) rfl)
    · exact s9 k hk
  have e902 : cI (uI c 903 s (nI r)) 902 s = nI ((S.se s).1 47) := by rw [uI_f _ _ _ (by decide)]; exact s2
  have wm7 : ∀ {M7 : vM}, WM M7 (S.ses s ((S.se s).u 48 r)) → M7.2 17 (16 * r + s) = nI ((S.sta ((S.rp r).1 7)).2.1 s) ∧ M7.2 18 (16 * r + s) = nI ((S.sta ((S.rp r).1 7)).2.2.1 s) := fun {M7} w7 => by
    have v17 := (w7.2.2.2.1 r (by omega)).2.2.2.2.1 s hs
    have v18 := (w7.2.2.2.1 r (by omega)).2.2.2.2.2.1 s hs
    rw [vw_a (show s < 16 from hs)] at v17 v18
    exact ⟨v17, v18⟩
  have ea : (16 : Int32) * nI r + nI s = nI (16 * r + s) := by rw [show (16 : Int32) = nI 16 from rfl, nI_mul, nI_add]
  have hbeg : F_X11_sessionNumber S.N c (nI s) = some (c, some s) := e_ses hs
  have hupn : F_X11_upNumber S.N c (nI r) = some (c, some r) := e_up hW hr (by omega) h6'
  refine ⟨y_retry S s r, ?_, Or.inr ⟨s, r, hs, hr, h6', c1, rfl⟩⟩
  rw [hbeg, b2_, hupn, b2_, oc_s, gd_ hs, oc_s, gd_ hr, s1, c1, if_pos (show nI 2 = (2 : Int32) from rfl), l1_]
  generalize uI c 903 s (nI r) = c9 at wc9 e902 ⊢
  have st := ((wc9.2.2.2.2 r hr).2 h6').2.2.2.2.2.2
  have st1 : cR c9 1002 r s = nI ((S.sta ((S.rp r).1 7)).2.1 s) := st.2.2.2.1 s hs
  have st2 : cR c9 1003 r s = nI ((S.sta ((S.rp r).1 7)).2.2.1 s) := st.2.2.2.2.1 s hs
  have se9 := wc9.2.2.2.1 s hs
  rw [ses_s] at se9
  rw [cGv (show s < 16 from hs) (by omega), Option.bind_some, st1, e902]
  unfold y_retry
  by_cases ck : (S.sta ((S.rp r).1 7)).2.1 s = (S.se s).1 47
  · rw [if_pos ck]
    have hv : (S.sta ((S.rp r).1 7)).2.2.1 s = 1 ∨ (S.sta ((S.rp r).1 7)).2.2.1 s = 2 := st_v (V := S.V) (tb := S.tb) (g := S.lg) ((S.rp r).1 7) s (show 0 < (S.sta ((S.rp r).1 7)).2.1 s by omega)
    refine ⟨nI (2 + (S.sta ((S.rp r).1 7)).2.2.1 s), ?_, ?_⟩
    · rw [if_pos (by rw [ck]), cGv (show s < 16 from hs) (by omega), Option.bind_some, st2]
      have fin : ∀ v, v = 3 ∨ v = 4 → 2 + (S.sta ((S.rp r).1 7)).2.2.1 s = v → tr ((F_X9_end S.N c9 s (nI v)).bind fun M1 => (some M1 : Option vC).bind fun M14 => some (M14, cI M14 901 s)) (fun p => p.2 = nI (2 + (S.sta ((S.rp r).1 7)).2.2.1 s) ∧ WC K0 p.1 (S.ses s (((S.se s).u 48 r).u 46 (2 + (S.sta ((S.rp r).1 7)).2.2.1 s)))) := fun v hv3 hvv => by
        obtain ⟨e1, e2⟩ := c_endS (N := S.N) (s := s) (v := v) wc9 hv3
        rw [e1, Option.bind_some, Option.bind_some, hvv]
        have e2' : WC K0 (uI (uI c9 901 s (nI v)) 903 s (-1)) (S.ses s (((S.se s).u 48 r).u 46 v)) := by
          have : y_end (S.ses s ((S.se s).u 48 r)) s v = S.ses s (((S.se s).u 48 r).u 46 v) := by
            unfold y_end
            rw [ses_s, ses_ses]
          rw [this] at e2; exact e2
        refine tr_some ⟨?_, e2'⟩
        have e3 := (e2'.2.2.2.1 s hs).1
        rw [ses_s] at e3
        exact e3
      unfold F_X9_endBy
      rcases hv with hv | hv
      · have f := fin 3 (Or.inl rfl) (by rw [hv])
        rw [hv] at f ⊢
        rw [if_pos (show nI 1 = (1 : Int32) from rfl)]
        obtain ⟨e1, e2⟩ := c_endS (N := S.N) (s := s) (v := 3) wc9 (Or.inl rfl)
        rw [show (3 : Int32) = nI 3 from rfl, e1, Option.bind_some]
        rw [e1, Option.bind_some] at f
        exact f
      · have f := fin 4 (Or.inr rfl) (by rw [hv])
        rw [hv] at f ⊢
        rw [if_neg (show ¬ nI 2 = (1 : Int32) from by decide)]
        obtain ⟨e1, e2⟩ := c_endS (N := S.N) (s := s) (v := 4) wc9 (Or.inr rfl)
        rw [show (4 : Int32) = nI 4 from rfl, e1, Option.bind_some]
        rw [e1, Option.bind_some] at f
        exact f
    · refine tr_l1 ?_
      rw [r_isSes hs, b2_, if_neg (by decide), r_isUp h0 hN hr (by omega), b2_, if_neg h6, if_neg (by decide)]
      refine tr_Gn hx hs (by decide) ?_
      rw [c1, if_pos (show nI 2 = (2 : Int32) from rfl)]
      refine tr_Sn r hx hs (by decide) fun M7 w7 => ?_
      obtain ⟨v17, v18⟩ := wm7 w7
      rw [ea]
      refine tr_G (show 16 * r + s < 144 by omega) (by omega) ?_
      refine tr_Gn w7 hs (by decide) ?_
      rw [v17]
      rw [if_pos (show nI ((S.sta ((S.rp r).1 7)).2.1 s) = nI (((S.se s).u 48 r).1 47) by rw [ck]; rfl)]
      refine tr_G (show 16 * r + s < 144 by omega) (by omega) ?_
      rw [v18, show (2 : Int32) + nI ((S.sta ((S.rp r).1 7)).2.2.1 s) = nI (2 + (S.sta ((S.rp r).1 7)).2.2.1 s) from nI_add 2 _]
      refine tr_Sn (2 + (S.sta ((S.rp r).1 7)).2.2.1 s) w7 hs (by decide) fun M14 w14 => ?_
      refine tr_Gn w14 hs (by decide) ?_
      exact tr_some ⟨rfl, w14⟩
  · rw [if_neg ck]
    have hne : ¬ nI ((S.sta ((S.rp r).1 7)).2.1 s) = nI ((S.se s).1 47) := fun e => ck (nI_inj (by omega) (by omega) e)
    refine ⟨2, ?_, ?_⟩
    · rw [if_neg hne, l1_]
      obtain ⟨a, ea', ra⟩ := (se9.2.2.2.2.2.2.2.1 c1).2 p53
      rw [ea']
      have w9' : WC K0 c9 ((S.ses s ((S.se s).u 48 r)).set r (S.rp r)) := by
        have := set_id (S.ses s ((S.se s).u 48 r)) r
        rw [eS1] at this
        rw [this]; exact wc9
      refine tr_bind (c_add (q := (S.se s).1 53) hCx1 w9' hr h6' hQ ra p53 (fun q' hq' x y => hU q' _ (hQ.2 q' hq').2 n53 x y)) fun c8 w8 => ?_
      have es : y_wait ((S.ses s ((S.se s).u 48 r)).set r (S.rp r)) r ((S.se s).1 53) = y_wait (S.ses s ((S.se s).u 48 r)) r ((S.se s).1 53) := by
        have := set_id (S.ses s ((S.se s).u 48 r)) r
        rw [eS1] at this
        rw [this]
      rw [es] at w8
      refine tr_some ⟨?_, w8⟩
      have e3 := (w8.2.2.2.1 s hs).1
      rw [se_wait, ses_s, show ((S.se s).u 48 r).1 46 = 2 from c1] at e3
      exact e3
    · refine tr_l1 ?_
      rw [r_isSes hs, b2_, if_neg (by decide), r_isUp h0 hN hr (by omega), b2_, if_neg h6, if_neg (by decide)]
      refine tr_Gn hx hs (by decide) ?_
      rw [c1, if_pos (show nI 2 = (2 : Int32) from rfl)]
      refine tr_Sn r hx hs (by decide) fun M7 w7 => ?_
      obtain ⟨v17, v18⟩ := wm7 w7
      rw [ea]
      refine tr_G (show 16 * r + s < 144 by omega) (by omega) ?_
      refine tr_Gn w7 hs (by decide) ?_
      rw [v17]
      rw [if_neg (show ¬ nI ((S.sta ((S.rp r).1 7)).2.1 s) = nI (((S.se s).u 48 r).1 47) from hne)]
      refine tr_Gn w7 hs (by decide) ?_
      refine tr_bind (r_wait (S := S.ses s ((S.se s).u 48 r)) (r := r) (q := (S.se s).1 53) hCx1 w7 (by omega) n53 hQ) fun M11 w11 => ?_
      have w11' : WM M11 ((y_wait (S.ses s ((S.se s).u 48 r)) r ((S.se s).1 53)).ses s ((S.se s).u 48 r)) := by
        have := ses_id (y_wait (S.ses s ((S.se s).u 48 r)) r ((S.se s).1 53)) s
        rw [se_wait, ses_s] at this
        rw [this]; exact w11
      refine tr_Gn w11' hs (by decide) ?_
      refine tr_some ⟨?_, w11⟩
      show nI (((S.se s).u 48 r).1 46) = 2
      rw [show ((S.se s).u 48 r).1 46 = 2 from c1]; rfl
