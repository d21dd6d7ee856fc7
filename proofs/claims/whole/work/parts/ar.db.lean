/-! ===== begin, write, give up; what sessions show ===== -/
def y_begE (e : Se) (r i w : Nat) : Se := (((((e.u 46 1).u 48 r).u 49 i).m 50 0).m 51 0).u 52 w
def y_begin (S : Sx) (s r w : Nat) : Sx := S.ses s (y_begE (S.se s) r ((S.rp r).1 7) w)
theorem WM_0 {M : vM} {S : Sx} {v : Int32} (h : WM M S) : WM (mW M 0 v) S := WM_w h rfl (by decide)
theorem WM_7 {M : vM} {S : Sx} {r j : Nat} (h : WM M S) (hr : r < 9) (hj : sc j = true) : M.2 j r = nI ((S.rp r).1 j) := by
  have h' : WM M (S.set r (S.rp r)) := by rw [set_id]; exact h
  exact WM_g h' hr hj
theorem tr_Gr' {ρ : Type} {M : vM} {S : Sx} {r j : Nat} {f : Int32 → Option ρ} {Q : ρ → Prop} (h : WM M S) (hr : r < 9) (hj : sc j = true) (g : tr (f (nI ((S.rp r).1 j))) Q) : tr ((mG M j (nI r)).bind f) Q := by
  have h' : WM M (S.set r (S.rp r)) := by rw [set_id]; exact h
  exact tr_Gr h' hr hj g
theorem WC_7 {mm : Kp} {c : vC} {S : Sx} {r : Nat} (h : WC mm c S) (hr : r < S.N) (h6 : (S.rp r).1 6 = 1) : cI c 1007 r = nI ((S.rp r).1 7) := ((h.2.2.2.2 r hr).2 h6).2.2.2.2.2.2.1
theorem WC_8 {mm : Kp} {c : vC} {S : Sx} {r : Nat} (h : WC mm c S) (hr : r < S.N) (h6 : (S.rp r).1 6 = 1) : cI c 1008 r = nI ((S.rp r).1 8) := ((h.2.2.2.2 r hr).2 h6).2.2.2.2.2.2.2.1
theorem WC_ses {mm : Kp} {c c' : vC} {S : Sx} {s : Nat} {e : Se} (h : WC mm c S) (z : zq s c' c) (g : s < 16 → SeA c' S.tb s e) : WC mm c' (S.ses s e) := by
  refine WC_se h z (fun k _ q => if_neg q) (fun hs => ?_)
  rw [if_pos rfl]; exact g hs
theorem s_begin {c : vC} {M : vM} {S : Sx} (hW : WC K0 c S) (hM : WM M S) (hB : Bs S) (a1 a2 : Int32) (w : Nat) (hw : w ≤ 1) : ∃ S', Sim (F_X11_beginAt S.N c a1 a2 (nI w)) (F_X12_beginAt M a1 a2 (nI w)) S' ∧ (S' = S ∨ ∃ s r, s < 16 ∧ r < S.N ∧ (S.rp r).1 6 = 1 ∧ (S.se s).1 46 ≠ 1 ∧ (S.se s).1 46 ≠ 2 ∧ S' = y_begin S s r w) := by
  have hN := hB.n
  have h0 : WM (mW M 0 0) S := WM_0 hM
  unfold F_X11_beginAt F_X12_beginAt
  rcases ars (n := 16) (by decide) a1 with hb | ⟨s, hs, rfl⟩
  · refine ⟨S, ⟨0, ?_, ?_⟩, Or.inl rfl⟩
    · rw [e_ses0 hb, b2_]
      have : ∃ v, F_X11_upNumber S.N c a2 = some (c, v) := by
        rcases ars (n := S.N) (by omega) a2 with hb2 | ⟨r, hr, rfl⟩
        · exact ⟨_, e_upX hb2⟩
        · by_cases h6 : (S.rp r).1 6 = 0
          · exact ⟨_, e_up0 hW hr (by omega) h6⟩
          · exact ⟨_, e_up hW hr (by omega) (hB.u hr h6)⟩
      obtain ⟨v, ev⟩ := this
      rw [ev, b2_, oc_n]
      exact tr_z0 (tr_some ⟨rfl, hW⟩)
    · refine tr_l1 ?_
      rw [r_isSes0 hb, b2_, if_pos rfl]
      exact tr_z0 (tr_some ⟨rfl, h0⟩)
  rcases ars (n := S.N) (by omega) a2 with hb | ⟨r, hr, rfl⟩
  · refine ⟨S, ⟨0, ?_, ?_⟩, Or.inl rfl⟩
    · rw [e_ses hs, b2_, e_upX hb, b2_, oc_s, gd_ hs, oc_n]
      exact tr_z0 (tr_some ⟨rfl, hW⟩)
    · refine tr_l1 ?_
      rw [r_isSes hs, b2_, if_neg (by decide), r_isUp0 h0 hb, b2_, if_pos rfl]
      exact tr_z0 (tr_some ⟨rfl, h0⟩)
  by_cases h6 : (S.rp r).1 6 = 0
  · refine ⟨S, ⟨0, ?_, ?_⟩, Or.inl rfl⟩
    · rw [e_ses hs, b2_, e_up0 hW hr (by omega) h6, b2_, oc_s, gd_ hs, oc_n]
      exact tr_z0 (tr_some ⟨rfl, hW⟩)
    · refine tr_l1 ?_
      rw [r_isSes hs, b2_, if_neg (by decide), r_isUp h0 hN hr (by omega), b2_, if_pos h6, if_pos rfl]
      exact tr_z0 (tr_some ⟨rfl, h0⟩)
  have h6' := hB.u hr h6
  have b46 := hB.i hs
  obtain ⟨s1, s2, s3, s4, s5, s6, s7, s8, s9⟩ := hW.2.2.2.1 s hs
  have hx : WM (mW M 0 0) (S.ses s (S.se s)) := by rw [ses_id]; exact h0
  by_cases c1 : (S.se s).1 46 = 1 ∨ (S.se s).1 46 = 2
  · refine ⟨S, ⟨0, ?_, ?_⟩, Or.inl rfl⟩
    · rw [e_ses hs, b2_, e_up hW hr (by omega) h6', b2_, oc_s, gd_ hs, oc_s, gd_ hr, s1]
      refine tr_eq (b := 1) (by omega) (by decide) (fun _ => tr_z0 (tr_some ⟨rfl, hW⟩)) (fun q => ?_)
      refine tr_eq (b := 2) (by omega) (by decide) (fun _ => tr_z0 (tr_some ⟨rfl, hW⟩)) (fun q2 => ?_)
      omega
    · refine tr_l1 ?_
      rw [r_isSes hs, b2_, if_neg (by decide), r_isUp h0 hN hr (by omega), b2_, if_neg h6, if_neg (by decide)]
      refine tr_Gn hx hs (by decide) ?_
      refine tr_eq (b := 1) (by omega) (by decide) (fun _ => tr_z0 (tr_some ⟨rfl, h0⟩)) (fun q => ?_)
      refine tr_Gn hx hs (by decide) ?_
      refine tr_eq (b := 2) (by omega) (by decide) (fun _ => tr_z0 (tr_some ⟨rfl, h0⟩)) (fun q2 => ?_)
      omega
  · refine ⟨y_begin S s r w, ⟨1, ?_, ?_⟩, Or.inr ⟨s, r, hs, hr, h6', fun q => c1 (Or.inl q), fun q => c1 (Or.inr q), rfl⟩⟩
    · rw [e_ses hs, b2_, e_up hW hr (by omega) h6', b2_, oc_s, gd_ hs, oc_s, gd_ hr, s1]
      refine tr_eq (b := 1) (by omega) (by decide) (fun q => absurd (Or.inl q) c1) (fun q => ?_)
      refine tr_eq (b := 2) (by omega) (by decide) (fun q => absurd (Or.inr q) c1) (fun q2 => ?_)
      rw [WC_7 hW hr h6']
      unfold F_X9_begin
      have ez : ∀ {ρ : Type} (x : Option ρ), zb (nI w) x = x := fun x => by
        rcases (show w = 0 ∨ w = 1 by omega) with rfl | rfl
        · exact zb0 x
        · exact zb1 x
      rw [l1_, l1_, l1_, ez, l1_, l1_, l1_, Option.bind_some]
      refine tr_z1 (tr_some ⟨rfl, WC_ses hW ((zq_I (by decide)).tr ((zq_I (by decide)).tr ((zq_I (by decide)).tr ((zq_I (by decide)).tr ((zq_I (by decide)).tr (zq_I (by decide))))))) (fun _ => ⟨?_, ?_, ?_, ?_, ?_, ?_, ?_, fun e => ?_, s9⟩)⟩)
      · rw [uI_f _ _ _ (by decide), uI_f _ _ _ (by decide), uI_f _ _ _ (by decide), uI_f _ _ _ (by decide), uI_f _ _ _ (by decide), uI_s]; rfl
      · rw [uI_f _ _ _ (by decide), uI_f _ _ _ (by decide), uI_f _ _ _ (by decide), uI_f _ _ _ (by decide), uI_f _ _ _ (by decide), uI_f _ _ _ (by decide)]; exact s2
      · rw [uI_f _ _ _ (by decide), uI_f _ _ _ (by decide), uI_f _ _ _ (by decide), uI_f _ _ _ (by decide), uI_s]; exact (if_pos (Or.inl rfl)).symm
      · rw [uI_f _ _ _ (by decide), uI_f _ _ _ (by decide), uI_f _ _ _ (by decide), uI_s]; rfl
      · rw [uI_f _ _ _ (by decide), uI_s]; rfl
      · rw [uI_s]; rfl
      · rw [uI_f _ _ _ (by decide), uI_f _ _ _ (by decide), uI_s]; rfl
      · exact absurd (show 1 = 2 from e) (by decide)
    · refine tr_l1 ?_
      rw [r_isSes hs, b2_, if_neg (by decide), r_isUp h0 hN hr (by omega), b2_, if_neg h6, if_neg (by decide)]
      refine tr_Gn hx hs (by decide) ?_
      refine tr_eq (b := 1) (by omega) (by decide) (fun q => absurd (Or.inl q) c1) (fun q => ?_)
      refine tr_Gn hx hs (by decide) ?_
      refine tr_eq (b := 2) (by omega) (by decide) (fun q => absurd (Or.inr q) c1) (fun q2 => ?_)
      refine tr_Sn 1 hx hs (by decide) fun M1 w1 => ?_
      refine tr_Sn r w1 hs (by decide) fun M2 w2 => ?_
      refine tr_Gr' w2 (by omega) (by decide) ?_
      refine tr_Sn ((S.rp r).1 7) w2 hs (by decide) fun M3 w3 => ?_
      refine tr_Sm w3 hs (Or.inl rfl) fun M4 w4 => ?_
      refine tr_Sm w4 hs (Or.inr rfl) fun M5 w5 => ?_
      have ez : ∀ {ρ : Type} (x : Option ρ), zb (nI w) x = x := fun x => by
        rcases (show w = 0 ∨ w = 1 by omega) with rfl | rfl
        · exact zb0 x
        · exact zb1 x
      rw [ez]
      refine tr_Sn w w5 hs (by decide) fun M6 w6 => ?_
      exact tr_z1 (tr_some ⟨rfl, w6⟩)
theorem uR_I (c : vC) (f i j : Nat) (v : Int32) (g k : Nat) : cI (uR c f i j v) g k = cI c g k := rfl
def y_write (S : Sx) (s k : Nat) (v : Int32) : Sx := S.ses s (((S.se s).m 51 ((S.se s).2.1 51 ||| ((1 : Int32) <<< (nI k &&& 31)))).w k v)
theorem zq_R {c : vC} {s j : Nat} {v : Int32} : zq s (uR c 900 s j v) c :=
  ⟨ze_s rfl rfl rfl rfl (fun g a b => rfl) rfl, fun _ _ _ _ _ => rfl, fun _ _ _ _ => rfl, fun f i _ n => vi_u2v _ _ _ _ (fun q => n ⟨q.2, q.1⟩), fun _ => rfl, fun _ _ => rfl⟩
theorem s_write {c : vC} {M : vM} {S : Sx} (hW : WC K0 c S) (hM : WM M S) (hB : Bs S) (h52 : ∀ s, s < 16 → (S.se s).1 52 ≤ 1) (a1 a2 a3 : Int32) : ∃ S', Sim (F_X11_writeKey S.N c a1 a2 a3) (F_X12_writeKey M a1 a2 a3) S' ∧ (S' = S ∨ ∃ s k, s < 16 ∧ k < 16 ∧ (S.se s).1 46 = 1 ∧ S' = y_write S s k a3) := by
  have h0 : WM (mW M 0 0) S := WM_0 hM
  unfold F_X11_writeKey F_X12_writeKey
  rcases ars (n := 16) (by decide) a1 with hb | ⟨s, hs, rfl⟩
  · refine ⟨S, ⟨0, ?_, ?_⟩, Or.inl rfl⟩
    · rw [e_ses0 hb, b2_, oc_n]
      exact tr_z0 (tr_some ⟨rfl, hW⟩)
    · refine tr_l1 ?_
      rw [r_isSes0 hb, b2_, if_pos rfl]
      exact tr_z0 (tr_some ⟨rfl, h0⟩)
  rcases ars (n := 16) (by decide) a2 with hb | ⟨k, hk, rfl⟩
  · refine ⟨S, ⟨0, ?_, ?_⟩, Or.inl rfl⟩
    · rw [e_ses hs, b2_, oc_s, gd_ hs, e_isKey0 hb, b2_, if_pos rfl]
      exact tr_z0 (tr_some ⟨rfl, hW⟩)
    · refine tr_l1 ?_
      rw [r_isSes hs, b2_, if_neg (by decide), r_isKey0 hb, b2_, if_pos rfl]
      exact tr_z0 (tr_some ⟨rfl, h0⟩)
  have b46 := hB.i hs
  have b52 := h52 s hs
  obtain ⟨s1, s2, s3, s4, s5, s6, s7, s8, s9⟩ := hW.2.2.2.1 s hs
  have hx : WM (mW M 0 0) (S.ses s (S.se s)) := by rw [ses_id]; exact h0
  by_cases c1 : (S.se s).1 46 = 1 ∧ (S.se s).1 52 = 0
  · refine ⟨y_write S s k a3, ⟨1, ?_, ?_⟩, Or.inr ⟨s, k, hs, hk, c1.1, rfl⟩⟩
    · rw [e_ses hs, b2_, oc_s, gd_ hs, e_isKey hk, b2_, if_neg (by decide), s1, s7, c1.1, c1.2, if_pos (show nI 1 = (1 : Int32) from rfl), if_pos (show nI 0 = (0 : Int32) from rfl)]
      unfold F_X9_write
      rw [l1_, cSv (show k < 16 from hk) (by omega), Option.bind_some, Option.bind_some, s6]
      refine tr_z1 (tr_some ⟨rfl, WC_ses hW (zq_R.tr (zq_I (by decide))) (fun _ => ⟨?_, ?_, ?_, ?_, ?_, ?_, ?_, fun e => ?_, fun j hj => ?_⟩)⟩)
      · rw [uR_I, uI_f _ _ _ (by decide)]; exact s1
      · rw [uR_I, uI_f _ _ _ (by decide)]; exact s2
      · rw [uR_I, uI_f _ _ _ (by decide)]; exact s3
      · rw [uR_I, uI_f _ _ _ (by decide)]; exact s4
      · rw [uR_I, uI_f _ _ _ (by decide)]; exact s5
      · exact (uI_s _ _ _ _)
      · rw [uR_I, uI_f _ _ _ (by decide)]; exact s7
      · have : (S.se s).1 46 = 2 := e
        omega
      · by_cases q : j = k
        · subst q
          rw [uR_s]; exact (va_up_self (S.se s).2.2 j a3).symm
        · rw [uR_j _ _ _ _ q]; exact (s9 j hj).trans (va_up_ne (S.se s).2.2 a3 q).symm
    · refine tr_l1 ?_
      rw [r_isSes hs, b2_, if_neg (by decide), r_isKey hk, b2_, if_neg (by decide)]
      refine tr_Gn hx hs (by decide) ?_
      rw [c1.1, if_pos (show nI 1 = (1 : Int32) from rfl)]
      refine tr_Gn hx hs (by decide) ?_
      rw [c1.2, if_pos (show nI 0 = (0 : Int32) from rfl)]
      refine tr_G51 hx hs ?_
      refine tr_Sm hx hs (Or.inr rfl) fun M1 w1 => ?_
      rw [show (16 : Int32) * nI s + nI k = nI (16 * s + k) by rw [show (16 : Int32) = nI 16 from rfl, nI_mul, nI_add]]
      refine tr_Sv w1 hs hk fun M2 w2 => ?_
      exact tr_z1 (tr_some ⟨rfl, w2⟩)
  · refine ⟨S, ⟨0, ?_, ?_⟩, Or.inl rfl⟩
    · rw [e_ses hs, b2_, oc_s, gd_ hs, e_isKey hk, b2_, if_neg (by decide), s1, s7]
      refine tr_eq (b := 1) (by omega) (by decide) (fun q => ?_) (fun q => tr_z0 (tr_some ⟨rfl, hW⟩))
      refine tr_eq (b := 0) (by omega) (by decide) (fun q2 => absurd ⟨q, q2⟩ c1) (fun q => tr_z0 (tr_some ⟨rfl, hW⟩))
    · refine tr_l1 ?_
      rw [r_isSes hs, b2_, if_neg (by decide), r_isKey hk, b2_, if_neg (by decide)]
      refine tr_Gn hx hs (by decide) ?_
      refine tr_eq (b := 1) (by omega) (by decide) (fun q => ?_) (fun q => tr_z0 (tr_some ⟨rfl, h0⟩))
      refine tr_Gn hx hs (by decide) ?_
      refine tr_eq (b := 0) (by omega) (by decide) (fun q2 => absurd ⟨q, q2⟩ c1) (fun q => tr_z0 (tr_some ⟨rfl, h0⟩))
def y_end (S : Sx) (s v : Nat) : Sx := S.ses s ((S.se s).u 46 v)
theorem c_endS {mm : Kp} {N : Nat} {c : vC} {S : Sx} {s v : Nat} (h : WC mm c S) (hv : v = 3 ∨ v = 4) : F_X9_end N c s (nI v) = some (uI (uI c 901 s (nI v)) 903 s (-1)) ∧ WC mm (uI (uI c 901 s (nI v)) 903 s (-1)) (y_end S s v) := by
  refine ⟨rfl, WC_end h hv (fun k _ => ?_)⟩
  by_cases e : k = s
  · rw [if_pos e, if_pos e]; rfl
  · rw [if_neg e, if_neg e]
theorem s_giveUp {c : vC} {M : vM} {S : Sx} (hW : WC K0 c S) (hM : WM M S) (hB : Bs S) (a1 : Int32) : ∃ S', Sim (F_X11_giveUp S.N c a1) (F_X12_giveUp M a1) S' ∧ (S' = S ∨ ∃ s, s < 16 ∧ (S.se s).1 46 = 1 ∧ S' = y_end S s 4) := by
  have h0 : WM (mW M 0 0) S := WM_0 hM
  unfold F_X11_giveUp F_X12_giveUp
  rcases ars (n := 16) (by decide) a1 with hb | ⟨s, hs, rfl⟩
  · refine ⟨S, ⟨0, ?_, ?_⟩, Or.inl rfl⟩
    · rw [e_ses0 hb, b2_, oc_n]
      exact tr_z0 (tr_some ⟨rfl, hW⟩)
    · refine tr_l1 ?_
      rw [r_isSes0 hb, b2_, if_pos rfl]
      exact tr_z0 (tr_some ⟨rfl, h0⟩)
  have b46 := hB.i hs
  obtain ⟨s1, s2, s3, s4, s5, s6, s7, s8, s9⟩ := hW.2.2.2.1 s hs
  have hx : WM (mW M 0 0) (S.ses s (S.se s)) := by rw [ses_id]; exact h0
  by_cases c1 : (S.se s).1 46 = 1
  · refine ⟨y_end S s 4, ⟨1, ?_, ?_⟩, Or.inr ⟨s, hs, c1, rfl⟩⟩
    · obtain ⟨e1, e2⟩ := c_endS (N := S.N) (s := s) (v := 4) hW (Or.inr rfl)
      rw [e_ses hs, b2_, oc_s, gd_ hs, s1, c1, if_pos (show nI 1 = (1 : Int32) from rfl), show (4 : Int32) = nI 4 from rfl, e1, Option.bind_some]
      exact tr_z1 (tr_some ⟨rfl, e2⟩)
    · refine tr_l1 ?_
      rw [r_isSes hs, b2_, if_neg (by decide)]
      refine tr_Gn hx hs (by decide) ?_
      rw [c1, if_pos (show nI 1 = (1 : Int32) from rfl)]
      refine tr_Sn 4 hx hs (by decide) fun M1 w1 => ?_
      exact tr_z1 (tr_some ⟨rfl, w1⟩)
  · refine ⟨S, ⟨0, ?_, ?_⟩, Or.inl rfl⟩
    · rw [e_ses hs, b2_, oc_s, gd_ hs, s1]
      exact tr_eq (b := 1) (by omega) (by decide) (fun q => absurd q c1) (fun q => tr_z0 (tr_some ⟨rfl, hW⟩))
    · refine tr_l1 ?_
      rw [r_isSes hs, b2_, if_neg (by decide)]
      refine tr_Gn hx hs (by decide) ?_
      exact tr_eq (b := 1) (by omega) (by decide) (fun q => absurd q c1) (fun q => tr_z0 (tr_some ⟨rfl, h0⟩))
theorem s_session {c : vC} {M : vM} {S : Sx} (hW : WC K0 c S) (hM : WM M S) (hB : Bs S) (a1 a2 : Int32) : Sim (F_X11_sessionOf S.N c a1 a2) (F_X12_sessionOf M a1 a2) S := by
  have h0 : WM (mW M 0 0) S := WM_0 hM
  unfold F_X11_sessionOf F_X12_sessionOf
  rcases ars (n := 16) (by decide) a1 with hb | ⟨s, hs, rfl⟩
  · refine ⟨-1, ?_, ?_⟩
    · rw [e_ses0 hb, b2_, oc_n]
      exact tr_some ⟨rfl, hW⟩
    · refine tr_l1 ?_
      rw [r_isSes0 hb, b2_, if_pos rfl]
      exact tr_some ⟨rfl, h0⟩
  have b46 := hB.i hs
  obtain ⟨s1, s2, s3, s4, s5, s6, s7, s8, s9⟩ := hW.2.2.2.1 s hs
  have hx : WM (mW M 0 0) (S.ses s (S.se s)) := by rw [ses_id]; exact h0
  unfold F_X9_tell
  by_cases c0 : a2 = 0
  · refine ⟨nI ((S.se s).1 46), ?_, ?_⟩
    · rw [e_ses hs, b2_, oc_s, gd_ hs, if_pos c0, b2_]
      exact tr_some ⟨s1, hW⟩
    · refine tr_l1 ?_
      rw [r_isSes hs, b2_, if_neg (by decide), if_pos c0]
      exact tr_Gn hx hs (by decide) (tr_some ⟨rfl, h0⟩)
  by_cases c1 : a2 = 1
  · refine ⟨nI ((S.se s).1 47), ?_, ?_⟩
    · rw [e_ses hs, b2_, oc_s, gd_ hs, if_neg c0, if_pos c1, b2_]
      exact tr_some ⟨s2, hW⟩
    · refine tr_l1 ?_
      rw [r_isSes hs, b2_, if_neg (by decide), if_neg c0, if_pos c1]
      exact tr_Gn hx hs (by decide) (tr_some ⟨rfl, h0⟩)
  by_cases c2 : a2 = 2
  · refine ⟨if (S.se s).1 46 = 1 ∨ (S.se s).1 46 = 2 then nI ((S.se s).1 48) else -1, ?_, ?_⟩
    · rw [e_ses hs, b2_, oc_s, gd_ hs, if_neg c0, if_neg c1, if_pos c2, b2_]
      exact tr_some ⟨s3, hW⟩
    · refine tr_l1 ?_
      rw [r_isSes hs, b2_, if_neg (by decide), if_neg c0, if_neg c1, if_pos c2]
      refine tr_Gn hx hs (by decide) ?_
      refine tr_eq (b := 1) (by omega) (by decide) (fun q => ?_) (fun q => ?_)
      · rw [if_pos (Or.inl q)]
        exact tr_Gn hx hs (by decide) (tr_some ⟨rfl, h0⟩)
      refine tr_Gn hx hs (by decide) ?_
      refine tr_eq (b := 2) (by omega) (by decide) (fun q2 => ?_) (fun q2 => ?_)
      · rw [if_pos (Or.inr q2)]
        exact tr_Gn hx hs (by decide) (tr_some ⟨rfl, h0⟩)
      · rw [if_neg (by omega)]
        exact tr_some ⟨rfl, h0⟩
  by_cases c3 : a2 = 3
  · refine ⟨nI ((S.se s).1 49), ?_, ?_⟩
    · rw [e_ses hs, b2_, oc_s, gd_ hs, if_neg c0, if_neg c1, if_neg c2, if_pos c3, b2_]
      exact tr_some ⟨s4, hW⟩
    · refine tr_l1 ?_
      rw [r_isSes hs, b2_, if_neg (by decide), if_neg c0, if_neg c1, if_neg c2, if_pos c3]
      exact tr_Gn hx hs (by decide) (tr_some ⟨rfl, h0⟩)
  by_cases c4 : a2 = 4
  · refine ⟨(S.se s).2.1 50, ?_, ?_⟩
    · rw [e_ses hs, b2_, oc_s, gd_ hs, if_neg c0, if_neg c1, if_neg c2, if_neg c3, if_pos c4, b2_]
      exact tr_some ⟨s5, hW⟩
    · refine tr_l1 ?_
      rw [r_isSes hs, b2_, if_neg (by decide), if_neg c0, if_neg c1, if_neg c2, if_neg c3, if_pos c4]
      exact tr_G50 hx hs (tr_some ⟨rfl, h0⟩)
  by_cases c5 : a2 = 5
  · refine ⟨(S.se s).2.1 51, ?_, ?_⟩
    · rw [e_ses hs, b2_, oc_s, gd_ hs, if_neg c0, if_neg c1, if_neg c2, if_neg c3, if_neg c4, if_pos c5, b2_]
      exact tr_some ⟨s6, hW⟩
    · refine tr_l1 ?_
      rw [r_isSes hs, b2_, if_neg (by decide), if_neg c0, if_neg c1, if_neg c2, if_neg c3, if_neg c4, if_pos c5]
      exact tr_G51 hx hs (tr_some ⟨rfl, h0⟩)
  · refine ⟨-1, ?_, ?_⟩
    · rw [e_ses hs, b2_, oc_s, gd_ hs, if_neg c0, if_neg c1, if_neg c2, if_neg c3, if_neg c4, if_neg c5, b2_]
      exact tr_some ⟨rfl, hW⟩
    · refine tr_l1 ?_
      rw [r_isSes hs, b2_, if_neg (by decide), if_neg c0, if_neg c1, if_neg c2, if_neg c3, if_neg c4, if_neg c5]
      exact tr_some ⟨rfl, h0⟩
