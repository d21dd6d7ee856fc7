/-! ===== turn, tick; what replicas show ===== -/
theorem s_tick {c : vC} {M : vM} {S : Sx} (hW : WC K0 c S) (hM : WM M S) (hB : Bs S) (hfl : S.fl.length ≤ 200) (hU : ∀ r, r < S.N → (S.rp r).1 6 = 1 → OkR S (S.rp r) ∧ AcOk (S.rp r) ∧ (S.rp r).1 13 + 1 < 65536 ∧ max ((S.rp r).1 10) ((S.rp r).1 25) + 9 < 65536) (a1 : Int32) : ∃ S', Sim (F_X11_tickOf S.N c a1) (F_X12_tickOf M a1) S' ∧ (S' = S ∨ ∃ r, r < S.N ∧ (S.rp r).1 6 = 1 ∧ S' = y_tick S r) := by
  have hN := hB.n
  have h0 : WM (mW M 0 0) S := WM_0 hM
  rcases ars (n := S.N) (by omega) a1 with hb | ⟨r, hr, rfl⟩
  · refine ⟨S, ⟨-1, ?_, ?_⟩, Or.inl rfl⟩
    · unfold F_X11_tickOf
      rw [e_upX hb, b2_, oc_n]
      exact tr_some ⟨rfl, hW⟩
    · unfold F_X12_tickOf
      refine tr_l1 ?_
      rw [r_isUp0 h0 hb, b2_, if_pos rfl]
      exact tr_some ⟨rfl, h0⟩
  by_cases h6 : (S.rp r).1 6 = 0
  · refine ⟨S, ⟨-1, ?_, ?_⟩, Or.inl rfl⟩
    · unfold F_X11_tickOf
      rw [e_up0 hW hr (by omega) h6, b2_, oc_n]
      exact tr_some ⟨rfl, hW⟩
    · unfold F_X12_tickOf
      refine tr_l1 ?_
      rw [r_isUp h0 hN hr (by omega), b2_, if_pos h6, if_pos rfl]
      exact tr_some ⟨rfl, h0⟩
  have h6' := hB.u hr h6
  obtain ⟨o1, o2, o3, o4⟩ := hU r hr h6'
  refine ⟨y_tick S r, ⟨nI (y_tick S r).fl.length, ?_, ?_⟩, Or.inr ⟨r, hr, h6', rfl⟩⟩
  · unfold F_X11_tickOf
    rw [e_up hW hr (by omega) h6', b2_, oc_s, gd_ hr]
    refine tr_bind (c_tick hB.1 hW hr hfl o1 o2 h6' o3 o4) fun c' w => tr_some ⟨w.2.2.1.2.1, w⟩
  · exact r_tick hB.1 hM hr hfl o1 h6' o3 o4
/-- what a replica that is down must keep to, to come up -/
def UpOk (S : Sx) (R : Rp) : Prop := DnOk R ∧ JR R ∧ DkS S R ∧ 0 < R.1 32 ∧ R.1 32 < 2 ^ 30 ∧ (∀ n, n ∈ R.2.2.1 → NbOk n ∧ NtC n) ∧ rpA S (y_z0 (R.u 6 1)) R.2.2.1 ∧ BR S (y_up1 S (R.u 6 1))
theorem s_turn {c : vC} {M : vM} {S : Sx} (hW : WC K0 c S) (hM : WM M S) (hB : Bs S) (hT : TbW S.tb) (hU : ∀ r, r < S.N → (S.rp r).1 6 = 0 → UpOk S (S.rp r)) (a1 : Int32) (w : Nat) (hw : w ≤ 1) : ∃ S', Sim (F_X11_turnTo S.N c a1 (nI w)) (F_X12_turnTo M a1 (nI w)) S' ∧ (S' = S ∨ ∃ r, r < S.N ∧ ((S.rp r).1 6 = 1 ∧ S' = y_goDown S r ∨ (S.rp r).1 6 = 0 ∧ S' = y_up S r)) := by
  have hN := hB.n
  have h0 : WM (mW M 0 0) S := WM_0 hM
  unfold F_X11_turnTo F_X12_turnTo
  rcases ars (n := S.N) (by omega) a1 with hb | ⟨r, hr, rfl⟩
  · refine ⟨S, ⟨0, ?_, ?_⟩, Or.inl rfl⟩
    · rw [e_rep0 hb, b2_, oc_n]
      exact tr_z0 (tr_some ⟨rfl, hW⟩)
    · refine tr_l1 ?_
      rw [r_isRep0 h0 hb, b2_, if_pos rfl]
      exact tr_z0 (tr_some ⟨rfl, h0⟩)
  have e6 := (hW.2.2.2.2 r hr).1.2.1 711 6 rfl
  have b6 := hB.2.1 r hr
  have hW' : WC K0 c (S.set r (S.rp r)) := by rw [set_id]; exact hW
  have h0' : WM (mW M 0 0) (S.set r (S.rp r)) := by rw [set_id]; exact h0
  by_cases c1 : (S.rp r).1 6 = w
  · refine ⟨S, ⟨0, ?_, ?_⟩, Or.inl rfl⟩
    · rw [e_rep hr (by omega), b2_, oc_s, gd_ hr, e6, c1, if_pos rfl]
      exact tr_z0 (tr_some ⟨rfl, hW⟩)
    · refine tr_l1 ?_
      rw [r_isRep h0 hN hr, b2_, if_neg (by decide), r_isRep h0 hN hr, b2_, jn_, if_neg (by decide)]
      refine tr_Gr' h0 (by omega) (by decide) ?_
      rw [c1, if_pos rfl]
      exact tr_z0 (tr_some ⟨rfl, h0⟩)
  rcases (show w = 0 ∨ w = 1 by omega) with rfl | rfl
  · refine ⟨y_goDown S r, ⟨1, ?_, ?_⟩, Or.inr ⟨r, hr, Or.inl ⟨by omega, rfl⟩⟩⟩
    · rw [e_rep hr (by omega), b2_, oc_s, gd_ hr, e6, show (S.rp r).1 6 = 1 by omega, if_neg (by decide), if_pos (show nI 0 = (0 : Int32) from rfl)]
      have := c_goDown (N := S.N) hB.1.2.2.2.2.2.2.2.2.2.2 hW' (by omega) hr
      rw [set_id] at this
      exact tr_bind this fun c' w => tr_z1 (tr_some ⟨rfl, w⟩)
    · refine tr_l1 ?_
      rw [r_isRep h0 hN hr, b2_, if_neg (by decide), r_isRep h0 hN hr, b2_, jn_, if_neg (by decide)]
      refine tr_Gr' h0 (by omega) (by decide) ?_
      rw [show (S.rp r).1 6 = 1 by omega, if_neg (by decide), if_pos (show nI 0 = (0 : Int32) from rfl)]
      have := r_goDown hB.1.2.2.2.2.2.2.2.2.2.2 h0' (by omega)
      rw [set_id] at this
      exact tr_bind this fun c' w => tr_z1 (tr_some ⟨rfl, w⟩)
  · have h6 : (S.rp r).1 6 = 0 := by omega
    obtain ⟨u1, u2, u3, u4, u5, u6, u7, u8⟩ := hU r hr h6
    refine ⟨y_up S r, ⟨1, ?_, ?_⟩, Or.inr ⟨r, hr, Or.inr ⟨h6, rfl⟩⟩⟩
    · rw [e_rep hr (by omega), b2_, oc_s, gd_ hr, e6, h6, if_neg (by decide), if_neg (by decide)]
      exact tr_bind (c_comeUp hB.1 hT hW' hr u1 u2 u3 u4 u5 u6 u7 u8) fun c' w => tr_z1 (tr_some ⟨rfl, w⟩)
    · refine tr_l1 ?_
      rw [r_isRep h0 hN hr, b2_, if_neg (by decide), r_isRep h0 hN hr, b2_, jn_, if_neg (by decide)]
      refine tr_Gr' h0 (by omega) (by decide) ?_
      rw [h6, if_neg (by decide), if_neg (by decide)]
      refine tr_z1 ?_
      refine tr_Sr 1 h0' (by omega) (by decide) (by decide) (by decide) (by decide) fun M1 w1 => ?_
      exact tr_bind (r_comeUp hB.1 w1 (by omega) u2 u7 u8 u5) fun c' w => tr_z1 (tr_some ⟨rfl, w⟩)
theorem vw_st {M : vM} {S : Sx} {r i k : Nat} (h : WM M S) (hr : r < 9) (h8 : (S.rp r).1 8 ≤ i) (h7 : i ≤ (S.rp r).1 7) (hk : k < 16) : M.2 14 (640 * r + (16 * (i % 40) + k)) = (S.sta i).1 k := by
  have := (h.2.2.2.1 r hr).2.1 i k h8 h7 hk
  rw [vw_a (show 16 * (i % 40) + k < 640 by omega)] at this
  exact this
theorem s_known {c : vC} {M : vM} {S : Sx} (hW : WC K0 c S) (hM : WM M S) (hB : Bs S) (a1 a2 a3 : Int32) : Sim (F_X11_knownOf S.N c a1 a2 a3) (F_X12_knownOf M a1 a2 a3) S := by
  have hN := hB.n
  have h0 : WM (mW M 0 0) S := WM_0 hM
  unfold F_X11_knownOf F_X12_knownOf
  rcases ars (n := S.N) (by omega) a1 with hb | ⟨r, hr, rfl⟩
  · refine ⟨-1, ?_, ?_⟩
    · rw [e_upX hb, b2_, oc_n]
      exact tr_some ⟨rfl, hW⟩
    · refine tr_l1 ?_
      rw [r_isUp0 h0 hb, b2_, if_pos rfl]
      exact tr_some ⟨rfl, h0⟩
  by_cases h6 : (S.rp r).1 6 = 0
  · refine ⟨-1, ?_, ?_⟩
    · rw [e_up0 hW hr (by omega) h6, b2_, oc_n]
      exact tr_some ⟨rfl, hW⟩
    · refine tr_l1 ?_
      rw [r_isUp h0 hN hr (by omega), b2_, if_pos h6, if_pos rfl]
      exact tr_some ⟨rfl, h0⟩
  have h6' := hB.u hr h6
  rcases ars (n := 16) (by decide) a2 with hb | ⟨s, hs, rfl⟩
  · refine ⟨-1, ?_, ?_⟩
    · rw [e_up hW hr (by omega) h6', b2_, oc_s, gd_ hr, e_ses0 hb, b2_, oc_n]
      exact tr_some ⟨rfl, hW⟩
    · refine tr_l1 ?_
      rw [r_isUp h0 hN hr (by omega), b2_, if_neg h6, if_neg (by decide), r_isSes0 hb, b2_, if_pos rfl]
      exact tr_some ⟨rfl, h0⟩
  have st := ((hW.2.2.2.2 r hr).2 h6').2.2.2.2.2.2
  have ea : (16 : Int32) * nI r + nI s = nI (16 * r + s) := by rw [show (16 : Int32) = nI 16 from rfl, nI_mul, nI_add]
  have v17 := (h0.2.2.2.1 r (by omega)).2.2.2.2.1 s hs
  have v18 := (h0.2.2.2.1 r (by omega)).2.2.2.2.2.1 s hs
  rw [vw_a (show s < 16 from hs)] at v17 v18
  by_cases c1 : a3 = 0
  · refine ⟨nI ((S.sta ((S.rp r).1 7)).2.1 s), ?_, ?_⟩
    · rw [e_up hW hr (by omega) h6', b2_, oc_s, gd_ hr, e_ses hs, b2_, oc_s, gd_ hs, if_pos c1, cGv (show s < 16 from hs) (by omega), Option.bind_some]
      exact tr_some ⟨st.2.2.2.1 s hs, hW⟩
    · refine tr_l1 ?_
      rw [r_isUp h0 hN hr (by omega), b2_, if_neg h6, if_neg (by decide), r_isSes hs, b2_, if_neg (by decide), if_pos c1, ea]
      exact tr_G (show 16 * r + s < 144 by omega) (by omega) (tr_some ⟨v17, h0⟩)
  · refine ⟨nI ((S.sta ((S.rp r).1 7)).2.2.1 s), ?_, ?_⟩
    · rw [e_up hW hr (by omega) h6', b2_, oc_s, gd_ hr, e_ses hs, b2_, oc_s, gd_ hs, if_neg c1, cGv (show s < 16 from hs) (by omega), Option.bind_some]
      exact tr_some ⟨st.2.2.2.2.1 s hs, hW⟩
    · refine tr_l1 ?_
      rw [r_isUp h0 hN hr (by omega), b2_, if_neg h6, if_neg (by decide), r_isSes hs, b2_, if_neg (by decide), if_neg c1, ea]
      exact tr_G (show 16 * r + s < 144 by omega) (by omega) (tr_some ⟨v18, h0⟩)
/-! reads that may throw -/
def SimR (a : Option (vC × Int32 × Int32)) (b : Option (vM × Int32)) (S' : Sx) : Prop := ∃ t u v, tr a (fun p => p.2.1 = t ∧ (t = 0 → p.2.2 = v) ∧ WC K0 p.1 S') ∧ tr b (fun p => (t = 0 → p.2 = v) ∧ p.1.1 0 = u ∧ WM p.1 S') ∧ (t = 0 ∧ u = 0 ∨ t = 1 ∧ u = 1 ∨ t = 2 ∧ u = 2 ∨ False)
def SimV (a : Option (vC × Int32 × Int32)) (b : Option (vM × Int32)) (S' : Sx) : Prop := ∃ t u v, tr a (fun p => p.2.1 = t ∧ (t = 0 → p.2.2 = v) ∧ WC K0 p.1 S') ∧ tr b (fun p => (t = 0 → p.2 = v) ∧ p.1.1 0 = u ∧ WM p.1 S') ∧ (t = 0 ∧ u = 0 ∨ False ∨ False ∨ t = 3 ∧ u = 1)
theorem WC_uZ {mm : Kp} {c : vC} {S : Sx} (h : WC mm c S) : WC mm (uZ c (cz c + 1)) S := by
  refine WC_n h ⟨⟨Nat.le_succ _, fun a ha => ⟨rfl, rfl, rfl, fun _ _ _ => rfl, rfl⟩, fun q a ha => q a ?_⟩, fun _ _ _ _ _ => rfl, fun _ _ _ _ => rfl, fun _ _ _ _ => rfl, fun _ _ => rfl, fun _ _ _ => rfl⟩
  have : cz c + 1 ≤ a := ha
  omega
theorem e_value {N : Nat} {c : vC} {S : Sx} {r i k : Nat} {mm : Kp} (h : WC mm c S) (hr : r < S.N) (h6 : (S.rp r).1 6 = 1) (h8 : (S.rp r).1 8 ≤ i) (h7 : i ≤ (S.rp r).1 7) (hi : i < 2 ^ 30) (hk : k < 16) {c' : vC} (e : cR c' 1005 r = cR c 1005 r) : F_X10_valueOf N c' r (nI k) (nI i) = some (c', (S.sta i).1 k) := by
  unfold F_X10_valueOf F_X10_rowOf
  rw [b2_, show fmI (nI i) (17 : Int32) = nI (i % 17) from fm_n (b := 17) (by omega) (by decide), show (16 : Int32) = nI 16 from rfl, nI_mul, nI_add, cGv (show _ < 272 by omega) (by omega), Option.bind_some, e, Nat.mul_comm]
  rw [((h.2.2.2.2 r hr).2 h6).2.2.2.2.2.2.2.2.2.2.2.2.1 i k h8 h7 hk]
def y_read (S : Sx) (s k : Nat) : Sx := S.ses s ((S.se s).m 50 ((S.se s).2.1 50 ||| ((1 : Int32) <<< (nI k &&& 31))))
theorem s_read {c : vC} {M : vM} {S : Sx} (hW : WC K0 c S) (hM : WM M S) (hB : Bs S) (h7 : ∀ r, r < S.N → (S.rp r).1 7 < 2 ^ 30 ∧ (S.rp r).1 8 ≤ (S.rp r).1 7) (hH : ∀ s, s < 16 → (S.se s).1 46 = 1 → (S.se s).1 48 < S.N ∧ (S.rp ((S.se s).1 48)).1 6 = 1 ∧ (S.se s).1 49 ≤ (S.rp ((S.se s).1 48)).1 7) (a1 a2 : Int32) : ∃ S', SimR (F_X11_readKey S.N c a1 a2) (F_X12_readKey M a1 a2) S' ∧ (S' = S ∨ ∃ s k, s < 16 ∧ k < 16 ∧ (S.se s).1 46 = 1 ∧ (S' = y_read S s k ∨ S' = y_end S s 4)) := by
  have hN := hB.n
  unfold F_X11_readKey F_X12_readKey
  rcases ars (n := 16) (by decide) a1 with hb | ⟨s, hs, rfl⟩
  · refine ⟨S, ⟨1, 1, 0, ?_, ?_, by decide⟩, Or.inl rfl⟩
    · rw [e_ses0 hb, b2_, oc_n]
      exact tr_some ⟨rfl, fun _ => rfl, WC_uZ hW⟩
    · rw [r_isSes0 hb, b2_, jn_, if_pos rfl]
      dsimp only
      rw [l1_, mW_s, if_neg (by decide)]
      exact tr_some ⟨fun e => absurd e (by decide), mW_s _ _ _, WM_0 hM⟩
  rcases ars (n := 16) (by decide) a2 with hb | ⟨k, hk, rfl⟩
  · refine ⟨S, ⟨1, 1, 0, ?_, ?_, by decide⟩, Or.inl rfl⟩
    · rw [e_ses hs, b2_, oc_s, gd_ hs, e_isKey0 hb, b2_, if_pos rfl]
      exact tr_some ⟨rfl, fun _ => rfl, WC_uZ hW⟩
    · rw [r_isSes hs, b2_, jn_, if_neg (by decide), r_isKey0 hb, b2_, if_pos rfl]
      dsimp only
      rw [l1_, mW_s, if_neg (by decide)]
      exact tr_some ⟨fun e => absurd e (by decide), mW_s _ _ _, WM_0 hM⟩
  have b46 := hB.i hs
  obtain ⟨s1, s2, s3, s4, s5, s6, s7, s8, s9⟩ := hW.2.2.2.1 s hs
  have h0 : WM (mW M 0 0) S := WM_0 hM
  have hx : WM (mW M 0 0) (S.ses s (S.se s)) := by rw [ses_id]; exact h0
  by_cases c1 : (S.se s).1 46 = 1
  · obtain ⟨t1, t2, t3⟩ := hH s hs c1
    obtain ⟨t4, t5⟩ := h7 _ t1
    have e903 : cI c 903 s = nI ((S.se s).1 48) := s3.trans (if_pos (Or.inl c1))
    have h00 : WM (mW (mW M 0 0) 0 0) S := WM_0 h0
    have hxx : WM (mW (mW M 0 0) 0 0) (S.ses s (S.se s)) := by rw [ses_id]; exact h00
    by_cases c2 : (S.rp ((S.se s).1 48)).1 8 ≤ (S.se s).1 49
    · by_cases c3 : (((S.se s).2.1 51 >>> (nI k &&& 31)) &&& (1 : Int32)) = (1 : Int32)
      · refine ⟨S, ⟨0, 0, (S.se s).2.2 k, ?_, ?_, by decide⟩, Or.inl rfl⟩
        · rw [e_ses hs, b2_, oc_s, gd_ hs, e_isKey hk, b2_, if_neg (by decide), s1, c1, if_pos (show nI 1 = (1 : Int32) from rfl), e903, e_up hW t1 (by omega) t2, b2_, jn_, oc_s, gd_ t1, WC_8 hW t1 t2, s4, if_pos (nI_le c2 (by omega))]
          unfold F_X9_read F_X11_isIn
          rw [s6, if_pos c3, zb1, b2_, if_neg (by decide), cGv (show k < 16 from hk) (by omega), Option.bind_some, b2_]
          exact tr_some ⟨rfl, fun _ => s9 k hk, hW⟩
        · rw [r_isSes hs, b2_, jn_, if_neg (by decide), r_isKey hk, b2_, if_neg (by decide)]
          dsimp only
          rw [l1_, mW_s, if_pos (by decide)]
          refine tr_Gn hx hs (by decide) ?_
          rw [c1, jn_, if_pos (show nI 1 = (1 : Int32) from rfl)]
          dsimp only
          rw [l1_, mW_s, if_pos (by decide)]
          refine tr_Gn hxx hs (by decide) ?_
          refine tr_Gn hxx hs (by decide) ?_
          refine tr_Gr' h00 (by omega) (by decide) ?_
          rw [if_pos (nI_le c2 (by omega))]
          refine tr_G51 hxx hs ?_
          rw [if_pos c3, show (16 : Int32) * nI s + nI k = nI (16 * s + k) by rw [show (16 : Int32) = nI 16 from rfl, nI_mul, nI_add]]
          refine tr_G54 hxx hs hk ?_
          exact tr_some ⟨fun _ => rfl, mW_s _ _ _, h00⟩
      · refine ⟨y_read S s k, ⟨0, 0, (S.sta ((S.se s).1 49)).1 k, ?_, ?_, by decide⟩, Or.inr ⟨s, k, hs, hk, c1, Or.inl rfl⟩⟩
        · rw [e_ses hs, b2_, oc_s, gd_ hs, e_isKey hk, b2_, if_neg (by decide), s1, c1, if_pos (show nI 1 = (1 : Int32) from rfl), e903, e_up hW t1 (by omega) t2, b2_, jn_, oc_s, gd_ t1, WC_8 hW t1 t2, s4, if_pos (nI_le c2 (by omega))]
          unfold F_X9_read F_X11_isIn
          rw [s6, if_neg c3, zb0, b2_, if_pos rfl, l1_, uI_f _ _ _ (by decide), s4, e_value hW t1 t2 c2 t3 (by omega) hk (by rfl), b2_, b2_]
          refine tr_some ⟨rfl, fun _ => rfl, WC_ses hW (zq_I (by decide)) (fun _ => ⟨?_, ?_, ?_, ?_, ?_, ?_, ?_, fun e => ?_, s9⟩)⟩
          · rw [uI_f _ _ _ (by decide)]; exact s1
          · rw [uI_f _ _ _ (by decide)]; exact s2
          · rw [uI_f _ _ _ (by decide)]; exact s3
          · rw [uI_f _ _ _ (by decide)]; exact s4
          · rw [uI_s, s5]; exact (va_up_self (S.se s).2.1 50 _).symm
          · rw [uI_f _ _ _ (by decide)]; rw [s6]; exact (va_up_ne (S.se s).2.1 ((S.se s).2.1 50 ||| ((1 : Int32) <<< (nI k &&& 31))) (show 51 ≠ 50 by decide)).symm
          · rw [uI_f _ _ _ (by decide)]; exact s7
          · have : (S.se s).1 46 = 2 := e
            omega
        · rw [r_isSes hs, b2_, jn_, if_neg (by decide), r_isKey hk, b2_, if_neg (by decide)]
          dsimp only
          rw [l1_, mW_s, if_pos (by decide)]
          refine tr_Gn hx hs (by decide) ?_
          rw [c1, jn_, if_pos (show nI 1 = (1 : Int32) from rfl)]
          dsimp only
          rw [l1_, mW_s, if_pos (by decide)]
          refine tr_Gn hxx hs (by decide) ?_
          refine tr_Gn hxx hs (by decide) ?_
          refine tr_Gr' h00 (by omega) (by decide) ?_
          rw [if_pos (nI_le c2 (by omega))]
          refine tr_G51 hxx hs ?_
          rw [if_neg c3]
          refine tr_G50 hxx hs ?_
          refine tr_bind (P := fun M' => WM M' (y_read S s k) ∧ M'.1 0 = 0) (tr_imp (P := fun M' => WM M' (y_read S s k) ∧ M'.1 = (mW (mW M 0 0) 0 0).1) ?_ (fun a ha => ⟨ha.1, by rw [ha.2]; exact mW_s _ _ _⟩)) fun M1 w1 => ?_
          · rw [mSe (show s < 16 from hs) (by omega)]
            refine tr_some ⟨?_, rfl⟩
            have := tr_Sm (K := fun M' => some M') (Q := fun M' => WM M' (y_read S s k)) (f := 50) (v := (S.se s).2.1 50 ||| ((1 : Int32) <<< (nI k &&& 31))) hxx hs (Or.inl rfl) (fun M' w => tr_some w)
            rw [mSe (show s < 16 from hs) (by omega)] at this
            obtain ⟨x, e, p⟩ := this
            cases e
            exact p
          refine tr_Gn w1.1 hs (by decide) ?_
          show tr (b2 (F_X12_at M1 (nI ((S.se s).1 48)) (nI ((S.se s).1 49))) _) _
          refine r_at (by omega) ?_
          rw [show (16 : Int32) * nI (40 * (S.se s).1 48 + (S.se s).1 49 % 40) + nI k = nI (640 * (S.se s).1 48 + (16 * ((S.se s).1 49 % 40) + k)) by rw [show (16 : Int32) = nI 16 from rfl, nI_mul, nI_add]; congr 1; omega]
          refine tr_G (show _ < 5760 by omega) (by omega) ?_
          exact tr_some ⟨fun _ => vw_st (S := y_read S s k) w1.1 (by omega) c2 t3 hk, w1.2, w1.1⟩
    · refine ⟨y_end S s 4, ⟨2, 2, 0, ?_, ?_, by decide⟩, Or.inr ⟨s, k, hs, hk, c1, Or.inr rfl⟩⟩
      · obtain ⟨e1, e2⟩ := c_endS (N := S.N) (s := s) (v := 4) hW (Or.inr rfl)
        rw [e_ses hs, b2_, oc_s, gd_ hs, e_isKey hk, b2_, if_neg (by decide), s1, c1, if_pos (show nI 1 = (1 : Int32) from rfl), e903, e_up hW t1 (by omega) t2, b2_, jn_, oc_s, gd_ t1, WC_8 hW t1 t2, s4, if_neg (nI_ge (by omega) (by omega)), show (4 : Int32) = nI 4 from rfl, e1, Option.bind_some]
        exact tr_some ⟨rfl, fun _ => rfl, WC_uZ e2⟩
      · rw [r_isSes hs, b2_, jn_, if_neg (by decide), r_isKey hk, b2_, if_neg (by decide)]
        dsimp only
        rw [l1_, mW_s, if_pos (by decide)]
        refine tr_Gn hx hs (by decide) ?_
        rw [c1, jn_, if_pos (show nI 1 = (1 : Int32) from rfl)]
        dsimp only
        rw [l1_, mW_s, if_pos (by decide)]
        refine tr_Gn hxx hs (by decide) ?_
        refine tr_Gn hxx hs (by decide) ?_
        refine tr_Gr' h00 (by omega) (by decide) ?_
        rw [if_neg (nI_ge (by omega) (by omega))]
        refine tr_Sn 4 hxx hs (by decide) fun M1 w1 => ?_
        rw [l1_]
        exact tr_some ⟨fun e => absurd e (by decide), mW_s _ _ _, WM_0 w1⟩
  · refine ⟨S, ⟨2, 2, 0, ?_, ?_, by decide⟩, Or.inl rfl⟩
    · rw [e_ses hs, b2_, oc_s, gd_ hs, e_isKey hk, b2_, if_neg (by decide), s1]
      exact tr_eq (b := 1) (by omega) (by decide) (fun q => absurd q c1) (fun q => tr_some ⟨rfl, fun _ => rfl, WC_uZ hW⟩)
    · rw [r_isSes hs, b2_, jn_, if_neg (by decide), r_isKey hk, b2_, if_neg (by decide)]
      dsimp only
      rw [l1_, mW_s, if_pos (by decide)]
      refine tr_Gn hx hs (by decide) ?_
      rw [jn_]
      refine tr_eq (b := 1) (by omega) (by decide) (fun q => absurd q c1) (fun q => ?_)
      dsimp only
      rw [l1_, mW_s, if_neg (by decide)]
      exact tr_some ⟨fun e => absurd e (by decide), mW_s _ _ _, WM_0 h0⟩
theorem s_value {c : vC} {M : vM} {S : Sx} (hW : WC K0 c S) (hM : WM M S) (hB : Bs S) (h7 : ∀ r, r < S.N → (S.rp r).1 7 < 2 ^ 30 ∧ (S.rp r).1 8 ≤ (S.rp r).1 7) (a1 a2 a3 : Int32) : SimV (F_X11_valueAt S.N c a1 a2 a3) (F_X12_valueAt M a1 a2 a3) S := by
  have hN := hB.n
  have bad : ∀ M', WM M' S → tr (lt1 (mW M' 0 (1 : Int32)) fun M22 => if (M22.1 0) ≤ 0 then (b2 (F_X12_at M22 (a1) (a3)) fun M23 v24 => (mG M23 14 ((((16 : Int32) * v24) + a2))).bind fun v25 => some (M23, v25)) else (some (M22, (0 : Int32)))) (fun p => ((3 : Int32) = 0 → p.2 = 0) ∧ p.1.1 0 = 1 ∧ WM p.1 S) := by
    intro M' w
    rw [l1_, mW_s, if_neg (by decide)]
    exact tr_some ⟨fun e => absurd e (by decide), mW_s _ _ _, WM_0 w⟩
  unfold F_X11_valueAt F_X12_valueAt
  rcases ars (n := S.N) (by omega) a1 with hb | ⟨r, hr, rfl⟩
  · refine ⟨3, 1, 0, ?_, ?_, by decide⟩
    · rw [e_upX hb, b2_, oc_n]
      exact tr_some ⟨rfl, fun _ => rfl, WC_uZ hW⟩
    · rw [r_isUp0 hM hb, b2_, jn_, if_pos rfl]
      exact bad _ hM
  by_cases h6 : (S.rp r).1 6 = 0
  · refine ⟨3, 1, 0, ?_, ?_, by decide⟩
    · rw [e_up0 hW hr (by omega) h6, b2_, oc_n]
      exact tr_some ⟨rfl, fun _ => rfl, WC_uZ hW⟩
    · rw [r_isUp hM hN hr (by omega), b2_, jn_, if_pos h6, if_pos rfl]
      exact bad _ hM
  have h6' := hB.u hr h6
  rcases ars (n := 16) (by decide) a2 with hb | ⟨k, hk, rfl⟩
  · refine ⟨3, 1, 0, ?_, ?_, by decide⟩
    · rw [e_up hW hr (by omega) h6', b2_, oc_s, gd_ hr, e_isKey0 hb, b2_, if_pos rfl]
      exact tr_some ⟨rfl, fun _ => rfl, WC_uZ hW⟩
    · rw [r_isUp hM hN hr (by omega), b2_, jn_, if_neg h6, if_neg (by decide), r_isKey0 hb, b2_, if_pos rfl]
      exact bad _ hM
  obtain ⟨b7, b8⟩ := h7 r hr
  by_cases c1 : a3 < nI ((S.rp r).1 8)
  · refine ⟨3, 1, 0, ?_, ?_, by decide⟩
    · rw [e_up hW hr (by omega) h6', b2_, oc_s, gd_ hr, e_isKey hk, b2_, if_neg (by decide), WC_8 hW hr h6', if_pos c1]
      exact tr_some ⟨rfl, fun _ => rfl, WC_uZ hW⟩
    · rw [r_isUp hM hN hr (by omega), b2_, jn_, if_neg h6, if_neg (by decide), r_isKey hk, b2_, if_neg (by decide), r_isUp hM hN hr (by omega), b2_, jn_, if_neg h6, if_neg (by decide)]
      refine tr_Gr' hM (by omega) (by decide) ?_
      rw [if_pos c1]
      exact bad _ hM
  by_cases c2 : a3 ≤ nI ((S.rp r).1 7)
  · have hn : ¬ a3 < 0 := fun q => c1 (Int32.lt_of_lt_of_le q (show nI 0 ≤ _ from nI_le (Nat.zero_le _) (by omega)))
    obtain ⟨i, hi, rfl⟩ := nI_of hn
    have g8 : (S.rp r).1 8 ≤ i := by
      by_cases q : (S.rp r).1 8 ≤ i
      · exact q
      · exact absurd (Int32.not_le.mp (nI_ge (by omega) (by omega))) c1
    have g7 : i ≤ (S.rp r).1 7 := by
      by_cases q : i ≤ (S.rp r).1 7
      · exact q
      · exact absurd c2 (nI_ge (by omega) (by omega))
    refine ⟨0, 0, (S.sta i).1 k, ?_, ?_, by decide⟩
    · rw [e_up hW hr (by omega) h6', b2_, oc_s, gd_ hr, e_isKey hk, b2_, if_neg (by decide), WC_8 hW hr h6', if_neg c1, WC_7 hW hr h6', if_pos c2, e_value hW hr h6' g8 g7 (by omega) hk rfl, b2_]
      exact tr_some ⟨rfl, fun _ => rfl, hW⟩
    · rw [r_isUp hM hN hr (by omega), b2_, jn_, if_neg h6, if_neg (by decide), r_isKey hk, b2_, if_neg (by decide), r_isUp hM hN hr (by omega), b2_, jn_, if_neg h6, if_neg (by decide)]
      refine tr_Gr' hM (by omega) (by decide) ?_
      rw [if_neg c1, r_isUp hM hN hr (by omega), b2_, if_neg h6, if_neg (by decide)]
      refine tr_Gr' hM (by omega) (by decide) ?_
      rw [if_pos c2]
      dsimp only
      rw [l1_, mW_s, if_pos (by decide)]
      refine r_at (by omega) ?_
      rw [show (16 : Int32) * nI (40 * r + i % 40) + nI k = nI (640 * r + (16 * (i % 40) + k)) by rw [show (16 : Int32) = nI 16 from rfl, nI_mul, nI_add]; congr 1; omega]
      refine tr_G (show _ < 5760 by omega) (by omega) ?_
      exact tr_some ⟨fun _ => vw_st (S := S) hM (by omega) g8 g7 hk, mW_s _ _ _, WM_0 hM⟩
  · refine ⟨3, 1, 0, ?_, ?_, by decide⟩
    · rw [e_up hW hr (by omega) h6', b2_, oc_s, gd_ hr, e_isKey hk, b2_, if_neg (by decide), WC_8 hW hr h6', if_neg c1, WC_7 hW hr h6', if_neg c2]
      exact tr_some ⟨rfl, fun _ => rfl, WC_uZ hW⟩
    · rw [r_isUp hM hN hr (by omega), b2_, jn_, if_neg h6, if_neg (by decide), r_isKey hk, b2_, if_neg (by decide), r_isUp hM hN hr (by omega), b2_, jn_, if_neg h6, if_neg (by decide)]
      refine tr_Gr' hM (by omega) (by decide) ?_
      rw [if_neg c1, r_isUp hM hN hr (by omega), b2_, if_neg h6, if_neg (by decide)]
      refine tr_Gr' hM (by omega) (by decide) ?_
      rw [if_neg c2]
      exact bad _ hM
