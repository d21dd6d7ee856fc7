/-! ===== what frames show ===== -/
theorem iv_m {K : Nat} {S : Sx} {i : Nat} (h : IvS K S) (hi : i < S.fl.length) : MgB K S (S.fl.getD i mgD) ∧ S.ll ≤ K := by
  obtain ⟨g, hg⟩ := h
  exact ⟨(hg.2.2.2.2.2.2.2.2.1 _ (getD_memM hi)).1, hg.2.2.1⟩
theorem ten {j : Nat} (h : j < 10) : j = 0 ∨ j = 1 ∨ j = 2 ∨ j = 3 ∨ j = 4 ∨ j = 5 ∨ j = 6 ∨ j = 7 ∨ j = 8 ∨ j = 9 := by omega
theorem s_message {K : Nat} {c : vC} {M : vM} {S : Sx} (hW : WC K0 c S) (hM : WM M S) (hI : IvS K S) (hK : K < 600) (a1 a2 : Int32) : Sim (F_X11_messageOf S.N c a1 a2) (F_X12_messageOf M a1 a2) S := by
  obtain ⟨hB, hfl, _⟩ := iv_bs hI hK
  have h0 : WM (mW M 0 0) S := WM_0 hM
  have e53 : (mW M 0 0).1 53 = nI S.fl.length := h0.2.1
  unfold F_X11_messageOf F_X12_messageOf
  rcases ars (n := S.fl.length) (by omega) a1 with hb | ⟨i, hi, rfl⟩
  · refine ⟨-1, ?_, ?_⟩
    · rw [e_look0 hW hb, b2_, oc_n]
      exact tr_some ⟨rfl, hW⟩
    · refine tr_l1 ?_
      by_cases c1 : a1 < 0
      · rw [if_pos c1]; exact tr_some ⟨rfl, h0⟩
      · rw [if_neg c1, e53, if_pos (hb.resolve_left c1)]
        exact tr_some ⟨rfl, h0⟩
  obtain ⟨_, _, _, _, _, p, t, hp⟩ := hW.2.2.1
  have hpi := hp.1 i (by omega)
  have hF := hp.2.2.2.2.2.2 i hi
  have hR := h0.2.2.2.2.2 i hi
  obtain ⟨hmb, hll⟩ := iv_m hI hi
  have hrf := r_frame hB.1 h0 hfl hi rfl hK hll hmb
  have hcf := c_frame (N := S.N) hB.1 hW hF hK hll hmb
  generalize S.fl.getD i mgD = m at hF hR hmb hrf hcf
  obtain ⟨x1, x2, x3, x4, x5, x6, x7⟩ := hF
  obtain ⟨y1, y2, y3⟩ := hR
  have hsp := hmb.2.2.2.2.2.2.2.2.1.1
  have e8 : ∀ f, (8 : Int32) * nI i + nI f = nI (8 * i + f) := fun f => by rw [show (8 : Int32) = nI 8 from rfl, nI_mul, nI_add]
  have d00 : (8 : Int32) * nI i + (7 : Int32) = nI (8 * i + 7) := e8 7
  have d05 : (8 : Int32) * nI i + (5 : Int32) = nI (8 * i + 5) := e8 5
  rw [e_look hW hfl hi hp, b2_, oc_s, gd_ hpi.2.1]
  have refB : ∀ {v : Int32} {x : vM → Option (vM × Int32)}, tr (x (mW M 0 0)) (fun p => p.2 = v ∧ WM p.1 S) → tr (lt1 (mW M 0 0) fun M1 => if nI i < 0 then (some (M1, (-1 : Int32))) else (if (M1.1 53) ≤ nI i then (some (M1, (-1 : Int32))) else x M1)) (fun p => p.2 = v ∧ WM p.1 S) := fun {v x} hx => by
    refine tr_l1 ?_
    rw [if_neg (nIn (by omega)), e53, if_neg (nI_ge hi (by omega))]
    exact hx
  rcases ars (n := 10) (by decide) a2 with hb | ⟨j, hj, rfl⟩
  · have ne : ∀ j, j < 10 → ¬ a2 = nI j := fun j hj e => by
      rw [e] at hb
      rcases hb with hb | hb
      · exact nIn (by omega) hb
      · exact nI_ge hj (by decide) hb
    refine ⟨-1, ?_, ?_⟩
    · rw [if_neg (show ¬ a2 = (8 : Int32) from ne 8 (by decide))]
      unfold F_X1_tell
      rw [if_neg (show ¬ a2 = (0 : Int32) from ne 0 (by decide)), if_neg (show ¬ a2 = (1 : Int32) from ne 1 (by decide)), if_neg (show ¬ a2 = (2 : Int32) from ne 2 (by decide)), if_neg (show ¬ a2 = (3 : Int32) from ne 3 (by decide)), if_neg (show ¬ a2 = (4 : Int32) from ne 4 (by decide)), if_neg (show ¬ a2 = (5 : Int32) from ne 5 (by decide)), if_neg (show ¬ a2 = (6 : Int32) from ne 6 (by decide)), if_neg (show ¬ a2 = (7 : Int32) from ne 7 (by decide)), if_neg (show ¬ a2 = (8 : Int32) from ne 8 (by decide)), if_neg (show ¬ a2 = (9 : Int32) from ne 9 (by decide)), b2_]
      exact tr_some ⟨rfl, hW⟩
    · refine refB ?_
      by_cases c1 : a2 < 0
      · rw [if_pos c1]; exact tr_some ⟨rfl, h0⟩
      · rw [if_neg c1, if_neg (show ¬ a2 ≤ (9 : Int32) from fun q => absurd (Int32.le_trans (hb.resolve_left c1) q) (by decide))]
        exact tr_some ⟨rfl, h0⟩
  have plain : ∀ f, f < 7 → f ≠ 5 → tr (if nI f < (0 : Int32) then (some (mW M 0 0, (-1 : Int32))) else (if nI f ≤ (9 : Int32) then (if nI f = (9 : Int32) then ((mG (mW M 0 0) 41 (nI i)).bind fun v13 => some (mW M 0 0, v13)) else (if nI f = (7 : Int32) then ((mG (mW M 0 0) 39 ((((8 : Int32) * nI i) + (7 : Int32)))).bind fun v10 => if v10 ≤ 0 then (some (mW M 0 0, (0 : Int32))) else (some (mW M 0 0, (1 : Int32)))) else (if nI f = (8 : Int32) then ((F_X12_layFrame (mW M 0 0) (nI i)).bind fun M8 => some (M8, (M8.1 45))) else (if nI f = (5 : Int32) then ((mG (mW M 0 0) 39 ((((8 : Int32) * nI i) + (5 : Int32)))).bind fun v3 => if v3 ≤ 0 then (some (mW M 0 0, (-1 : Int32))) else ((mG (mW M 0 0) 39 ((((8 : Int32) * nI i) + (5 : Int32)))).bind fun v4 => (mG (mW M 0 0) 0 (v4)).bind fun v5 => some (mW M 0 0, v5))) else ((mG (mW M 0 0) 39 ((((8 : Int32) * nI i) + nI f))).bind fun v2 => some (mW M 0 0, v2)))))) else (some (mW M 0 0, (-1 : Int32))))) (fun p => p.2 = nI (m f) ∧ WM p.1 S) := fun f hf h5 => by
    rw [if_neg (nIn (by omega)), if_pos (show nI f ≤ (9 : Int32) from nI_le (b := 9) (by omega) (by decide)), if_neg (show ¬ nI f = (9 : Int32) from fun q => by have := nI_inj (b := 9) (by omega) (by decide) q; omega), if_neg (show ¬ nI f = (7 : Int32) from fun q => by have := nI_inj (b := 7) (by omega) (by decide) q; omega), if_neg (show ¬ nI f = (8 : Int32) from fun q => by have := nI_inj (b := 8) (by omega) (by decide) q; omega), if_neg (show ¬ nI f = (5 : Int32) from fun q => by have := nI_inj (b := 5) (by omega) (by decide) q; omega), e8]
    refine tr_G (show 8 * i + f < 1608 by omega) (by omega) ?_
    exact tr_some ⟨y1 f (by omega), h0⟩
  rcases ten hj with rfl | rfl | rfl | rfl | rfl | rfl | rfl | rfl | rfl | rfl
  · refine ⟨nI (m 0), ?_, refB (plain 0 (by decide) (by decide))⟩
    unfold F_X1_tell
    rw [if_neg (by decide), if_pos (by decide), b2_]
    exact tr_some ⟨x1 0 (by decide), hW⟩
  · refine ⟨nI (m 1), ?_, refB (plain 1 (by decide) (by decide))⟩
    unfold F_X1_tell
    rw [if_neg (by decide), if_neg (by decide), if_pos (by decide), b2_]
    exact tr_some ⟨x1 1 (by decide), hW⟩
  · refine ⟨nI (m 2), ?_, refB (plain 2 (by decide) (by decide))⟩
    unfold F_X1_tell
    rw [if_neg (by decide), if_neg (by decide), if_neg (by decide), if_pos (by decide), b2_]
    exact tr_some ⟨x1 2 (by decide), hW⟩
  · refine ⟨nI (m 3), ?_, refB (plain 3 (by decide) (by decide))⟩
    unfold F_X1_tell
    rw [if_neg (by decide), if_neg (by decide), if_neg (by decide), if_neg (by decide), if_pos (by decide), b2_]
    exact tr_some ⟨x1 3 (by decide), hW⟩
  · refine ⟨nI (m 4), ?_, refB (plain 4 (by decide) (by decide))⟩
    unfold F_X1_tell
    rw [if_neg (by decide), if_neg (by decide), if_neg (by decide), if_neg (by decide), if_neg (by decide), if_pos (by decide), b2_]
    exact tr_some ⟨x1 4 (by decide), hW⟩
  · by_cases c5 : m 5 = 0
    · refine ⟨-1, ?_, refB ?_⟩
      · unfold F_X1_tell
        rw [if_neg (by decide), if_neg (by decide), if_neg (by decide), if_neg (by decide), if_neg (by decide), if_neg (by decide), if_pos (by decide), l1_, x2.1 c5, oc_n, b2_]
        exact tr_some ⟨rfl, hW⟩
      · rw [if_neg (by decide), if_pos (by decide), if_neg (by decide), if_neg (by decide), if_neg (by decide), if_pos (by decide), d05]
        refine tr_G (show 8 * i + 5 < 1608 by omega) (by omega) ?_
        rw [y1 5 (by decide), c5, if_pos (show nI 0 ≤ (0 : Int32) from Int32.le_refl _)]
        exact tr_some ⟨rfl, h0⟩
    · obtain ⟨a, ea, ra⟩ := x2.2 (by omega)
      have m7 := hmb.2.2.2.2.2.2.1
      have hnr := hB.1.nr
      refine ⟨nI ((S.tb (m 5)).1 0), ?_, refB ?_⟩
      · unfold F_X1_tell
        rw [if_neg (by decide), if_neg (by decide), if_neg (by decide), if_neg (by decide), if_neg (by decide), if_neg (by decide), if_pos (by decide), l1_, ea, oc_s, l1_, Option.bind_some, gd_ ra.2.1, b2_]
        exact tr_some ⟨ra.2.2.1, hW⟩
      · rw [if_neg (by decide), if_pos (by decide), if_neg (by decide), if_neg (by decide), if_neg (by decide), if_pos (by decide), d05]
        refine tr_G (show 8 * i + 5 < 1608 by omega) (by omega) ?_
        rw [y1 5 (by decide), if_neg (show ¬ nI (m 5) ≤ (0 : Int32) from nI_ge (a := 0) (by omega) (by omega))]
        refine tr_G (show 8 * i + 5 < 1608 by omega) (by omega) ?_
        rw [y1 5 (by decide)]
        refine tr_G (show m 5 < 4200 by omega) (by omega) ?_
        exact tr_some ⟨(h0.2.2.1 (m 5) (by omega) m7).1 0 (by decide), h0⟩
  · refine ⟨nI (m 6), ?_, refB (plain 6 (by decide) (by decide))⟩
    unfold F_X1_tell
    rw [if_neg (by decide), if_neg (by decide), if_neg (by decide), if_neg (by decide), if_neg (by decide), if_neg (by decide), if_neg (by decide), if_pos (by decide), b2_]
    exact tr_some ⟨x3, hW⟩
  · by_cases c7 : m 7 = 0
    · refine ⟨0, ?_, refB ?_⟩
      · unfold F_X1_tell F_X1_isSpoilt
        rw [if_neg (by decide), if_neg (by decide), if_neg (by decide), if_neg (by decide), if_neg (by decide), if_neg (by decide), if_neg (by decide), if_neg (by decide), if_pos (by decide), x6 c7, if_pos rfl, zb0, b2_, if_pos rfl, b2_]
        exact tr_some ⟨rfl, hW⟩
      · rw [if_neg (by decide), if_pos (by decide), if_neg (by decide), if_pos (by decide), d00]
        refine tr_G (show 8 * i + 7 < 1608 by omega) (by omega) ?_
        rw [y1 7 (by decide), c7, if_pos (show nI 0 ≤ (0 : Int32) from Int32.le_refl _)]
        exact tr_some ⟨rfl, h0⟩
    · refine ⟨1, ?_, refB ?_⟩
      · unfold F_X1_tell F_X1_isSpoilt
        rw [if_neg (by decide), if_neg (by decide), if_neg (by decide), if_neg (by decide), if_neg (by decide), if_neg (by decide), if_neg (by decide), if_neg (by decide), if_pos (by decide), (x7 (by omega)).1, if_neg (show ¬ nI ((m 7 - 1) / 8) = (-1 : Int32) from fun q => by
          have hh := nIn (n := (m 7 - 1) / 8) (by omega)
          rw [q] at hh
          exact absurd (by decide : (-1 : Int32) < 0) hh), zb1, b2_, if_neg (by decide), b2_]
        exact tr_some ⟨rfl, hW⟩
      · rw [if_neg (by decide), if_pos (by decide), if_neg (by decide), if_pos (by decide), d00]
        refine tr_G (show 8 * i + 7 < 1608 by omega) (by omega) ?_
        rw [y1 7 (by decide), if_neg (show ¬ nI (m 7) ≤ (0 : Int32) from nI_ge (a := 0) (by omega) (by omega))]
        exact tr_some ⟨rfl, h0⟩
  · refine ⟨nI (y_frm S m).length, ?_, refB ?_⟩
    · rw [if_pos (by decide)]
      refine tr_bind hcf fun c' ec' => ?_
      subst ec'
      exact tr_some ⟨sB_1 (uI c 2 0 0) 0 (y_frm S m), WC_B (WC_2 hW (by decide))⟩
    · rw [if_neg (by decide), if_pos (by decide), if_neg (by decide), if_neg (by decide), if_pos (by decide)]
      refine tr_bind hrf fun M' q => ?_
      exact tr_some ⟨q.2.1, q.1⟩
  · refine ⟨if m 0 = 8 then nI (m 8) else -1, ?_, refB ?_⟩
    · unfold F_X1_tell
      rw [if_neg (by decide), if_neg (by decide), if_neg (by decide), if_neg (by decide), if_neg (by decide), if_neg (by decide), if_neg (by decide), if_neg (by decide), if_neg (by decide), if_neg (by decide), if_pos (by decide), b2_]
      refine tr_some ⟨?_, hW⟩
      show cI c 108 (p i) = _
      by_cases c8 : m 0 = 8
      · rw [if_pos c8]; exact (x5 c8).1
      · rw [if_neg c8]; exact (x4 c8).2
    · rw [if_neg (by decide), if_pos (by decide), if_pos (by decide)]
      refine tr_G (show i < 201 by omega) (by omega) ?_
      exact tr_some ⟨y2, h0⟩
