/-! ===== what replicas, journals and slots show ===== -/
theorem e_12 {mm : Kp} {c : vC} {S : Sx} {r f g : Nat} (h : WC mm c S) (hr : r < S.N) (h6 : (S.rp r).1 6 = 1) (hf : sci f = some g) : cI c f r = nI ((S.rp r).1 g) := ((h.2.2.2.2 r hr).2 h6).1 f g hf
theorem s_replica {c : vC} {M : vM} {S : Sx} (hW : WC K0 c S) (hM : WM M S) (hB : Bs S) (hU : ∀ r, r < S.N → (S.rp r).1 6 = 1 → OkR S (S.rp r) ∧ ((S.rp r).1 19 = 2 → (S.rp r).1 22 = 0 → (S.rp r).1 21 = 0)) (a1 a2 : Int32) : Sim (F_X11_replicaOf S.N c a1 a2) (F_X12_replicaOf M a1 a2) S := by
  have hN := hB.n
  have h0 : WM (mW M 0 0) S := WM_0 hM
  unfold F_X11_replicaOf F_X12_replicaOf
  rcases ars (n := S.N) (by omega) a1 with hb | ⟨r, hr, rfl⟩
  · refine ⟨-1, ?_, ?_⟩
    · rw [e_rep0 hb, b2_, oc_n]
      exact tr_some ⟨rfl, hW⟩
    · refine tr_l1 ?_
      rw [r_isRep0 h0 hb, b2_, if_pos rfl]
      exact tr_some ⟨rfl, h0⟩
  have e6 := (hW.2.2.2.2 r hr).1.2.1 711 6 rfl
  have b6 := hB.2.1 r hr
  rcases ars (n := 15) (by decide) a2 with hb | ⟨k, hk, rfl⟩
  · have n0 : ∀ k, k < 15 → ¬ a2 = nI k := fun k hk q => by
      subst q
      rcases hb with hb | hb
      · exact nIn (by omega) hb
      · exact nI_ge (by omega) (by omega) hb
    refine ⟨-1, ?_, ?_⟩
    · rw [e_rep hr (by omega), b2_, oc_s, gd_ hr, if_neg (show ¬ a2 = (0 : Int32) from n0 0 (by decide)), e6]
      refine tr_eq (b := 0) (by omega) (by decide) (fun _ => tr_some ⟨rfl, hW⟩) (fun q => ?_)
      unfold F_X7_tell
      rw [if_neg (show ¬ a2 = (1 : Int32) from n0 1 (by decide)), if_neg (show ¬ a2 = (2 : Int32) from n0 2 (by decide)), if_neg (show ¬ a2 = (3 : Int32) from n0 3 (by decide)), if_neg (show ¬ a2 = (4 : Int32) from n0 4 (by decide)), if_neg (show ¬ a2 = (5 : Int32) from n0 5 (by decide)), if_neg (show ¬ a2 = (6 : Int32) from n0 6 (by decide)), if_neg (show ¬ a2 = (7 : Int32) from n0 7 (by decide)), if_neg (show ¬ a2 = (8 : Int32) from n0 8 (by decide)), if_neg (show ¬ a2 = (9 : Int32) from n0 9 (by decide)), if_neg (show ¬ a2 = (10 : Int32) from n0 10 (by decide)), if_neg (show ¬ a2 = (11 : Int32) from n0 11 (by decide)), if_neg (show ¬ a2 = (12 : Int32) from n0 12 (by decide)), if_neg (show ¬ a2 = (13 : Int32) from n0 13 (by decide)), if_neg (show ¬ a2 = (14 : Int32) from n0 14 (by decide)), b2_]
      exact tr_some ⟨rfl, hW⟩
    · refine tr_l1 ?_
      rw [r_isRep h0 hN hr, b2_, if_neg (by decide)]
      by_cases q : a2 < 0
      · rw [if_pos q]
        exact tr_some ⟨rfl, h0⟩
      · have q2 : nI 15 ≤ a2 := hb.resolve_left q
        rw [if_neg q, if_pos (show (14 : Int32) < a2 from Int32.lt_of_lt_of_le (show (14 : Int32) < nI 15 by decide) q2)]
        exact tr_some ⟨rfl, h0⟩
  have hp : ∀ (K : vM → Option (vM × Int32)) (Q : vM × Int32 → Prop), tr (K (mW M 0 0)) Q → 0 < k → (S.rp r).1 6 = 1 → tr (jn K fun k50_4 => if nI k ≤ 0 then (k50_4 (mW M 0 0)) else b2 (F_X12_isReplica (mW M 0 0) (nI r)) fun M5 v6 => if v6 = 0 then ((mG M5 6 ((0 : Int32))).bind fun v7 => if v7 = 0 then (some (M5, (-1 : Int32))) else ((k50_4 (M5)))) else ((mG M5 6 (nI r)).bind fun v9 => if v9 = 0 then (some (M5, (-1 : Int32))) else ((k50_4 (M5))))) Q := by
    intro K Q g k0 h6
    rw [jn_, if_neg (show ¬ nI k ≤ (0 : Int32) from nI_ge  k0 (by omega)), r_isRep h0 hN hr, b2_, if_neg (by decide)]
    refine tr_Gr' h0 (by omega) (by decide) ?_
    rw [h6, if_neg (by decide)]; exact g
  have hR : F_X12_isReplica (mW M 0 0) (nI r) = some (mW M 0 0, 1) := r_isRep h0 hN hr
  have n14 : ¬ (14 : Int32) < nI k := Int32.not_lt.mpr (show nI k ≤ nI 14 from nI_le (by omega) (by decide))
  by_cases k0 : k = 0
  · subst k0
    refine ⟨if (S.rp r).1 6 = 0 then 0 else 1, ?_, ?_⟩
    · rw [e_rep hr (by omega), b2_, oc_s, gd_ hr, if_pos (show nI 0 = (0 : Int32) from rfl), e6]
      refine tr_eq (b := 0) (by omega) (by decide) (fun q => tr_some ⟨by rw [if_pos q], hW⟩) (fun q => tr_some ⟨by rw [if_neg q], hW⟩)
    · refine tr_l1 ?_
      rw [hR, b2_, if_neg (by decide), if_neg (nIn (by decide)), if_neg n14, jn_, if_pos (by decide)]
      dsimp only
      rw [if_pos (show nI 0 = (0 : Int32) from rfl)]
      refine tr_Gr' h0 (by omega) (by decide) ?_
      refine tr_eq (b := 0) (by omega) (by decide) (fun q => tr_some ⟨by rw [if_pos q], h0⟩) (fun q => tr_some ⟨by rw [if_neg q], h0⟩)
  by_cases h6 : (S.rp r).1 6 = 0
  · refine ⟨-1, ?_, ?_⟩
    · rw [e_rep hr (by omega), b2_, oc_s, gd_ hr, if_neg (show ¬ nI k = (0 : Int32) from fun q => k0 (nI_inj (b := 0) (by omega) (by decide) q)), e6, h6, if_pos (show nI 0 = (0 : Int32) from rfl)]
      exact tr_some ⟨rfl, hW⟩
    · refine tr_l1 ?_
      rw [hR, b2_, if_neg (by decide), if_neg (nIn (by omega)), if_neg n14, jn_, if_neg (show ¬ nI k ≤ (0 : Int32) from nI_ge (a := 0) (b := k) (Nat.pos_of_ne_zero k0) (by omega)), hR, b2_, if_neg (by decide)]
      refine tr_Gr' h0 (by omega) (by decide) ?_
      rw [h6, if_pos (show nI 0 = (0 : Int32) from rfl)]
      exact tr_some ⟨rfl, h0⟩
  have h6' := hB.u hr h6
  obtain ⟨hO, h21⟩ := hU r hr h6'
  have hA := (hW.2.2.2.2 r hr).2 h6'
  obtain ⟨x1, x2, x3, x4, x5, x6, x7⟩ := hA
  have nz : ∀ j, j < 15 → j ≠ k → ¬ nI k = nI j := fun j hj e q => e (nI_inj (by omega) (by omega) q).symm
  have cl : ∀ v, tr (F_X7_tell S.N c r (nI k)) (fun p => p.2 = v ∧ WC K0 p.1 S) → tr (b2 (F_X11_replicaNumber S.N c (nI r)) fun M1 v2 => oc (v2) (some (M1, (-1 : Int32))) (fun o3 => gd (o3 < S.N) <| if nI k = 0 then (if (cI M1 711 (o3)) = 0 then (some (M1, (0 : Int32))) else (some (M1, (1 : Int32)))) else (if (cI M1 711 (o3)) = 0 then (some (M1, (-1 : Int32))) else (b2 (F_X7_tell S.N M1 (o3) (nI k)) fun M5 v6 => some (M5, v6))))) (fun p => p.2 = v ∧ WC K0 p.1 S) := by
    intro v g
    rw [e_rep hr (by omega), b2_, oc_s, gd_ hr, if_neg (show ¬ nI k = (0 : Int32) from nz 0 (by decide) (fun q => k0 q.symm)), e6, h6', if_neg (by decide)]
    exact tr_b2 g fun c' v hv => tr_some hv
  have rf : ∀ (K : vM → Option (vM × Int32)) v, tr (K (mW M 0 0)) (fun p => p.2 = v ∧ WM p.1 S) → tr (lt1 (mW M 0 ((0 : Int32))) fun M1 => b2 (F_X12_isReplica M1 (nI r)) fun M2 v3 => if v3 = 0 then (some (M2, (-1 : Int32))) else (if nI k < 0 then (some (M2, (-1 : Int32))) else (if (14 : Int32) < nI k then (some (M2, (-1 : Int32))) else (jn K fun k50_4 => if nI k ≤ 0 then (k50_4 (M2)) else b2 (F_X12_isReplica M2 (nI r)) fun M5 v6 => if v6 = 0 then ((mG M5 6 ((0 : Int32))).bind fun v7 => if v7 = 0 then (some (M5, (-1 : Int32))) else ((k50_4 (M5)))) else ((mG M5 6 (nI r)).bind fun v9 => if v9 = 0 then (some (M5, (-1 : Int32))) else ((k50_4 (M5)))))))) (fun p => p.2 = v ∧ WM p.1 S) := by
    intro K v g
    refine tr_l1 ?_
    rw [hR, b2_, if_neg (by decide), if_neg (nIn (by omega)), if_neg n14]
    exact hp K _ g (by omega) h6'
  have b12 : (S.rp r).1 12 < S.1 4 := hO.1 12
  have b4 : S.1 4 ≤ 4200 := hB.1.2.2.2.2.2.2.2.2.2.1
  have hr9 : r < 9 := by omega
  rcases (show k = 1 ∨ k = 2 ∨ k = 3 ∨ k = 4 ∨ k = 5 ∨ k = 6 ∨ k = 7 ∨ k = 8 ∨ k = 9 ∨ k = 10 ∨ k = 11 ∨ k = 12 ∨ k = 13 ∨ k = 14 by omega) with rfl | rfl | rfl | rfl | rfl | rfl | rfl | rfl | rfl | rfl | rfl | rfl | rfl | rfl
  · -- 1
    refine ⟨nI ((S.rp r).1 7), cl _ ?_, rf _ _ ?_⟩
    · unfold F_X7_tell
      rw [if_pos (show nI 1 = (1 : Int32) from rfl)]
      exact tr_some ⟨x7.1, hW⟩
    · rw [if_neg (show ¬ nI 1 = (0 : Int32) by decide), if_pos (show nI 1 = (1 : Int32) from rfl)]
      exact tr_Gr' h0 hr9 (by decide) (tr_some ⟨rfl, h0⟩)
  · -- 2
    refine ⟨nI ((S.rp r).1 8), cl _ ?_, rf _ _ ?_⟩
    · unfold F_X7_tell
      rw [if_neg (show ¬ nI 2 = (1 : Int32) by decide), if_pos (show nI 2 = (2 : Int32) from rfl)]
      exact tr_some ⟨x7.2.1, hW⟩
    · rw [if_neg (show ¬ nI 2 = (0 : Int32) by decide), if_neg (show ¬ nI 2 = (1 : Int32) by decide), if_pos (show nI 2 = (2 : Int32) from rfl)]
      exact tr_Gr' h0 hr9 (by decide) (tr_some ⟨rfl, h0⟩)
  · -- 3
    have e9 := hO.2.2.2.2.2.2.2.1
    have e7 := hO.2.2.2.2.1
    refine ⟨nI ((S.rp r).1 9), cl _ ?_, rf _ _ ?_⟩
    · unfold F_X7_tell F_X10_base
      rw [if_neg (show ¬ nI 3 = (1 : Int32) by decide), if_neg (show ¬ nI 3 = (2 : Int32) by decide), if_pos (show nI 3 = (3 : Int32) from rfl), b2_, x7.1, x7.2.2.1, nI_sub (by omega), show (S.rp r).1 7 - ((S.rp r).1 7 - (S.rp r).1 9) = (S.rp r).1 9 by omega]
      exact tr_some ⟨rfl, hW⟩
    · rw [if_neg (show ¬ nI 3 = (0 : Int32) by decide), if_neg (show ¬ nI 3 = (1 : Int32) by decide), if_neg (show ¬ nI 3 = (2 : Int32) by decide), if_pos (show nI 3 = (3 : Int32) from rfl)]
      exact tr_Gr' h0 hr9 (by decide) (tr_some ⟨rfl, h0⟩)
  · -- 4
    refine ⟨nI ((S.rp r).1 10), cl _ ?_, rf _ _ ?_⟩
    · unfold F_X7_tell
      rw [if_neg (show ¬ nI 4 = (1 : Int32) by decide), if_neg (show ¬ nI 4 = (2 : Int32) by decide), if_neg (show ¬ nI 4 = (3 : Int32) by decide), if_pos (show nI 4 = (4 : Int32) from rfl)]
      exact tr_some ⟨x1 712 10 rfl, hW⟩
    · rw [if_neg (show ¬ nI 4 = (0 : Int32) by decide), if_neg (show ¬ nI 4 = (1 : Int32) by decide), if_neg (show ¬ nI 4 = (2 : Int32) by decide), if_neg (show ¬ nI 4 = (3 : Int32) by decide), if_pos (show nI 4 = (4 : Int32) from rfl)]
      exact tr_Gr' h0 hr9 (by decide) (tr_some ⟨rfl, h0⟩)
  · -- 5
    refine ⟨if (S.rp r).1 12 = 0 then -1 else nI ((S.rp r).1 11), cl _ ?_, rf _ _ ?_⟩
    · unfold F_X7_tell
      rw [if_neg (show ¬ nI 5 = (1 : Int32) by decide), if_neg (show ¬ nI 5 = (2 : Int32) by decide), if_neg (show ¬ nI 5 = (3 : Int32) by decide), if_neg (show ¬ nI 5 = (4 : Int32) by decide), if_pos (show nI 5 = (5 : Int32) from rfl), l1_]
      by_cases q : (S.rp r).1 12 = 0
      · rw [(x2 713 12 rfl).1 q, oc_n]
        exact tr_some ⟨by rw [if_pos q], hW⟩
      · obtain ⟨a, ea, _⟩ := (x2 713 12 rfl).2 (by omega)
        rw [ea, oc_s]
        exact tr_some ⟨by rw [if_neg q]; exact x3 (by omega), hW⟩
    · rw [if_neg (show ¬ nI 5 = (0 : Int32) by decide), if_neg (show ¬ nI 5 = (1 : Int32) by decide), if_neg (show ¬ nI 5 = (2 : Int32) by decide), if_neg (show ¬ nI 5 = (3 : Int32) by decide), if_neg (show ¬ nI 5 = (4 : Int32) by decide), if_pos (show nI 5 = (5 : Int32) from rfl)]
      refine tr_Gr' h0 hr9 (by decide) ?_
      refine tr_le (b := 0) (by omega) (by decide) (fun q => tr_some ⟨by rw [if_pos (by omega)], h0⟩) (fun q => ?_)
      rw [if_neg (by omega)]
      exact tr_Gr' h0 hr9 (by decide) (tr_some ⟨rfl, h0⟩)
  · -- 6
    refine ⟨nI ((S.rp r).1 19), cl _ ?_, rf _ _ ?_⟩
    · unfold F_X7_tell
      rw [if_neg (show ¬ nI 6 = (1 : Int32) by decide), if_neg (show ¬ nI 6 = (2 : Int32) by decide), if_neg (show ¬ nI 6 = (3 : Int32) by decide), if_neg (show ¬ nI 6 = (4 : Int32) by decide), if_neg (show ¬ nI 6 = (5 : Int32) by decide), if_pos (show nI 6 = (6 : Int32) from rfl)]
      exact tr_some ⟨x1 400 19 rfl, hW⟩
    · rw [if_neg (show ¬ nI 6 = (0 : Int32) by decide), if_neg (show ¬ nI 6 = (1 : Int32) by decide), if_neg (show ¬ nI 6 = (2 : Int32) by decide), if_neg (show ¬ nI 6 = (3 : Int32) by decide), if_neg (show ¬ nI 6 = (4 : Int32) by decide), if_neg (show ¬ nI 6 = (5 : Int32) by decide), if_pos (show nI 6 = (6 : Int32) from rfl)]
      exact tr_Gr' h0 hr9 (by decide) (tr_some ⟨rfl, h0⟩)
  · -- 7
    refine ⟨nI ((S.rp r).1 20), cl _ ?_, rf _ _ ?_⟩
    · unfold F_X7_tell
      rw [if_neg (show ¬ nI 7 = (1 : Int32) by decide), if_neg (show ¬ nI 7 = (2 : Int32) by decide), if_neg (show ¬ nI 7 = (3 : Int32) by decide), if_neg (show ¬ nI 7 = (4 : Int32) by decide), if_neg (show ¬ nI 7 = (5 : Int32) by decide), if_neg (show ¬ nI 7 = (6 : Int32) by decide), if_pos (show nI 7 = (7 : Int32) from rfl)]
      exact tr_some ⟨x1 401 20 rfl, hW⟩
    · rw [if_neg (show ¬ nI 7 = (0 : Int32) by decide), if_neg (show ¬ nI 7 = (1 : Int32) by decide), if_neg (show ¬ nI 7 = (2 : Int32) by decide), if_neg (show ¬ nI 7 = (3 : Int32) by decide), if_neg (show ¬ nI 7 = (4 : Int32) by decide), if_neg (show ¬ nI 7 = (5 : Int32) by decide), if_neg (show ¬ nI 7 = (6 : Int32) by decide), if_pos (show nI 7 = (7 : Int32) from rfl)]
      exact tr_Gr' h0 hr9 (by decide) (tr_some ⟨rfl, h0⟩)
  · -- 8
    have b19 := okv hO 19 (by decide)
    have b22 : (S.rp r).1 22 < S.1 4 := hO.1 22
    refine ⟨nI ((S.rp r).1 21), cl _ ?_, rf _ _ ?_⟩
    · unfold F_X7_tell
      rw [if_neg (show ¬ nI 8 = (1 : Int32) by decide), if_neg (show ¬ nI 8 = (2 : Int32) by decide), if_neg (show ¬ nI 8 = (3 : Int32) by decide), if_neg (show ¬ nI 8 = (4 : Int32) by decide), if_neg (show ¬ nI 8 = (5 : Int32) by decide), if_neg (show ¬ nI 8 = (6 : Int32) by decide), if_neg (show ¬ nI 8 = (7 : Int32) by decide), if_pos (show nI 8 = (8 : Int32) from rfl)]
      exact tr_some ⟨x1 402 21 rfl, hW⟩
    · rw [if_neg (show ¬ nI 8 = (0 : Int32) by decide), if_neg (show ¬ nI 8 = (1 : Int32) by decide), if_neg (show ¬ nI 8 = (2 : Int32) by decide), if_neg (show ¬ nI 8 = (3 : Int32) by decide), if_neg (show ¬ nI 8 = (4 : Int32) by decide), if_neg (show ¬ nI 8 = (5 : Int32) by decide), if_neg (show ¬ nI 8 = (6 : Int32) by decide), if_neg (show ¬ nI 8 = (7 : Int32) by decide), if_pos (show nI 8 = (8 : Int32) from rfl)]
      refine tr_Gr' h0 hr9 (by decide) ?_
      refine tr_eq (b := 2) (by omega) (by decide) (fun q => ?_) (fun q => tr_Gr' h0 hr9 (by decide) (tr_some ⟨rfl, h0⟩))
      refine tr_Gr' h0 hr9 (by decide) ?_
      refine tr_eq (b := 0) (by omega) (by decide) (fun q2 => tr_some ⟨by rw [h21 q q2]; rfl, h0⟩) (fun q2 => tr_Gr' h0 hr9 (by decide) (tr_some ⟨rfl, h0⟩))
  · -- 9
    refine ⟨nI ((S.rp r).1 25), cl _ ?_, rf _ _ ?_⟩
    · unfold F_X7_tell
      rw [if_neg (show ¬ nI 9 = (1 : Int32) by decide), if_neg (show ¬ nI 9 = (2 : Int32) by decide), if_neg (show ¬ nI 9 = (3 : Int32) by decide), if_neg (show ¬ nI 9 = (4 : Int32) by decide), if_neg (show ¬ nI 9 = (5 : Int32) by decide), if_neg (show ¬ nI 9 = (6 : Int32) by decide), if_neg (show ¬ nI 9 = (7 : Int32) by decide), if_neg (show ¬ nI 9 = (8 : Int32) by decide), if_pos (show nI 9 = (9 : Int32) from rfl)]
      exact tr_some ⟨x1 715 25 rfl, hW⟩
    · rw [if_neg (show ¬ nI 9 = (0 : Int32) by decide), if_neg (show ¬ nI 9 = (1 : Int32) by decide), if_neg (show ¬ nI 9 = (2 : Int32) by decide), if_neg (show ¬ nI 9 = (3 : Int32) by decide), if_neg (show ¬ nI 9 = (4 : Int32) by decide), if_neg (show ¬ nI 9 = (5 : Int32) by decide), if_neg (show ¬ nI 9 = (6 : Int32) by decide), if_neg (show ¬ nI 9 = (7 : Int32) by decide), if_neg (show ¬ nI 9 = (8 : Int32) by decide), if_pos (show nI 9 = (9 : Int32) from rfl)]
      exact tr_Gr' h0 hr9 (by decide) (tr_some ⟨rfl, h0⟩)
  · -- 10
    refine ⟨nI (S.rp r).2.1.length, cl _ ?_, rf _ _ ?_⟩
    · unfold F_X7_tell
      rw [if_neg (show ¬ nI 10 = (1 : Int32) by decide), if_neg (show ¬ nI 10 = (2 : Int32) by decide), if_neg (show ¬ nI 10 = (3 : Int32) by decide), if_neg (show ¬ nI 10 = (4 : Int32) by decide), if_neg (show ¬ nI 10 = (5 : Int32) by decide), if_neg (show ¬ nI 10 = (6 : Int32) by decide), if_neg (show ¬ nI 10 = (7 : Int32) by decide), if_neg (show ¬ nI 10 = (8 : Int32) by decide), if_neg (show ¬ nI 10 = (9 : Int32) by decide), if_pos (show nI 10 = (10 : Int32) from rfl)]
      exact tr_some ⟨x5.1, hW⟩
    · rw [if_neg (show ¬ nI 10 = (0 : Int32) by decide), if_neg (show ¬ nI 10 = (1 : Int32) by decide), if_neg (show ¬ nI 10 = (2 : Int32) by decide), if_neg (show ¬ nI 10 = (3 : Int32) by decide), if_neg (show ¬ nI 10 = (4 : Int32) by decide), if_neg (show ¬ nI 10 = (5 : Int32) by decide), if_neg (show ¬ nI 10 = (6 : Int32) by decide), if_neg (show ¬ nI 10 = (7 : Int32) by decide), if_neg (show ¬ nI 10 = (8 : Int32) by decide), if_neg (show ¬ nI 10 = (9 : Int32) by decide), if_pos (show nI 10 = (10 : Int32) from rfl)]
      refine tr_G (show r < 9 from hr9) (by omega) (tr_some ⟨?_, h0⟩)
      have := (h0.2.2.2.1 r hr9).2.2.2.2.2.2.2.1
      rw [vw_1 (by rfl)] at this
      exact this
  · -- 11
    have b22 : (S.rp r).1 22 < S.1 4 := hO.1 22
    refine ⟨if (S.rp r).1 22 = 0 then -1 else nI ((S.tb ((S.rp r).1 22)).1 0), cl _ ?_, rf _ _ ?_⟩
    · unfold F_X7_tell
      rw [if_neg (show ¬ nI 11 = (1 : Int32) by decide), if_neg (show ¬ nI 11 = (2 : Int32) by decide), if_neg (show ¬ nI 11 = (3 : Int32) by decide), if_neg (show ¬ nI 11 = (4 : Int32) by decide), if_neg (show ¬ nI 11 = (5 : Int32) by decide), if_neg (show ¬ nI 11 = (6 : Int32) by decide), if_neg (show ¬ nI 11 = (7 : Int32) by decide), if_neg (show ¬ nI 11 = (8 : Int32) by decide), if_neg (show ¬ nI 11 = (9 : Int32) by decide), if_neg (show ¬ nI 11 = (10 : Int32) by decide), if_pos (show nI 11 = (11 : Int32) from rfl), l1_]
      by_cases q : (S.rp r).1 22 = 0
      · rw [(x2 403 22 rfl).1 q, oc_n]
        exact tr_some ⟨by rw [if_pos q], hW⟩
      · obtain ⟨a, ea, ha⟩ := (x2 403 22 rfl).2 (by omega)
        rw [ea, oc_s, l1_, Option.bind_some, gd_ ha.2.1]
        exact tr_some ⟨by rw [if_neg q]; exact ha.2.2.1, hW⟩
    · rw [if_neg (show ¬ nI 11 = (0 : Int32) by decide), if_neg (show ¬ nI 11 = (1 : Int32) by decide), if_neg (show ¬ nI 11 = (2 : Int32) by decide), if_neg (show ¬ nI 11 = (3 : Int32) by decide), if_neg (show ¬ nI 11 = (4 : Int32) by decide), if_neg (show ¬ nI 11 = (5 : Int32) by decide), if_neg (show ¬ nI 11 = (6 : Int32) by decide), if_neg (show ¬ nI 11 = (7 : Int32) by decide), if_neg (show ¬ nI 11 = (8 : Int32) by decide), if_neg (show ¬ nI 11 = (9 : Int32) by decide), if_neg (show ¬ nI 11 = (10 : Int32) by decide), if_pos (show nI 11 = (11 : Int32) from rfl)]
      refine tr_Gr' h0 hr9 (by decide) ?_
      refine tr_le (b := 0) (by omega) (by decide) (fun q => tr_some ⟨by rw [if_pos (by omega)], h0⟩) (fun q => ?_)
      rw [if_neg (by omega)]
      refine tr_Gr' h0 hr9 (by decide) ?_
      exact tr_G (show _ < 4200 by omega) (by omega) (tr_some ⟨(h0.2.2.1 _ (by omega) (by omega)).1 0 (by decide), h0⟩)
  · -- 12
    refine ⟨nI ((S.rp r).1 13), cl _ ?_, rf _ _ ?_⟩
    · unfold F_X7_tell
      rw [if_neg (show ¬ nI 12 = (1 : Int32) by decide), if_neg (show ¬ nI 12 = (2 : Int32) by decide), if_neg (show ¬ nI 12 = (3 : Int32) by decide), if_neg (show ¬ nI 12 = (4 : Int32) by decide), if_neg (show ¬ nI 12 = (5 : Int32) by decide), if_neg (show ¬ nI 12 = (6 : Int32) by decide), if_neg (show ¬ nI 12 = (7 : Int32) by decide), if_neg (show ¬ nI 12 = (8 : Int32) by decide), if_neg (show ¬ nI 12 = (9 : Int32) by decide), if_neg (show ¬ nI 12 = (10 : Int32) by decide), if_neg (show ¬ nI 12 = (11 : Int32) by decide), if_pos (show nI 12 = (12 : Int32) from rfl)]
      exact tr_some ⟨x1 716 13 rfl, hW⟩
    · rw [if_neg (show ¬ nI 12 = (0 : Int32) by decide), if_neg (show ¬ nI 12 = (1 : Int32) by decide), if_neg (show ¬ nI 12 = (2 : Int32) by decide), if_neg (show ¬ nI 12 = (3 : Int32) by decide), if_neg (show ¬ nI 12 = (4 : Int32) by decide), if_neg (show ¬ nI 12 = (5 : Int32) by decide), if_neg (show ¬ nI 12 = (6 : Int32) by decide), if_neg (show ¬ nI 12 = (7 : Int32) by decide), if_neg (show ¬ nI 12 = (8 : Int32) by decide), if_neg (show ¬ nI 12 = (9 : Int32) by decide), if_neg (show ¬ nI 12 = (10 : Int32) by decide), if_neg (show ¬ nI 12 = (11 : Int32) by decide), if_pos (show nI 12 = (12 : Int32) from rfl)]
      exact tr_Gr' h0 hr9 (by decide) (tr_some ⟨rfl, h0⟩)
  · -- 13
    have b43 := okv hO 43 (by decide)
    refine ⟨if (S.rp r).1 43 = 0 then -1 else nI ((S.rp r).1 43), cl _ ?_, rf _ _ ?_⟩
    · unfold F_X7_tell
      rw [if_neg (show ¬ nI 13 = (1 : Int32) by decide), if_neg (show ¬ nI 13 = (2 : Int32) by decide), if_neg (show ¬ nI 13 = (3 : Int32) by decide), if_neg (show ¬ nI 13 = (4 : Int32) by decide), if_neg (show ¬ nI 13 = (5 : Int32) by decide), if_neg (show ¬ nI 13 = (6 : Int32) by decide), if_neg (show ¬ nI 13 = (7 : Int32) by decide), if_neg (show ¬ nI 13 = (8 : Int32) by decide), if_neg (show ¬ nI 13 = (9 : Int32) by decide), if_neg (show ¬ nI 13 = (10 : Int32) by decide), if_neg (show ¬ nI 13 = (11 : Int32) by decide), if_neg (show ¬ nI 13 = (12 : Int32) by decide), if_pos (show nI 13 = (13 : Int32) from rfl)]
      exact tr_some ⟨x6.1, hW⟩
    · rw [if_neg (show ¬ nI 13 = (0 : Int32) by decide), if_neg (show ¬ nI 13 = (1 : Int32) by decide), if_neg (show ¬ nI 13 = (2 : Int32) by decide), if_neg (show ¬ nI 13 = (3 : Int32) by decide), if_neg (show ¬ nI 13 = (4 : Int32) by decide), if_neg (show ¬ nI 13 = (5 : Int32) by decide), if_neg (show ¬ nI 13 = (6 : Int32) by decide), if_neg (show ¬ nI 13 = (7 : Int32) by decide), if_neg (show ¬ nI 13 = (8 : Int32) by decide), if_neg (show ¬ nI 13 = (9 : Int32) by decide), if_neg (show ¬ nI 13 = (10 : Int32) by decide), if_neg (show ¬ nI 13 = (11 : Int32) by decide), if_neg (show ¬ nI 13 = (12 : Int32) by decide), if_pos (show nI 13 = (13 : Int32) from rfl)]
      refine tr_Gr' h0 hr9 (by decide) ?_
      refine tr_le (b := 0) (by omega) (by decide) (fun q => tr_some ⟨by rw [if_pos (by omega)], h0⟩) (fun q => ?_)
      rw [if_neg (by omega)]
      exact tr_Gr' h0 hr9 (by decide) (tr_some ⟨rfl, h0⟩)
  · -- 14
    refine ⟨nI ((S.rp r).1 44), cl _ ?_, rf _ _ ?_⟩
    · unfold F_X7_tell
      rw [if_neg (show ¬ nI 14 = (1 : Int32) by decide), if_neg (show ¬ nI 14 = (2 : Int32) by decide), if_neg (show ¬ nI 14 = (3 : Int32) by decide), if_neg (show ¬ nI 14 = (4 : Int32) by decide), if_neg (show ¬ nI 14 = (5 : Int32) by decide), if_neg (show ¬ nI 14 = (6 : Int32) by decide), if_neg (show ¬ nI 14 = (7 : Int32) by decide), if_neg (show ¬ nI 14 = (8 : Int32) by decide), if_neg (show ¬ nI 14 = (9 : Int32) by decide), if_neg (show ¬ nI 14 = (10 : Int32) by decide), if_neg (show ¬ nI 14 = (11 : Int32) by decide), if_neg (show ¬ nI 14 = (12 : Int32) by decide), if_neg (show ¬ nI 14 = (13 : Int32) by decide), if_pos (show nI 14 = (14 : Int32) from rfl)]
      exact tr_some ⟨x6.2.1, hW⟩
    · rw [if_neg (show ¬ nI 14 = (0 : Int32) by decide), if_neg (show ¬ nI 14 = (1 : Int32) by decide), if_neg (show ¬ nI 14 = (2 : Int32) by decide), if_neg (show ¬ nI 14 = (3 : Int32) by decide), if_neg (show ¬ nI 14 = (4 : Int32) by decide), if_neg (show ¬ nI 14 = (5 : Int32) by decide), if_neg (show ¬ nI 14 = (6 : Int32) by decide), if_neg (show ¬ nI 14 = (7 : Int32) by decide), if_neg (show ¬ nI 14 = (8 : Int32) by decide), if_neg (show ¬ nI 14 = (9 : Int32) by decide), if_neg (show ¬ nI 14 = (10 : Int32) by decide), if_neg (show ¬ nI 14 = (11 : Int32) by decide), if_neg (show ¬ nI 14 = (12 : Int32) by decide), if_neg (show ¬ nI 14 = (13 : Int32) by decide)]
      exact tr_Gr' h0 hr9 (by decide) (tr_some ⟨rfl, h0⟩)
theorem s_journal {c : vC} {M : vM} {S : Sx} (hW : WC K0 c S) (hM : WM M S) (hB : Bs S) (a1 a2 : Int32) : Sim (F_X11_journalOf S.N c a1 a2) (F_X12_journalOf M a1 a2) S := by
  have hN := hB.n
  have h0 : WM (mW M 0 0) S := WM_0 hM
  unfold F_X11_journalOf F_X12_journalOf
  rcases ars (n := S.N) (by omega) a1 with hb | ⟨r, hr, rfl⟩
  · refine ⟨-1, ?_, ?_⟩
    · rw [e_rep0 hb, b2_, oc_n]
      exact tr_some ⟨rfl, hW⟩
    · refine tr_l1 ?_
      rw [r_isRep0 h0 hb, b2_, if_pos rfl]
      exact tr_some ⟨rfl, h0⟩
  have hr9 : r < 9 := by omega
  have hR : F_X12_isReplica (mW M 0 0) (nI r) = some (mW M 0 0, 1) := r_isRep h0 hN hr
  obtain ⟨_, hsc, _⟩ := (hW.2.2.2.2 r hr).1
  have e6 := hsc 711 6 rfl
  have b6 := hB.2.1 r hr
  by_cases c0 : (S.rp r).1 6 = 0 ∧ ¬ (4 : Int32) ≤ a2
  · refine ⟨-1, ?_, ?_⟩
    · rw [e_rep hr (by omega), b2_, oc_s, gd_ hr, e6, c0.1, if_pos (show nI 0 = (0 : Int32) from rfl), if_neg c0.2]
      exact tr_some ⟨rfl, hW⟩
    · refine tr_l1 ?_
      rw [hR, b2_, if_neg (by decide), jn_, if_neg c0.2, hR, b2_, if_neg (by decide)]
      refine tr_Gr' h0 hr9 (by decide) ?_
      rw [c0.1, if_pos (show nI 0 = (0 : Int32) from rfl)]
      exact tr_some ⟨rfl, h0⟩
  have cl : ∀ v, tr (F_X2_tell S.N c r a2) (fun p => p.2 = v ∧ WC K0 p.1 S) → tr (b2 (F_X11_replicaNumber S.N c (nI r)) fun M1 v2 => oc (v2) (some (M1, (-1 : Int32))) (fun o3 => gd (o3 < S.N) <| if (cI M1 711 (o3)) = 0 then (if (4 : Int32) ≤ a2 then (b2 (F_X2_tell S.N M1 (o3) (a2)) fun M7 v8 => some (M7, v8)) else (some (M1, (-1 : Int32)))) else (b2 (F_X2_tell S.N M1 (o3) (a2)) fun M5 v6 => some (M5, v6)))) (fun p => p.2 = v ∧ WC K0 p.1 S) := by
    intro v g
    rw [e_rep hr (by omega), b2_, oc_s, gd_ hr, e6]
    refine tr_eq (b := 0) (by omega) (by decide) (fun q => ?_) (fun q => tr_b2 g fun c' v hv => tr_some hv)
    rw [if_pos (Classical.byContradiction fun q2 => c0 ⟨q, q2⟩)]
    exact tr_b2 g fun c' v hv => tr_some hv
  have rf : ∀ (K : vM → Option (vM × Int32)) v, tr (K (mW M 0 0)) (fun p => p.2 = v ∧ WM p.1 S) → tr (lt1 (mW M 0 ((0 : Int32))) fun M1 => b2 (F_X12_isReplica M1 (nI r)) fun M2 v3 => if v3 = 0 then (some (M2, (-1 : Int32))) else (jn K (fun k41_4 => if (4 : Int32) ≤ a2 then ((k41_4 (M2))) else (b2 (F_X12_isReplica M2 (nI r)) fun M5 v6 => if v6 = 0 then ((mG M5 6 ((0 : Int32))).bind fun v7 => if v7 = 0 then (some (M5, (-1 : Int32))) else ((k41_4 (M5)))) else ((mG M5 6 (nI r)).bind fun v9 => if v9 = 0 then (some (M5, (-1 : Int32))) else ((k41_4 (M5)))))))) (fun p => p.2 = v ∧ WM p.1 S) := by
    intro K v g
    refine tr_l1 ?_
    rw [hR, b2_, if_neg (by decide), jn_]
    by_cases q : (4 : Int32) ≤ a2
    · rw [if_pos q]; exact g
    · rw [if_neg q, hR, b2_, if_neg (by decide)]
      refine tr_Gr' h0 hr9 (by decide) ?_
      refine tr_eq (b := 0) (by omega) (by decide) (fun q2 => absurd ⟨q2, q⟩ c0) (fun q2 => g)
  have up : ¬ (4 : Int32) ≤ a2 → (S.rp r).1 6 = 1 := fun q => hB.u hr (fun q2 => c0 ⟨q2, q⟩)
  unfold F_X2_tell at cl ⊢
  by_cases c1 : a2 = 0
  · obtain ⟨x1, x2, x3, x4, x5, x6, x7⟩ := (hW.2.2.2.2 r hr).2 (up (by rw [c1]; decide))
    refine ⟨nI (S.rp r).2.2.1.length, cl _ ?_, rf _ _ ?_⟩
    · rw [if_pos c1]
      exact tr_some ⟨x4, hW⟩
    · rw [if_pos c1]
      refine tr_G (show r < 9 from hr9) (by omega) (tr_some ⟨?_, h0⟩)
      have := (h0.2.2.2.1 r hr9).2.2.2.2.2.2.2.2.2.1
      rw [vw_1 (by rfl)] at this
      exact this
  by_cases c2 : a2 = 1
  · obtain ⟨x1, x2, x3, x4, x5, x6, x7⟩ := (hW.2.2.2.2 r hr).2 (up (by rw [c2]; decide))
    refine ⟨nI ((S.rp r).1 31), cl _ ?_, rf _ _ ?_⟩
    · rw [if_neg c1, if_pos c2]
      exact tr_some ⟨x1 207 31 rfl, hW⟩
    · rw [if_neg c1, if_pos c2]
      exact tr_Gr' h0 hr9 (by decide) (tr_some ⟨rfl, h0⟩)
  by_cases c3 : a2 = 2
  · obtain ⟨x1, x2, x3, x4, x5, x6, x7⟩ := (hW.2.2.2.2 r hr).2 (up (by rw [c3]; decide))
    refine ⟨nI ((S.rp r).1 32), cl _ ?_, rf _ _ ?_⟩
    · rw [if_neg c1, if_neg c2, if_pos c3]
      exact tr_some ⟨x1 208 32 rfl, hW⟩
    · rw [if_neg c1, if_neg c2, if_pos c3]
      exact tr_Gr' h0 hr9 (by decide) (tr_some ⟨rfl, h0⟩)
  by_cases c4 : a2 = 3
  · obtain ⟨x1, x2, x3, x4, x5, x6, x7⟩ := (hW.2.2.2.2 r hr).2 (up (by rw [c4]; decide))
    refine ⟨nI ((S.rp r).1 33), cl _ ?_, rf _ _ ?_⟩
    · rw [if_neg c1, if_neg c2, if_neg c3, if_pos c4]
      exact tr_some ⟨x1 209 33 rfl, hW⟩
    · rw [if_neg c1, if_neg c2, if_neg c3, if_pos c4]
      exact tr_Gr' h0 hr9 (by decide) (tr_some ⟨rfl, h0⟩)
  by_cases c5 : a2 = 4
  · refine ⟨nI ((S.rp r).1 34), cl _ ?_, rf _ _ ?_⟩
    · rw [if_neg c1, if_neg c2, if_neg c3, if_neg c4, if_pos c5]
      exact tr_some ⟨hsc 204 34 rfl, hW⟩
    · rw [if_neg c1, if_neg c2, if_neg c3, if_neg c4, if_pos c5]
      exact tr_Gr' h0 hr9 (by decide) (tr_some ⟨rfl, h0⟩)
  by_cases c6 : a2 = 5
  · refine ⟨nI ((S.rp r).1 35), cl _ ?_, rf _ _ ?_⟩
    · rw [if_neg c1, if_neg c2, if_neg c3, if_neg c4, if_neg c5, if_pos c6]
      exact tr_some ⟨hsc 205 35 rfl, hW⟩
    · rw [if_neg c1, if_neg c2, if_neg c3, if_neg c4, if_neg c5, if_pos c6]
      exact tr_Gr' h0 hr9 (by decide) (tr_some ⟨rfl, h0⟩)
  · refine ⟨-1, cl _ ?_, rf _ _ ?_⟩
    · rw [if_neg c1, if_neg c2, if_neg c3, if_neg c4, if_neg c5, if_neg c6]
      exact tr_some ⟨rfl, hW⟩
    · rw [if_neg c1, if_neg c2, if_neg c3, if_neg c4, if_neg c5, if_neg c6]
      exact tr_some ⟨rfl, h0⟩
theorem s_slot {c : vC} {M : vM} {S : Sx} (hW : WC K0 c S) (hM : WM M S) (hB : Bs S) (hU : ∀ r, r < S.N → (S.rp r).1 6 = 1 → OkR S (S.rp r)) (hL : ∀ r i, r < S.N → (S.rp r).1 9 < i → i ≤ (S.rp r).1 7 → 0 < S.lg i ∧ S.lg i < S.1 4) (a1 a2 a3 : Int32) : Sim (F_X11_slotOf S.N c a1 a2 a3) (F_X12_slotOf M a1 a2 a3) S := by
  have hN := hB.n
  have h0 : WM (mW M 0 0) S := WM_0 hM
  unfold F_X11_slotOf F_X12_slotOf
  rcases ars (n := S.N) (by omega) a1 with hb | ⟨r, hr, rfl⟩
  · refine ⟨-1, ?_, ?_⟩
    · rw [e_upX hb, b2_, jn_, oc_n]
      dsimp only
      rw [oc_n]
      exact tr_some ⟨rfl, hW⟩
    · refine tr_l1 ?_
      rw [r_isUp0 h0 hb, b2_, if_pos rfl]
      exact tr_some ⟨rfl, h0⟩
  by_cases h6 : (S.rp r).1 6 = 0
  · refine ⟨-1, ?_, ?_⟩
    · rw [e_up0 hW hr (by omega) h6, b2_, jn_, oc_n]
      dsimp only
      rw [oc_n]
      exact tr_some ⟨rfl, hW⟩
    · refine tr_l1 ?_
      rw [r_isUp h0 hN hr (by omega), b2_, if_pos h6, if_pos rfl]
      exact tr_some ⟨rfl, h0⟩
  have h6' := hB.u hr h6
  have hr9 : r < 9 := by omega
  have hO := hU r hr h6'
  have b7 := hO.2.2.2.2.1
  have b9 := hO.2.2.2.2.2.2.2.1
  have b4 : S.1 4 ≤ 4200 := hB.1.2.2.2.2.2.2.2.2.2.1
  have hW' : WC K0 c (S.set r (S.rp r)) := by rw [set_id]; exact hW
  have hu : F_X12_isUp (mW M 0 0) (nI r) = some (mW M 0 0, 1) := by rw [r_isUp h0 hN hr (by omega), if_neg h6]
  have st := WC_st hW' hr h6'
  by_cases c1 : a2 ≤ nI ((S.rp r).1 9)
  · refine ⟨-1, ?_, ?_⟩
    · rw [e_up hW hr (by omega) h6', b2_, jn_, oc_s, gd_ hr]
      unfold F_X10_requestOf F_X10_base
      rw [jn_]
      by_cases q : cI c 1007 r < a2
      · rw [if_pos q]
        dsimp only
        rw [if_pos rfl, b2_]
        rw [oc_n]
        exact tr_some ⟨rfl, hW⟩
      · rw [if_neg q, b2_, st.1, st.2.2.1, nI_sub (by omega), show (S.rp r).1 7 - ((S.rp r).1 7 - (S.rp r).1 9) = (S.rp r).1 9 by omega, if_pos c1]
        dsimp only
        rw [if_pos rfl, b2_]
        rw [oc_n]
        exact tr_some ⟨rfl, hW⟩
    · refine tr_l1 ?_
      rw [hu, b2_, if_neg (by decide), hu, b2_, jn_, if_neg (by decide)]
      refine tr_Gr' h0 hr9 (by decide) ?_
      rw [if_pos c1]
      exact tr_some ⟨rfl, h0⟩
  have hn : ¬ a2 < 0 := fun q => c1 (Int32.le_of_lt (Int32.lt_of_lt_of_le q (show nI 0 ≤ _ from nI_le (Nat.zero_le _) (by omega))))
  obtain ⟨i, hi, rfl⟩ := nI_of hn
  have g9 : (S.rp r).1 9 < i := by
    by_cases q : (S.rp r).1 9 < i
    · exact q
    · exact absurd (nI_le (by omega) (by omega)) c1
  by_cases c2 : (S.rp r).1 7 < i
  · refine ⟨-1, ?_, ?_⟩
    · rw [e_up hW hr (by omega) h6', b2_, jn_, oc_s, gd_ hr, c_reqOf hW' hr h6' (by omega) b9 hi, b2_, if_neg (by omega)]
      dsimp only
      rw [oc_n]
      exact tr_some ⟨rfl, hW⟩
    · refine tr_l1 ?_
      rw [hu, b2_, if_neg (by decide), hu, b2_, jn_, if_neg (by decide)]
      refine tr_Gr' h0 hr9 (by decide) ?_
      rw [if_neg c1, hu, b2_, jn_, if_neg (by decide)]
      refine tr_Gr' h0 hr9 (by decide) ?_
      rw [if_neg (nI_ge c2 (by omega))]
      exact tr_some ⟨rfl, h0⟩
  obtain ⟨l1, l2⟩ := hL r i hr g9 (by omega)
  obtain ⟨a, ea, ha⟩ := (st.2.2.2.2.2.2.2 i g9 (by omega)).2 l1
  have rt := h0.2.2.1 (S.lg i) l1 l2
  have e16 : (mW M 0 0).2 16 (40 * r + i % 40) = nI (S.lg i) := by
    have := (h0.2.2.2.1 r hr9).2.2.2.1 i g9 (by omega)
    rw [vw_a (show i % 40 < 40 by omega)] at this
    exact this
  have cl : ∀ v, tr (F_X8_tell S.N c a a3) (fun p => p.2 = v ∧ WC K0 p.1 S) → tr (b2 (F_X11_upNumber S.N c (nI r)) fun M1 v2 => jn (fun (M8 : vC) (s0_25 : (Option Nat)) => oc (s0_25) (some (M8, (-1 : Int32))) (fun o9 => gd (cK M8 (o9) = 9) <| b2 (F_X8_tell S.N M8 (o9) (a3)) fun M11 v12 => some (M11, v12))) (fun k25_3 => oc (v2) ((k25_3 (M1) (none))) (fun o4 => gd (o4 < S.N) <| b2 (F_X10_requestOf S.N M1 (o4) (nI i)) fun M6 v7 => (k25_3 (M6) ((v7)))))) (fun p => p.2 = v ∧ WC K0 p.1 S) := by
    intro v g
    rw [e_up hW hr (by omega) h6', b2_, jn_, oc_s, gd_ hr, c_reqOf hW' hr h6' (by omega) b9 hi, b2_, if_pos ⟨g9, by omega⟩, ea]
    dsimp only
    rw [oc_s, gd_ ha.2.1]
    exact tr_b2 g fun c' v hv => tr_some hv
  have rf : ∀ v, tr (if a3 = 0 then ((mG (mW M 0 0) 0 (nI (S.lg i))).bind fun v25 => some ((mW M 0 0), v25)) else (if a3 = (1 : Int32) then ((mG (mW M 0 0) 1 (nI (S.lg i))).bind fun v23 => some ((mW M 0 0), v23)) else (if a3 = (2 : Int32) then ((mG (mW M 0 0) 2 (nI (S.lg i))).bind fun v21 => some ((mW M 0 0), v21)) else (if a3 = (3 : Int32) then ((mG (mW M 0 0) 3 (nI (S.lg i))).bind fun v19 => some ((mW M 0 0), v19)) else (if a3 = (4 : Int32) then ((mG (mW M 0 0) 4 (nI (S.lg i))).bind fun v17 => some ((mW M 0 0), v17)) else (some ((mW M 0 0), (-1 : Int32)))))))) (fun p => p.2 = v ∧ WM p.1 S) → tr (F_X12_slotOf M (nI r) (nI i) a3) (fun p => p.2 = v ∧ WM p.1 S) := by
    intro v g
    unfold F_X12_slotOf
    refine tr_l1 ?_
    rw [hu, b2_, if_neg (by decide), hu, b2_, jn_, if_neg (by decide)]
    refine tr_Gr' h0 hr9 (by decide) ?_
    rw [if_neg c1, hu, b2_, jn_, if_neg (by decide)]
    refine tr_Gr' h0 hr9 (by decide) ?_
    rw [if_pos (nI_le (by omega) (by omega))]
    refine r_at (by omega) ?_
    refine tr_G (show _ < 360 by omega) (by omega) ?_
    rw [e16]; exact g
  unfold F_X12_slotOf at rf
  unfold F_X8_tell at cl
  by_cases d0 : a3 = 0
  · refine ⟨nI ((S.tb (S.lg i)).1 0), cl _ ?_, rf _ ?_⟩
    · rw [if_pos d0, gd_ ha.2.1]
      exact tr_some ⟨ha.2.2.1, hW⟩
    · rw [if_pos d0]
      exact tr_G (show _ < 4200 by omega) (by omega) (tr_some ⟨rt.1 0 (by decide), h0⟩)
  by_cases d1 : a3 = 1
  · refine ⟨nI ((S.tb (S.lg i)).1 1), cl _ ?_, rf _ ?_⟩
    · rw [if_neg d0, if_pos d1, gd_ ha.2.1]
      exact tr_some ⟨ha.2.2.2.1, hW⟩
    · rw [if_neg d0, if_pos d1]
      exact tr_G (show _ < 4200 by omega) (by omega) (tr_some ⟨rt.1 1 (by decide), h0⟩)
  by_cases d2 : a3 = 2
  · refine ⟨nI ((S.tb (S.lg i)).1 2), cl _ ?_, rf _ ?_⟩
    · rw [if_neg d0, if_neg d1, if_pos d2, gd_ ha.2.1]
      exact tr_some ⟨ha.2.2.2.2.1, hW⟩
    · rw [if_neg d0, if_neg d1, if_pos d2]
      exact tr_G (show _ < 4200 by omega) (by omega) (tr_some ⟨rt.1 2 (by decide), h0⟩)
  by_cases d3 : a3 = 3
  · refine ⟨(S.tb (S.lg i)).2.1 3, cl _ ?_, rf _ ?_⟩
    · rw [if_neg d0, if_neg d1, if_neg d2, if_pos d3, gd_ ha.2.1]
      exact tr_some ⟨ha.2.2.2.2.2.1, hW⟩
    · rw [if_neg d0, if_neg d1, if_neg d2, if_pos d3]
      exact tr_G (show _ < 4200 by omega) (by omega) (tr_some ⟨rt.2.1, h0⟩)
  by_cases d4 : a3 = 4
  · refine ⟨(S.tb (S.lg i)).2.1 4, cl _ ?_, rf _ ?_⟩
    · rw [if_neg d0, if_neg d1, if_neg d2, if_neg d3, if_pos d4, gd_ ha.2.1]
      exact tr_some ⟨ha.2.2.2.2.2.2.1, hW⟩
    · rw [if_neg d0, if_neg d1, if_neg d2, if_neg d3, if_pos d4]
      exact tr_G (show _ < 4200 by omega) (by omega) (tr_some ⟨rt.2.2.1, h0⟩)
  · refine ⟨-1, cl _ ?_, rf _ ?_⟩
    · rw [if_neg d0, if_neg d1, if_neg d2, if_neg d3, if_neg d4]
      exact tr_some ⟨rfl, hW⟩
    · rw [if_neg d0, if_neg d1, if_neg d2, if_neg d3, if_neg d4]
      exact tr_some ⟨rfl, h0⟩
