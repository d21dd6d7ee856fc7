/-! ===== spoiling ===== -/
def y_sp (m : Mg) (k b : Nat) : Mg := va_up m 7 (1 + 8 * k + b)
theorem sp_o (m : Mg) (k b : Nat) {f : Nat} (h : f ≠ 7) : y_sp m k b f = m f := va_up_ne _ _ h
theorem sp_7 (m : Mg) (k b : Nat) : y_sp m k b 7 = 1 + 8 * k + b := va_up_self _ _ _
theorem sp_frm (S : Sx) (m : Mg) (k b : Nat) : y_frm S (y_sp m k b) = y_frm S m := by
  have e : y_frB S (y_sp m k b) = y_frB S m := by
    unfold y_frB y_pcs
    rw [sp_o m k b (show 0 ≠ 7 by decide), sp_o m k b (show 1 ≠ 7 by decide), sp_o m k b (show 2 ≠ 7 by decide), sp_o m k b (show 3 ≠ 7 by decide), sp_o m k b (show 4 ≠ 7 by decide), sp_o m k b (show 5 ≠ 7 by decide), sp_o m k b (show 6 ≠ 7 by decide), sp_o m k b (show 8 ≠ 7 by decide)]
  unfold y_frm
  rw [e]
theorem getD_set1 {l : List Mg} {i : Nat} {x : Mg} (h : i < l.length) : (l.set i x).getD i mgD = x := by
  rw [List.getD_eq_getElem?_getD, List.getElem?_set_self h]; rfl
theorem getD_set2 {l : List Mg} {i j : Nat} {x : Mg} (h : j ≠ i) : (l.set i x).getD j mgD = l.getD j mgD := by
  rw [List.getD_eq_getElem?_getD, List.getD_eq_getElem?_getD, List.getElem?_set_ne (Ne.symm h)]
theorem s_spoil {K : Nat} {c : vC} {M : vM} {S : Sx} (hW : WC K0 c S) (hM : WM M S) (hI : IvS K S) (hK : K < 600) (a1 a2 a3 : Int32) : ∃ S', Sim (F_X11_spoilAt S.N c a1 a2 a3) (F_X12_spoilAt M a1 a2 a3) S' ∧ IvS K S' ∧ S'.1 1 = S.1 1 := by
  obtain ⟨hB, hfl, _⟩ := iv_bs hI hK
  have h0 : WM (mW M 0 0) S := WM_0 hM
  have e53 : (mW M 0 0).1 53 = nI S.fl.length := h0.2.1
  unfold F_X11_spoilAt F_X12_spoilAt
  rcases ars (n := S.fl.length) (by omega) a1 with hb | ⟨i, hi, rfl⟩
  · refine ⟨S, ⟨0, ?_, ?_⟩, hI, rfl⟩
    · rw [e_look0 hW hb, b2_, oc_n]
      exact tr_z0 (tr_some ⟨rfl, hW⟩)
    · refine tr_l1 ?_
      by_cases c1 : a1 < 0
      · rw [if_pos c1]; exact tr_z0 (tr_some ⟨rfl, h0⟩)
      · rw [if_neg c1, e53, if_pos (hb.resolve_left c1)]
        exact tr_z0 (tr_some ⟨rfl, h0⟩)
  obtain ⟨_, a303, a304, a305, a306, p, t, hp⟩ := hW.2.2.1
  have hp' := hp
  obtain ⟨b1, b2, b3, b4, b5, b6, b7⟩ := hp'
  have hpi := b1 i (by omega)
  have hF := b7 i hi
  have hR := h0.2.2.2.2.2 i hi
  obtain ⟨hmb, hll⟩ := iv_m hI hi
  have hrf := r_frame hB.1 h0 hfl hi rfl hK hll hmb
  have hcf := c_frame (N := S.N) hB.1 hW hF hK hll hmb
  have hlen := frm_b hB.1 hK hll hmb
  have hmem : S.fl.getD i mgD ∈ S.fl := getD_memM hi
  generalize hmm : S.fl.getD i mgD = m at hF hR hmb hrf hcf hlen hmem
  have hsp := hmb.2.2.2.2.2.2.2.2.1
  have m9 := hsp.1
  obtain ⟨y1, y2, y3⟩ := hR
  obtain ⟨x1, x2, x3, x4, x5, x6, x7⟩ := hF
  rw [e_look hW hfl hi hp, b2_, oc_s, gd_ hpi.2.1]
  have d07 : (8 : Int32) * nI i + (7 : Int32) = nI (8 * i + 7) := by rw [show (8 : Int32) = nI 8 from rfl, show (7 : Int32) = nI 7 from rfl, nI_mul, nI_add]
  by_cases c7 : ¬ m 7 = 0
  · refine ⟨S, ⟨0, ?_, ?_⟩, hI, rfl⟩
    · unfold F_X1_isSpoilt
      rw [(x7 (by omega)).1, if_neg (show ¬ nI ((m 7 - 1) / 8) = (-1 : Int32) from fun q => by
        have hh := nIn (n := (m 7 - 1) / 8) (by omega)
        rw [q] at hh
        exact absurd (by decide : (-1 : Int32) < 0) hh), zb1, b2_, if_neg (by decide)]
      exact tr_z0 (tr_some ⟨rfl, hW⟩)
    · refine tr_l1 ?_
      rw [if_neg (nIn (by omega)), e53, if_neg (nI_ge hi (by omega))]
      by_cases d2 : a2 < 0
      · rw [if_pos d2]; exact tr_z0 (tr_some ⟨rfl, h0⟩)
      rw [if_neg d2]
      by_cases d3 : a3 < 0
      · rw [if_pos d3]; exact tr_z0 (tr_some ⟨rfl, h0⟩)
      rw [if_neg d3]
      by_cases d4 : (7 : Int32) < a3
      · rw [if_pos d4]; exact tr_z0 (tr_some ⟨rfl, h0⟩)
      rw [if_neg d4, d07]
      refine tr_G (show 8 * i + 7 < 1608 by omega) (by omega) ?_
      rw [y1 7 (by decide), if_neg (show ¬ nI (m 7) ≤ (0 : Int32) from nI_ge (a := 0) (by omega) (by omega))]
      exact tr_z0 (tr_some ⟨rfl, h0⟩)
  have c7 : m 7 = 0 := Decidable.of_not_not c7
  have eIs : F_X1_isSpoilt S.N c (p i) = some (c, 0) := by
    unfold F_X1_isSpoilt
    rw [x6 c7, if_pos rfl, zb0]
  rw [eIs, b2_, if_pos rfl]
  have refA : ∀ {S' : Sx} {v : Int32} {x : Option (vM × Int32)}, tr x (fun p => p.2 = v ∧ WM p.1 S') → tr (if nI i < 0 then (zb ((0 : Int32)) (some (mW M 0 0, (0 : Int32)))) else (if ((mW M 0 0).1 53) ≤ nI i then (zb ((0 : Int32)) (some (mW M 0 0, (0 : Int32)))) else x)) (fun p => p.2 = v ∧ WM p.1 S') := fun {S' v x} hx => by
    rw [if_neg (nIn (by omega)), e53, if_neg (nI_ge hi (by omega))]
    exact hx
  by_cases d2 : a2 < 0
  · refine ⟨S, ⟨0, ?_, ?_⟩, hI, rfl⟩
    · rw [if_pos d2]; exact tr_z0 (tr_some ⟨rfl, hW⟩)
    · refine tr_l1 (refA ?_)
      rw [if_pos d2]; exact tr_z0 (tr_some ⟨rfl, h0⟩)
  rcases ars (n := 8) (by decide) a3 with hb3 | ⟨b, hb3, rfl⟩
  · refine ⟨S, ⟨0, ?_, ?_⟩, hI, rfl⟩
    · rw [if_neg d2]
      by_cases d3 : a3 < 0
      · rw [if_pos d3]; exact tr_z0 (tr_some ⟨rfl, hW⟩)
      · rw [if_neg d3, if_neg (show ¬ a3 ≤ (7 : Int32) from fun q => absurd (Int32.le_trans (hb3.resolve_left d3) q) (by decide))]
        exact tr_z0 (tr_some ⟨rfl, hW⟩)
    · refine tr_l1 (refA ?_)
      rw [if_neg d2]
      by_cases d3 : a3 < 0
      · rw [if_pos d3]; exact tr_z0 (tr_some ⟨rfl, h0⟩)
      · rw [if_neg d3, if_pos (show (7 : Int32) < a3 from Int32.lt_of_lt_of_le (by decide) (hb3.resolve_left d3))]
        exact tr_z0 (tr_some ⟨rfl, h0⟩)
  rcases ars (n := (y_frm S m).length) (by omega) a2 with hb2 | ⟨k, hk, rfl⟩
  · have hge := hb2.resolve_left d2
    refine ⟨S, ⟨0, ?_, ?_⟩, hI, rfl⟩
    · rw [if_neg d2, if_neg (nIn (by omega)), if_pos (show nI b ≤ (7 : Int32) from nI_le (b := 7) (by omega) (by decide))]
      refine tr_bind hcf fun c' ec' => ?_
      subst ec'
      rw [sB_1, if_neg (Int32.not_lt.mpr hge)]
      exact tr_z0 (tr_some ⟨rfl, WC_B (WC_2 hW (by decide))⟩)
    · refine tr_l1 (refA ?_)
      rw [if_neg d2, if_neg (nIn (by omega)), if_neg (show ¬ (7 : Int32) < nI b from nI_nlt (a := 7) (by omega) (by omega)), d07]
      refine tr_G (show 8 * i + 7 < 1608 by omega) (by omega) ?_
      rw [y1 7 (by decide), c7, if_pos (show nI 0 ≤ (0 : Int32) from Int32.le_refl _)]
      refine tr_bind hrf fun M' q => ?_
      rw [q.2.1, if_neg (Int32.not_lt.mpr hge)]
      exact tr_z0 (tr_some ⟨rfl, q.1⟩)
  refine ⟨S.setf (S.fl.set i (y_sp m k b)), ⟨1, ?_, ?_⟩, ?_, rfl⟩
  · rw [if_neg d2, if_neg (nIn (by omega)), if_pos (show nI b ≤ (7 : Int32) from nI_le (b := 7) (by omega) (by decide))]
    refine tr_bind hcf fun c' ec' => ?_
    subst ec'
    rw [sB_1, if_pos (nI_lt hk (by omega)), l1_, l1_]
    have wB : WC K0 (sB (uI c 2 0 0) 0 (y_frm S m)) S := WC_B (WC_2 hW (by decide))
    have pB : PmA (sB (uI c 2 0 0) 0 (y_frm S m)) S p t := by
      obtain ⟨r1, r2, r3, r4, r5, r6, r7⟩ := sB_re (uI c 2 0 0) 0 (y_frm S m)
      have zz : ze (sB (uI c 2 0 0) 0 (y_frm S m)) c := (zc_B (r := 0)).1.tr (zc_2 (r := 0) (by decide)).1
      refine ⟨fun j hj => ?_, ?_, b3, b4, b5, b6, fun j hj => (b7 j hj).c zz (fun f f1 f2 => by rw [sB_I _ _ _ _ (by omega), uI_f _ _ _ (by omega)]) (by rw [r1, uI_P]) (by rw [r1, uI_P])⟩
      · rw [r3, (iw_K c 2 0 0).2.2.2.2.2.2]; exact b1 j hj
      · rw [r1, uI_P]; exact b2
    have q303 := wB.2.2.1.2.1
    have q304 := wB.2.2.1.2.2.1
    have q305 := wB.2.2.1.2.2.2.1
    have q306 := wB.2.2.1.2.2.2.2.1
    generalize sB (uI c 2 0 0) 0 (y_frm S m) = c1 at wB pB q303 q304 q305 q306 ⊢
    obtain ⟨b1, b2, b3, b4, b5, b6, b7⟩ := pB
    have z1 := zn_I (o := p i) (c := c1) (f := 109) (v := nI k) (by decide)
    have i1 : cI (uI c1 109 (p i) (nI k)) 109 (p i) = nI k := uI_s _ _ _ _
    have o1 : ∀ f x, f ≠ 109 → cI (uI c1 109 (p i) (nI k)) f x = cI c1 f x := fun f x hf => uI_f _ _ _ hf
    have o1' : ∀ f x, cP (uI c1 109 (p i) (nI k)) f x = cP c1 f x := fun f x => uI_P _ _ _ _ _ _
    generalize uI c1 109 (p i) (nI k) = c2 at z1 i1 o1 o1' ⊢
    have z2 := zn_I (o := p i) (c := c2) (f := 110) (v := nI b) (by decide)
    have i2 : cI (uI c2 110 (p i) (nI b)) 110 (p i) = nI b := uI_s _ _ _ _
    have o2 : ∀ f x, f ≠ 110 → cI (uI c2 110 (p i) (nI b)) f x = cI c2 f x := fun f x hf => uI_f _ _ _ hf
    have o2' : ∀ f x, cP (uI c2 110 (p i) (nI b)) f x = cP c2 f x := fun f x => uI_P _ _ _ _ _ _
    generalize uI c2 110 (p i) (nI b) = c3 at z2 i2 o2 o2' ⊢
    have zz := z2.tr z1
    have oI : ∀ f x, f ≠ 109 → f ≠ 110 → cI c3 f x = cI c1 f x := fun f x p q => by rw [o2 f x q, o1 f x p]
    have oP : ∀ f x, cP c3 f x = cP c1 f x := fun f x => by rw [o2', o1']
    have fr : ∀ x M', x ≠ p i → FrA c1 S.V S.sta S.tb x M' → FrA c3 S.V S.sta S.tb x M' := fun x M' hx hF => hF.c zz.1 (fun f f1 f2 => zz.2.1 f x f1 (by omega) (fun q => hx q.1) (by omega)) (oP _ _) (oP _ _)
    have fn : FrA c3 S.V S.sta S.tb (p i) (y_sp m k b) := by
      have hFi := b7 i hi
      rw [hmm] at hFi
      obtain ⟨x1, x2, x3, x4, x5, x6, x7⟩ := hFi
      refine ⟨fun f hf => ?_, ?_, ?_, fun q => ?_, fun q => ?_, fun q => ?_, fun _ => ⟨?_, ?_⟩⟩
      · rw [oI (100 + f) _ (by omega) (by omega), sp_o m k b (by omega)]; exact x1 f hf
      · rw [oP, sp_o m k b (by decide)]; exact x2.c zz.1
      · rw [oI 106 _ (by decide) (by decide), sp_o m k b (by decide)]; exact x3
      · rw [sp_o m k b (by decide)] at q
        rw [oP, oI 108 _ (by decide) (by decide)]; exact x4 q
      · rw [sp_o m k b (by decide)] at q
        obtain ⟨w1, a, w2, w3⟩ := x5 q
        refine ⟨by rw [oI 108 _ (by decide) (by decide), sp_o m k b (by decide)]; exact w1, a, by rw [oP]; exact w2, ?_⟩
        rw [sp_o m k b (by decide)]; exact w3.c zz.1
      · rw [sp_7] at q; omega
      · rw [o2 109 _ (by decide), i1, sp_7, show (1 + 8 * k + b - 1) / 8 = k by omega]
      · rw [i2, sp_7, show (1 + 8 * k + b - 1) % 8 = b by omega]
    refine tr_z1 (tr_some ⟨rfl, WC_nw wB zz.w (fun _ _ => rfl) rfl rfl rfl rfl ⟨show HdA K0 c3 _ from ⟨fun k m e => (by cases e), fun a q e => (by cases e)⟩, ?_, ?_, ?_, ?_, p, t, fun j hj => ?_, ?_, b3, b4, b5, b6, fun j hj => ?_⟩⟩)
    · rw [oI 303 0 (by decide) (by decide), q303]
      show nI S.fl.length = nI (S.fl.set i (y_sp m k b)).length
      rw [List.length_set]
    · rw [oI 304 0 (by decide) (by decide)]; exact q304
    · rw [oI 305 0 (by decide) (by decide)]; exact q305
    · rw [oI 306 0 (by decide) (by decide)]; exact q306
    · rw [zz.2.2.2.2.2 300 0]; exact b1 j hj
    · rw [oP]; exact b2
    · have hj' : j < S.fl.length := by
        have : j < (S.fl.set i (y_sp m k b)).length := hj
        rw [List.length_set] at this; exact this
      show FrA c3 S.V S.sta S.tb (p j) ((S.fl.set i (y_sp m k b)).getD j mgD)
      by_cases e : j = i
      · subst e
        rw [getD_set1 hi]; exact fn
      · rw [getD_set2 e]
        exact fr _ _ (fun q => e (b5 j i (by omega) (by omega) q)) (b7 j hj')
  · refine tr_l1 (refA ?_)
    rw [if_neg d2, if_neg (nIn (by omega)), if_neg (show ¬ (7 : Int32) < nI b from nI_nlt (a := 7) (by omega) (by omega)), d07]
    refine tr_G (show 8 * i + 7 < 1608 by omega) (by omega) ?_
    rw [y1 7 (by decide), c7, if_pos (show nI 0 ≤ (0 : Int32) from Int32.le_refl _)]
    refine tr_bind hrf fun M' q => ?_
    obtain ⟨w, f45, _⟩ := q
    rw [f45, if_pos (nI_lt hk (by omega)), show ((1 : Int32) + (8 : Int32) * nI k) + nI b = nI (1 + 8 * k + b) by rw [show (8 : Int32) = nI 8 from rfl, show (1 : Int32) = nI 1 from rfl, nI_mul, nI_add, nI_add]]
    refine tr_S (show 8 * i + 7 < 1608 by omega) (by omega) ?_
    have hRw := w.2.2.2.2.2
    refine tr_z1 (tr_some ⟨rfl, WM_fl w (fun _ _ => rfl) ?_ (fun j p q r _ => ?_) (fun j hj => ?_)⟩)
    · show M'.1 53 = _
      rw [List.length_set]; exact w.2.1
    · funext x
      exact uE_j _ _ _ p
    · rw [List.length_set] at hj
      obtain ⟨g1, g2, g3⟩ := hRw j hj
      by_cases e : j = i
      · subst e
        rw [getD_set1 hi]
        rw [hmm] at g1 g2 g3
        refine ⟨fun f hf => ?_, ?_, fun q => ?_⟩
        · by_cases e7 : f = 7
          · subst e7
            rw [uE_s, sp_7]
          · rw [uE_i _ _ (by omega), sp_o m k b e7]; exact g1 f hf
        · rw [uE_j _ _ _ (by decide), sp_o m k b (by decide), sp_o m k b (by decide)]; exact g2
        · rw [sp_o m k b (by decide)] at q
          rw [sp_o m k b (by decide)]
          exact imA_sh (g3 q) hB.1.V (fun x _ => uE_j _ _ _ (by decide))
      · rw [getD_set2 e]
        refine ⟨fun f hf => ?_, ?_, fun q => imA_sh (g3 q) hB.1.V (fun x _ => uE_j _ _ _ (by decide))⟩
        · rw [uE_i _ _ (by omega)]; exact g1 f hf
        · rw [uE_j _ _ _ (by decide)]; exact g2
  · refine iv_net hI (fun _ _ _ _ => rfl) rfl rfl rfl rfl ?_ (fun x hx => ?_)
    · show (S.fl.set i (y_sp m k b)).length ≤ 200
      rw [List.length_set]; exact hfl
    · rcases List.mem_or_eq_of_mem_set hx with q | q
      · obtain ⟨g, hg⟩ := hI
        exact ⟨x, q, fun _ _ => rfl, (hg.2.2.2.2.2.2.2.2.1 x q).1.2.2.2.2.2.2.2.2.1⟩
      · subst q
        refine ⟨m, hmem, fun f hf => sp_o m k b hf, ?_, fun _ => ?_⟩
        · rw [sp_7]; omega
        · rw [sp_7, sp_frm]; omega
