/-! ===== the class: the log grows; all are told; the queue ===== -/
def LgC (mm : Kp) (S : Sx) : Prop := (∀ r, r < 9 → (S.rp r).1 7 ≤ S.ll ∧ (S.rp r).1 43 ≤ S.ll) ∧ (∀ m, m ∈ S.fl → m 0 = 8 → m 4 ≤ S.ll) ∧ ∀ k m, mm.1 = some (k, m) → m 0 = 8 → m 4 ≤ S.ll
theorem FrA_st {c : vC} {V k : Nat} {st st' : Nat → Sta} {tb : Nat → Rq} {m : Mg} (h : FrA c V st tb k m) (e : m 0 = 8 → st' (m 4) = st (m 4)) : FrA c V st' tb k m := by
  obtain ⟨h1, h2, h3, h4, h5, h6, h7⟩ := h
  refine ⟨h1, h2, h3, h4, fun q => ?_, h6, h7⟩
  rw [e q]; exact h5 q
theorem WC_log {mm : Kp} {c : vC} {S : Sx} {n : Nat} {g : Nat → Nat} (h : WC mm c S) (hN : S.N ≤ 9) (hL : LgC mm S) (hg : ∀ i, i ≤ S.ll → g i = S.lg i) : WC mm c (S.log n g) := by
  obtain ⟨h1, h2, ⟨hd, a1, a2, a3, a4, p, t, b1, b2, b3, b4, b5, b6, b7⟩, h4, h5⟩ := h
  have es : ∀ i, i ≤ S.ll → (S.log n g).sta i = S.sta i := fun i hi => st_c i (fun j hj => hg j (by omega))
  refine ⟨h1, h2, ⟨⟨fun k m e => ⟨(hd.1 k m e).1, FrA_st (hd.1 k m e).2 (fun q => es _ (hL.2.2 k m e q))⟩, hd.2⟩, a1, a2, a3, a4, p, t, b1, b2, b3, b4, b5, b6, fun i hi => FrA_st (b7 i hi) (fun q => es _ (hL.2.1 _ (getD_memM (l := S.fl) hi) q))⟩, h4, fun k hk => ?_⟩
  obtain ⟨q1, q2⟩ := h5 k hk
  have hk' : k < S.N := hk
  obtain ⟨l1, l2⟩ := hL.1 k (by omega)
  refine ⟨q1, fun h6 => ?_⟩
  obtain ⟨w1, w2, w3, w4, w5, w6, s1, s2, s3, s4, s5, s6, s7, s8⟩ := q2 h6
  have e7 : (S.log n g).sta (((S.log n g).rp k).1 7) = S.sta ((S.rp k).1 7) := es _ l1
  refine ⟨w1, w2, w3, w4, w5, ?_, s1, s2, s3, ?_, ?_, ?_, fun i x x1 x2 x3 => ?_, fun i x1 x2 => ?_⟩
  · refine w6.c (fun _ _ _ => rfl) rfl rfl rfl ?_
    show encSt S.V ((S.log n g).sta ((S.rp k).1 43)) _ = encSt S.V (S.sta ((S.rp k).1 43)) _
    rw [es _ l2]
  · rw [e7]; exact s4
  · rw [e7]; exact s5
  · rw [e7]; exact s6
  · have x2' : i ≤ (S.rp k).1 7 := x2
    rw [es i (by omega)]; exact s7 i x x1 x2 x3
  · have x2' : i ≤ (S.rp k).1 7 := x2
    show RqO c S.tb _ (g i)
    rw [hg i (by omega)]; exact s8 i x1 x2
/-- pieces are dropped -/
theorem WC_pi0 {mm : Kp} {c : vC} {S : Sx} {r : Nat} {R : Rp} (h : WC mm c (S.set r R)) : WC mm (uI (uI (uI c 501 r (-1)) 502 r 0) 503 r 0) (S.set r ((R.u 43 0).u 44 0)) := by
  have z : zc r (uI (uI (uI c 501 r (-1)) 502 r 0) 503 r 0) c := (zc_I rfl).tr ((zc_I rfl).tr (zc_I rfl))
  have eo : ∀ k, k ≠ 501 → k ≠ 502 → k ≠ 503 → cI (uI (uI (uI c 501 r (-1)) 502 r 0) 503 r 0) k r = cI c k r := fun k h1 h2 h3 => by rw [uI_f _ _ _ h3, uI_f _ _ _ h2, uI_f _ _ _ h1]
  refine WC_zc h z (fun hr => ?_) (fun hr h6 => ?_)
  · obtain ⟨⟨a1, a2, a3, a4, a5⟩, b, d⟩ := (WC_a h hr).1
    refine ⟨⟨by rw [eo _ (by decide) (by decide) (by decide)]; exact a1, by rw [eo _ (by decide) (by decide) (by decide)]; exact a2, by rw [eo _ (by decide) (by decide) (by decide)]; exact a3, by rw [eo _ (by decide) (by decide) (by decide)]; exact a4, by rw [eo _ (by decide) (by decide) (by decide)]; exact a5⟩, fun k j hk => ?_, d⟩
    have hj := sca_r hk
    rw [eo k (fun e => by subst e; cases hk) (fun e => by subst e; cases hk) (fun e => by subst e; cases hk), u_n _ _ (by omega), u_n _ _ (by omega)]; exact b k j hk
  · obtain ⟨w1, w2, w3, w4, w5, w6, w7⟩ := (WC_a h hr).2 h6
    refine ⟨fun k j hk => ?_, fun k j hk => ?_, fun x => ?_, ?_, w5.c z.1 (eo _ (by decide) (by decide) (by decide)) rfl rfl rfl, ⟨?_, ?_, fun x => absurd (show 0 < 0 from x) (Nat.lt_irrefl 0)⟩, w7.c z.1 (fun k k1 k2 => eo _ (by omega) (by omega) (by omega)) (fun _ _ _ => rfl) rfl rfl rfl rfl⟩
    · have q := sci_r hk
      rw [eo k (by omega) (by omega) (by omega), u_n _ _ (by omega), u_n _ _ (by omega)]; exact w1 k j hk
    · have q := pci_r hk
      rw [u_n _ _ (by omega), u_n _ _ (by omega)]; exact (w2 k j hk).c z.1
    · rw [eo _ (by decide) (by decide) (by decide)]; exact w3 x
    · rw [eo _ (by decide) (by decide) (by decide)]; exact w4
    · rw [uI_f _ _ _ (by decide), uI_f _ _ _ (by decide), uI_s]; rfl
    · rw [uI_f _ _ _ (by decide), uI_s]; rfl
theorem c_drop {mm : Kp} {N : Nat} {c : vC} {S : Sx} {r : Nat} {R : Rp} (h : WC mm c (S.set r R)) : tr (F_X5_drop N c r) (fun c' => WC mm c' (S.set r ((R.u 43 0).u 44 0))) := by
  unfold F_X5_drop
  exact tr_l1 (tr_l1 (tr_l1 (tr_some (WC_pi0 h))))
/-- the queue -/
theorem WC_q' {mm : Kp} {c c' : vC} {S : Sx} {r : Nat} {R : Rp} {l : List Nat} (h : WC mm c (S.set r R)) (z : zc r c' c) (eI : ∀ k, k ≠ 601 → cI c' k r = cI c k r) (eP : cP c' = cP c) (eR : cR c' = cR c) (eQ : ∀ f, f ≠ 600 → cQ c' f r = cQ c f r) (eJ : cJ c' = cJ c) (g : r < S.N → R.1 6 = 1 → QuA c' S r (R.q l)) : WC mm c' (S.set r (R.q l)) := by
  refine WC_zc h z (fun hr => ?_) (fun hr h6 => ?_)
  · obtain ⟨⟨a1, a2, a3, a4, a5⟩, b, d⟩ := (WC_a h hr).1
    exact ⟨⟨by rw [eI _ (by decide)]; exact a1, by rw [eI _ (by decide)]; exact a2, by rw [eI _ (by decide)]; exact a3, by rw [eI _ (by decide)]; exact a4, by rw [eI _ (by decide)]; exact a5⟩, fun k j hk => by rw [eI k (fun e => by subst e; cases hk)]; exact b k j hk, fun a ha => by rw [eJ]; exact d a ha⟩
  · obtain ⟨w1, w2, w3, w4, w5, w6, w7⟩ := (WC_a h hr).2 h6
    exact ⟨fun k j hk => by rw [eI k (fun e => by subst e; cases hk)]; exact w1 k j hk, fun k j hk => by rw [eP]; exact (w2 k j hk).c z.1, fun x => by rw [eI _ (by decide)]; exact w3 x, by rw [eI _ (by decide)]; exact w4, g hr h6, w6.c (fun k k1 k2 => eI _ (by omega)) (by rw [eR]) rfl rfl rfl, w7.c z.1 (fun k k1 k2 => eI _ (by omega)) (fun _ _ _ => by rw [eR]) (eQ 1006 (by decide)) rfl rfl rfl⟩
theorem kn_fr {S : Sx} {r q : Nat} {R : Rp} : (!y_known (S.set r R) r q) = decide (y_fresh S (R.1 7) q) := by
  have ek : y_known (S.set r R) r q = decide ((S.tb q).1 1 ≤ (S.sta (R.1 7)).2.1 ((S.tb q).1 0)) := by
    unfold y_known
    rw [set_rp]; rfl
  rw [ek]
  by_cases e : (S.tb q).1 1 ≤ (S.sta (R.1 7)).2.1 ((S.tb q).1 0)
  · rw [decide_eq_true e, decide_eq_false (show ¬ y_fresh S (R.1 7) q from by show ¬ _ < _; omega)]; rfl
  · rw [decide_eq_false e, decide_eq_true (show y_fresh S (R.1 7) q from by show _ < _; omega)]; rfl
theorem c_dropDec {mm : Kp} {N : Nat} {c : vC} {S : Sx} {r : Nat} {R : Rp} (hC : Cx S) (h : WC mm c (S.set r R)) (hr : r < S.N) (h6 : R.1 6 = 1) (hQ : QOk S R) : tr (F_X6_dropDecided N c r r) (fun c' => WC mm c' (S.set r (R.q (R.2.1.filter (fun q => !y_known (S.set r R) r q))))) := by
  obtain ⟨hq8, hq⟩ := hQ
  have hqu := WC_qu h hr h6
  unfold F_X6_dropDecided
  have main : ∀ (d i fl : Nat) (c' : vC), i + d = R.2.1.length → d < fl → zc r c' c → (∀ k, cI c' k r = cI c k r) → cP c' = cP c → cR c' = cR c → (∀ f, f ≠ 600 → cQ c' f r = cQ c f r) → cJ c' = cJ c → (∀ k, k < ((R.2.1.take i).filter (fun q => !y_known (S.set r R) r q)).length → RqO c' S.tb (cQ c' 600 r k) (((R.2.1.take i).filter (fun q => !y_known (S.set r R) r q)).getD k 0)) → (∀ k, i ≤ k → cQ c' 600 r k = cQ c 600 r k) → tr (L_X6_dropDecided_4 N r r (fun (M8 : vC) (l9 : Int32) => lt1 (uI M8 601 r (l9)) fun M10 => some M10) fl c' (nI ((R.2.1.take i).filter (fun q => !y_known (S.set r R) r q)).length) (nI i)) (fun c' => WC mm c' (S.set r (R.q (R.2.1.filter (fun q => !y_known (S.set r R) r q))))) := by
    intro d
    induction d with
    | zero =>
      intro i fl c' h1 h2 z eI eP eR eQ eJ g1 g2
      obtain ⟨fl, rfl⟩ : ∃ f', fl = f' + 1 := ⟨fl - 1, by omega⟩
      rw [List.take_of_length_le (show R.2.1.length ≤ i by omega)] at g1 ⊢
      rw [L_X6_dropDecided_4, eI 601, hqu.1, if_pos (nI_le (by omega) (by omega))]
      refine tr_l1 (tr_some (WC_q' h ((zc_I rfl).tr z) (fun k hk => (uI_f _ _ _ hk).trans (eI k)) eP eR eQ eJ (fun _ _ => ⟨uI_s _ _ _ _, fun k hk => (g1 k hk).c (zc_I (r := r) rfl).1⟩)))
    | succ d ih =>
      intro i fl c' h1 h2 z eI eP eR eQ eJ g1 g2
      obtain ⟨fl, rfl⟩ : ∃ f', fl = f' + 1 := ⟨fl - 1, by omega⟩
      have hi : i < R.2.1.length := by omega
      have hm := getD_mem hi
      obtain ⟨h0, hn⟩ := hq _ hm
      obtain ⟨a, ea, ha⟩ := (hqu.2 i hi).2 h0
      have ha' := ha.c z.1
      have etk : R.2.1.take (i + 1) = R.2.1.take i ++ [R.2.1.getD i 0] := by
        rw [List.take_add_one, List.getD_eq_getElem?_getD, List.getElem?_eq_getElem hi]; rfl
      have hle : ((R.2.1.take i).filter (fun q => !y_known (S.set r R) r q)).length ≤ i := Nat.le_trans (List.length_filter_le _ _) (by rw [List.length_take]; omega)
      have s4 := (WC_st h hr h6).2.2.2.1
      rw [L_X6_dropDecided_4, eI 601, hqu.1, if_neg (nI_ge hi (by omega)), cQv (show i < 8 by omega) (by omega), Option.bind_some, g2 i (Nat.le_refl _), ea, c_isNewS (ixx := R.1 7) hC (by rw [eR]; exact s4) ha', b2_]
      by_cases cf : y_fresh S (R.1 7) (R.2.1.getD i 0)
      · have ef : (R.2.1.take (i + 1)).filter (fun q => !y_known (S.set r R) r q) = (R.2.1.take i).filter (fun q => !y_known (S.set r R) r q) ++ [R.2.1.getD i 0] := by
          rw [etk, List.filter_append]
          congr 1
          rw [List.filter_cons_of_pos (by rw [kn_fr, decide_eq_true cf])]; rfl
        have := ih (i + 1) fl (uQ c' 600 r ((R.2.1.take i).filter (fun q => !y_known (S.set r R) r q)).length (some a)) (by omega) (by omega) ((zc_Q rfl).tr z) eI eP eR (fun f hf => (uQ_f _ _ _ _ hf).trans (eQ f hf)) eJ
        rw [ef, List.length_append] at this
        rw [if_pos cf, if_neg (by decide), cQv (show i < 8 by omega) (by omega), Option.bind_some, g2 i (Nat.le_refl _), ea, cSQv (show _ < 8 by omega) (by omega) (by show (cK c' a == 9) = true; rw [ha'.2.1]; rfl), Option.bind_some, nI_add1, nI_add1]
        refine this (fun k hk => ?_) (fun k hk => ?_)
        · have hk' : k < ((R.2.1.take i).filter (fun q => !y_known (S.set r R) r q)).length + 1 := hk
          by_cases e : k = ((R.2.1.take i).filter (fun q => !y_known (S.set r R) r q)).length
          · rw [e, uQ_s, List.getD_eq_getElem?_getD, List.getElem?_append_right (Nat.le_refl _), Nat.sub_self]
            exact RqO.some h0 (ha'.c (zc_Q (r := r) rfl).1)
          · rw [uQ_j _ _ _ _ e, List.getD_eq_getElem?_getD, List.getElem?_append_left (by omega), ← List.getD_eq_getElem?_getD]
            exact (g1 k (by omega)).c (zc_Q (r := r) rfl).1
        · rw [uQ_j _ _ _ _ (by omega)]; exact g2 k (by omega)
      · have ef : (R.2.1.take (i + 1)).filter (fun q => !y_known (S.set r R) r q) = (R.2.1.take i).filter (fun q => !y_known (S.set r R) r q) := by
          rw [etk, List.filter_append, List.filter_cons_of_neg (by rw [kn_fr, decide_eq_false cf]; decide)]
          exact List.append_nil _
        have := ih (i + 1) fl c' (by omega) (by omega) z eI eP eR eQ eJ
        rw [ef] at this
        rw [if_neg cf, if_pos rfl, nI_add1]
        exact this g1 (fun k hk => g2 k (by omega))
  exact main R.2.1.length 0 fu c (by omega) (by show _ < 32768; omega) zc.refl (fun _ => rfl) rfl rfl (fun _ _ => rfl) rfl (fun k hk => absurd hk (Nat.not_lt_zero _)) (fun _ _ => rfl)
