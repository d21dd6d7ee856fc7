/-! ===== the class sends ===== -/
/-- nothing but one frame and the network's counters -/
def zn (o : Nat) (c' c : vC) : Prop := ze c' c ∧ (∀ f i, 100 ≤ f → ¬ (800 ≤ f ∧ f < 900) → ¬ (i = o ∧ 100 ≤ f ∧ f < 200) → ¬ (i = 0 ∧ 303 ≤ f ∧ f ≤ 306) → cI c' f i = cI c f i) ∧ (∀ f i, f ≠ 805 → ¬ (i = o ∧ (f = 105 ∨ f = 107)) → cP c' f i = cP c f i) ∧ (∀ f i, f ≠ 0 → cR c' f i = cR c f i) ∧ (∀ i, cJ c' i = cJ c i) ∧ ∀ f i, cQ c' f i = cQ c f i
theorem zn.tr {o : Nat} {a b c : vC} (h : zn o a b) (g : zn o b c) : zn o a c := by
  obtain ⟨h1, h2, h3, h4, h5, h6⟩ := h
  obtain ⟨g1, g2, g3, g4, g5, g6⟩ := g
  exact ⟨h1.tr g1, fun f i a b c d => (h2 f i a b c d).trans (g2 f i a b c d), fun f i a b => (h3 f i a b).trans (g3 f i a b), fun f i a => (h4 f i a).trans (g4 f i a), fun i => (h5 i).trans (g5 i), fun f i => (h6 f i).trans (g6 f i)⟩
theorem zn_I {o f : Nat} {c : vC} {v : Int32} (h : 100 ≤ f ∧ f < 200) : zn o (uI c f o v) c :=
  ⟨ze_s rfl rfl rfl rfl (fun g a b => funext fun j => uI_f _ _ _ (by omega)) rfl, fun g i _ _ n _ => uI_o _ _ (fun q => n ⟨q.2, by omega⟩), fun _ _ _ _ => rfl, fun _ _ _ => rfl, fun _ => rfl, fun _ _ => rfl⟩
theorem zn_N {o f : Nat} {c : vC} {v : Int32} (h : 303 ≤ f ∧ f ≤ 306) : zn o (uI c f 0 v) c :=
  ⟨ze_s rfl rfl rfl rfl (fun g a b => funext fun j => uI_f _ _ _ (by omega)) rfl, fun g i _ _ _ n => uI_o _ _ (fun q => n ⟨q.2, by omega⟩), fun _ _ _ _ => rfl, fun _ _ _ => rfl, fun _ => rfl, fun _ _ => rfl⟩
theorem zn_P {o f : Nat} {c : vC} {v : Option Nat} (h : f = 105 ∨ f = 107) : zn o (uP c f o v) c :=
  ⟨ze_s rfl rfl rfl rfl (fun g a b => rfl) (funext fun j => uP_f _ _ _ (by omega)), fun g i _ _ _ n => rfl, fun g i _ n => vi_u2v _ _ _ _ (fun q => n ⟨q.2, by omega⟩), fun _ _ _ => rfl, fun _ => rfl, fun _ _ => rfl⟩
theorem WC_zn {mm : Kp} {c c' : vC} {S S' : Sx} {o : Nat} (h : WC mm c S) (z : zn o c' c) (e1 : ∀ f, f < 54 → S'.1 f = S.1 f) (e2 : S'.tb = S.tb) (e3 : S'.lg = S.lg) (e4 : S'.rp = S.rp) (e5 : S'.se = S.se) (g : NwA mm c' S') : WC mm c' S' := by
  obtain ⟨h1, h2, h3, h4, h5⟩ := h
  obtain ⟨z1, z2, z3, z4, z5, z6⟩ := z
  have eN : S'.N = S.N := e1 1 (by decide)
  have eV : S'.V = S.V := e1 2 (by decide)
  have eL : S'.L = S.L := e1 3 (by decide)
  have eT : S'.T = S.T := e1 11 (by decide)
  have es : S'.sta = S.sta := by
    funext i
    show stN S'.V S'.tb S'.lg i = stN S.V S.tb S.lg i
    rw [eV, e2, e3]
  have een : S'.enc = S.enc := by
    funext i
    show encSt S'.V (S'.sta i) i = encSt S.V (S.sta i) i
    rw [eV, es]
  have eI : ∀ f i, 100 ≤ f → ¬ (800 ≤ f ∧ f < 900) → ¬ (100 ≤ f ∧ f < 200) → ¬ (303 ≤ f ∧ f ≤ 306) → cI c' f i = cI c f i := fun f i a b d e => z2 f i a b (fun q => d q.2) (fun q => e q.2)
  refine ⟨z1.2.2 h1, ?_, g, fun k hk => ?_, fun k hk => ?_⟩
  · rw [eI 1100 0 (by decide) (by decide) (by decide) (by decide), eI 1101 0 (by decide) (by decide) (by decide) (by decide), eI 1102 0 (by decide) (by decide) (by decide) (by decide), eV, eL, eT]; exact h2
  · rw [e2, e5]
    exact (h4 k hk).c z1 (fun f f1 f2 => eI f k (by omega) (by omega) (by omega) (by omega)) (z3 908 k (by decide) (by omega)) (z4 900 k (by decide))
  · rw [eN] at hk
    obtain ⟨⟨q1, q2, q3⟩, q4⟩ := h5 k hk
    rw [e4]
    have sr : ∀ f g, sci f = some g → 100 ≤ f ∧ ¬ (800 ≤ f ∧ f < 900) ∧ ¬ (100 ≤ f ∧ f < 200) ∧ ¬ (303 ≤ f ∧ f ≤ 306) := fun f g hf => by
      unfold sci at hf
      split at hf <;> first | decide | exact absurd hf (by simp)
    have sr2 : ∀ f g, sca f = some g → 100 ≤ f ∧ ¬ (800 ≤ f ∧ f < 900) ∧ ¬ (100 ≤ f ∧ f < 200) ∧ ¬ (303 ≤ f ∧ f ≤ 306) := fun f g hf => by
      unfold sca at hf
      split at hf <;> first | decide | exact absurd hf (by simp)
    refine ⟨⟨?_, fun f g hf => ?_, fun a ha => ?_⟩, fun q => ?_⟩
    · rw [eI 1000 k (by decide) (by decide) (by decide) (by decide), eI 1001 k (by decide) (by decide) (by decide) (by decide), eI 700 k (by decide) (by decide) (by decide) (by decide), eI 701 k (by decide) (by decide) (by decide) (by decide), eI 702 k (by decide) (by decide) (by decide) (by decide), eV, eL, eN, eT]; exact q1
    · rw [eI f k (sr2 f g hf).1 (sr2 f g hf).2.1 (sr2 f g hf).2.2.1 (sr2 f g hf).2.2.2]; exact q2 f g hf
    · rw [z5 k]; exact q3 a ha
    · obtain ⟨w1, w2, w3, w4, w5, w6, w7⟩ := q4 q
      refine ⟨fun f g hf => ?_, fun f g hf => ?_, fun x => ?_, ?_, w5.c z1 (eI 601 k (by decide) (by decide) (by decide) (by decide)) (z6 600 k) rfl e2, w6.c (fun f f1 f2 => eI f k (by omega) (by omega) (by omega) (by omega)) (z4 500 k (by decide)) rfl rfl (by rw [een]), ?_⟩
      · rw [eI f k (sr f g hf).1 (sr f g hf).2.1 (sr f g hf).2.2.1 (sr f g hf).2.2.2]; exact w1 f g hf
      · have hp := pci_r hf
        rw [e2, z3 f k hp.2.2 (fun q => by have := rpf_8 hp.1; omega)]; exact (w2 f g hf).c z1
      · rw [eI 714 k (by decide) (by decide) (by decide) (by decide)]; exact w3 x
      · rw [eI 206 k (by decide) (by decide) (by decide) (by decide)]; exact w4
      · have w7' := w7.c (R' := S.rp k) z1 (fun f f1 f2 => eI f k (by omega) (by omega) (by omega) (by omega)) (fun f f1 f2 => z4 f k (by omega)) (z6 1006 k) rfl rfl rfl
        unfold StA at w7' ⊢
        rw [es, e3, e2, eV]; exact w7'
theorem getD_appM1 {l : List Mg} {n : Mg} {k : Nat} (h : k < l.length) : (l ++ [n]).getD k mgD = l.getD k mgD := by
  rw [List.getD_eq_getElem?_getD, List.getD_eq_getElem?_getD, List.getElem?_append_left h]
theorem getD_appM2 {l : List Mg} {n : Mg} : (l ++ [n]).getD l.length mgD = n := by
  rw [List.getD_eq_getElem?_getD, List.getElem?_append_right (Nat.le_refl _), Nat.sub_self]; rfl
/-- a frame that is sent: there is room -/
theorem WC_snd1 {mm : Kp} {c c' : vC} {S : Sx} {p : Nat → Nat} {t : Nat} {m : Mg} (h : WC mm c S) (hp : PmA c S p t) (hl : S.fl.length < 200) (z : zn (p S.fl.length) c' c) (e3 : cI c' 303 0 = nI (S.fl.length + 1)) (e4 : cI c' 304 0 = nI (S.1 54 + 1)) (e5 : cI c' 305 0 = cI c 305 0) (e6 : cI c' 306 0 = cI c 306 0) (g : FrA c' S.V S.sta S.tb (p S.fl.length) m) : WC mm c' (y_send S m) := by
  have ey : y_send S m = (S.u 54 (S.1 54 + 1)).setf (S.fl ++ [m]) := if_neg (by omega)
  obtain ⟨s1, s2, s3, s4, s5, s6⟩ := send_o S m
  obtain ⟨hd, a1, a2, a3, a4, _⟩ := h.2.2.1
  obtain ⟨b1, b2, b3, b4, b5, b6, b7⟩ := hp
  have fr : ∀ k M, k ≠ p S.fl.length → FrA c S.V S.sta S.tb k M → FrA c' S.V S.sta S.tb k M := fun k M hk hF => hF.c z.1 (fun f f1 f2 => z.2.1 f k f1 (by omega) (fun q => hk q.1) (by omega)) (z.2.2.1 105 k (by decide) (fun q => hk q.1)) (z.2.2.1 107 k (by decide) (fun q => hk q.1))
  refine WC_zn h z (fun f hf => s5 f (by omega) (by omega)) s2 s3 s1 s4 ?_
  rw [ey]
  refine ⟨⟨fun k M e => ?_, fun a q e => (hd.2 a q e).c z.1⟩, ?_, ?_, ?_, ?_, p, t, fun i hi => ?_, ?_, b3, b4, b5, b6, fun i hi => ?_⟩
  · obtain ⟨c1, c2⟩ := hd.1 k M e
    have : k = t := by rw [b2] at c1; injection c1 with c1; exact c1.symm
    subst this
    refine ⟨(z.2.2.1 301 0 (by decide) (by omega)).trans c1, fr k M (fun q => b6 _ hl q.symm) c2⟩
  · show cI c' 303 0 = nI (S.fl ++ [m]).length
    rw [e3, List.length_append]; rfl
  · exact e4
  · rw [e5]; exact a3
  · rw [e6]; exact a4
  · rw [z.2.2.2.2.2 300 0]; exact b1 i hi
  · exact (z.2.2.1 301 0 (by decide) (by omega)).trans b2
  · have hi' : i < S.fl.length + 1 := by
      have : i < (S.fl ++ [m]).length := hi
      rw [List.length_append] at this; exact this
    show FrA c' S.V S.sta S.tb (p i) ((S.fl ++ [m]).getD i mgD)
    by_cases e : i = S.fl.length
    · subst e
      rw [getD_appM2]; exact g
    · rw [getD_appM1 (by omega)]
      exact fr _ _ (fun q => e (b5 i _ (by omega) hl q)) (b7 i (by omega))
/-- a frame that is sent: there is none -/
theorem WC_snd2 {mm : Kp} {c c' : vC} {S : Sx} {m : Mg} (h : WC mm c S) (hl : S.fl.length = 200) (z : zn 1 c' c) (e3 : cI c' 303 0 = cI c 303 0) (e4 : cI c' 304 0 = nI (S.1 54 + 1)) (e5 : cI c' 305 0 = nI (S.1 55 + 1)) (e6 : cI c' 306 0 = cI c 306 0) : WC mm c' (y_send S m) := by
  have ey : y_send S m = (S.u 54 (S.1 54 + 1)).u 55 (S.1 55 + 1) := if_pos hl
  obtain ⟨s1, s2, s3, s4, s5, s6⟩ := send_o S m
  obtain ⟨hd, a1, a2, a3, a4, p, t, b1, b2, b3, b4, b5, b6, b7⟩ := h.2.2.1
  have fr : ∀ k M, k ≠ 1 → FrA c S.V S.sta S.tb k M → FrA c' S.V S.sta S.tb k M := fun k M hk hF => hF.c z.1 (fun f f1 f2 => z.2.1 f k f1 (by omega) (fun q => hk q.1) (by omega)) (z.2.2.1 105 k (by decide) (fun q => hk q.1)) (z.2.2.1 107 k (by decide) (fun q => hk q.1))
  refine WC_zn h z (fun f hf => s5 f (by omega) (by omega)) s2 s3 s1 s4 ?_
  rw [ey]
  refine ⟨⟨fun k M e => ?_, fun a q e => (hd.2 a q e).c z.1⟩, e3.trans a1, ?_, ?_, e6.trans a4, p, t, fun i hi => ?_, ?_, b3, b4, b5, b6, fun i hi => ?_⟩
  · obtain ⟨c1, c2⟩ := hd.1 k M e
    have : k = t := by rw [b2] at c1; injection c1 with c1; exact c1.symm
    subst this
    refine ⟨(z.2.2.1 301 0 (by decide) (by omega)).trans c1, fr k M b4 c2⟩
  · rw [e4]; rfl
  · rw [e5]; rfl
  · rw [z.2.2.2.2.2 300 0]; exact b1 i hi
  · exact (z.2.2.1 301 0 (by decide) (by omega)).trans b2
  · have hi' : i < S.fl.length := hi
    exact fr _ _ (b1 i (by omega)).2.2 (b7 i hi')
def adr (M : vC) (o : Nat) (kd se re b s : Int32) : vC := uI (uI (uI (uI (uP (uI (uP (uI (uI (uI M 100 o kd) 101 o se) 102 o re) 105 o none) 106 o 0) 107 o none) 108 o (-1)) 109 o (-1)) 103 o b) 104 o s
theorem adr_f (M : vC) (o : Nat) (kd se re b s : Int32) : cI (adr M o kd se re b s) 100 o = kd ∧ cI (adr M o kd se re b s) 101 o = se ∧ cI (adr M o kd se re b s) 102 o = re ∧ cI (adr M o kd se re b s) 103 o = b ∧ cI (adr M o kd se re b s) 104 o = s ∧ cI (adr M o kd se re b s) 106 o = 0 ∧ cI (adr M o kd se re b s) 108 o = -1 ∧ cI (adr M o kd se re b s) 109 o = -1 ∧ cP (adr M o kd se re b s) 105 o = none ∧ cP (adr M o kd se re b s) 107 o = none ∧ (∀ f, 200 ≤ f → ∀ i, cI (adr M o kd se re b s) f i = cI M f i) ∧ zn o (adr M o kd se re b s) M := by
  have pI : ∀ (c : vC) (f i g j : Nat) (v : Option Nat), cI (uP c f i v) g j = cI c g j := fun _ _ _ _ _ _ => rfl
  have iP : ∀ (c : vC) (f i g j : Nat) (v : Int32), cP (uI c f i v) g j = cP c g j := fun _ _ _ _ _ _ => rfl
  unfold adr
  refine ⟨?_, ?_, ?_, ?_, ?_, ?_, ?_, ?_, ?_, ?_, fun f hf i => ?_, ?_⟩
  · rw [uI_f _ _ _ (by decide), uI_f _ _ _ (by decide), uI_f _ _ _ (by decide), uI_f _ _ _ (by decide), pI, uI_f _ _ _ (by decide), pI, uI_f _ _ _ (by decide), uI_f _ _ _ (by decide), uI_s]
  · rw [uI_f _ _ _ (by decide), uI_f _ _ _ (by decide), uI_f _ _ _ (by decide), uI_f _ _ _ (by decide), pI, uI_f _ _ _ (by decide), pI, uI_f _ _ _ (by decide), uI_s]
  · rw [uI_f _ _ _ (by decide), uI_f _ _ _ (by decide), uI_f _ _ _ (by decide), uI_f _ _ _ (by decide), pI, uI_f _ _ _ (by decide), pI, uI_s]
  · rw [uI_f _ _ _ (by decide), uI_s]
  · rw [uI_s]
  · rw [uI_f _ _ _ (by decide), uI_f _ _ _ (by decide), uI_f _ _ _ (by decide), uI_f _ _ _ (by decide), pI, uI_s]
  · rw [uI_f _ _ _ (by decide), uI_f _ _ _ (by decide), uI_f _ _ _ (by decide), uI_s]
  · rw [uI_f _ _ _ (by decide), uI_f _ _ _ (by decide), uI_s]
  · rw [iP, iP, iP, iP, uP_f _ _ _ (by decide), iP, uP_s]
  · rw [iP, iP, iP, iP, uP_s]
  · rw [uI_f _ _ _ (by omega), uI_f _ _ _ (by omega), uI_f _ _ _ (by omega), uI_f _ _ _ (by omega), pI, uI_f _ _ _ (by omega), pI, uI_f _ _ _ (by omega), uI_f _ _ _ (by omega), uI_f _ _ _ (by omega)]
  · exact (zn_I (by decide)).tr ((zn_I (by decide)).tr ((zn_I (by decide)).tr ((zn_I (by decide)).tr ((zn_P (by decide)).tr ((zn_I (by decide)).tr ((zn_P (by decide)).tr ((zn_I (by decide)).tr ((zn_I (by decide)).tr (zn_I (by decide))))))))))
/-- what a frame says that was sent and then filled -/
theorem FrA_q {c : vC} {S : Sx} {o kd r t b s q td : Nat} {ro : Option Nat} {M : vC} (ec : c = adr M o (nI kd) (nI r) (nI t) (nI b) (nI s)) (hk : kd ≠ 8) (hq : RqO c S.tb ro q) : FrA (uI (uP c 105 o ro) 106 o (nI td)) S.V S.sta S.tb o (y_msg kd r t b s q td 0) := by
  obtain ⟨a1, a2, a3, a4, a5, a6, a7, a8, a9, a10, a11, a12⟩ := adr_f M o (nI kd) (nI r) (nI t) (nI b) (nI s)
  rw [← ec] at a1 a2 a3 a4 a5 a6 a7 a8 a9 a10
  have eo : ∀ f, f ≠ 106 → cI (uI (uP c 105 o ro) 106 o (nI td)) f o = cI c f o := fun f hf => uI_f _ _ _ hf
  refine ⟨fun f hf => ?_, ?_, uI_s _ _ _ _, fun _ => ⟨?_, (eo 108 (by decide)).trans a7⟩, fun e => absurd (show kd = 8 from e) hk, fun _ => (eo 109 (by decide)).trans a8, fun e => absurd (show 0 < 0 from e) (Nat.lt_irrefl 0)⟩
  · have : f = 0 ∨ f = 1 ∨ f = 2 ∨ f = 3 ∨ f = 4 := by omega
    rcases this with rfl | rfl | rfl | rfl | rfl
    · exact (eo 100 (by decide)).trans a1
    · exact (eo 101 (by decide)).trans a2
    · exact (eo 102 (by decide)).trans a3
    · exact (eo 103 (by decide)).trans a4
    · exact (eo 104 (by decide)).trans a5
  · show RqO _ _ (cP (uP c 105 o ro) 105 o) q
    rw [uP_s]
    exact hq.c ((zn_I (o := o) (by decide)).1.tr (zn_P (o := o) (by decide)).1)
  · show cP (uP c 105 o ro) 107 o = none
    rw [uP_f _ _ _ (by decide)]; exact a10
theorem FrA_0 {c : vC} {S : Sx} {o kd r t b s : Nat} {M : vC} (ec : c = adr M o (nI kd) (nI r) (nI t) (nI b) (nI s)) (hk : kd ≠ 8) : FrA c S.V S.sta S.tb o (y_msg kd r t b s 0 0 0) := by
  obtain ⟨a1, a2, a3, a4, a5, a6, a7, a8, a9, a10, a11, a12⟩ := adr_f M o (nI kd) (nI r) (nI t) (nI b) (nI s)
  rw [← ec] at a1 a2 a3 a4 a5 a6 a7 a8 a9 a10
  refine ⟨fun f hf => ?_, ?_, a6, fun _ => ⟨a10, a7⟩, fun e => absurd (show kd = 8 from e) hk, fun _ => a8, fun e => absurd (show 0 < 0 from e) (Nat.lt_irrefl 0)⟩
  · have : f = 0 ∨ f = 1 ∨ f = 2 ∨ f = 3 ∨ f = 4 := by omega
    rcases this with rfl | rfl | rfl | rfl | rfl
    · exact a1
    · exact a2
    · exact a3
    · exact a4
    · exact a5
  · rw [a9]; exact RqO.none _ _
theorem FrA_8 {c : vC} {S : Sx} {o r t b s k a : Nat} {M : vC} (ec : c = adr M o (nI 8) (nI r) (nI t) (nI b) (nI s)) (ha : BtA c a (S.enc s)) : FrA (uI (uP c 107 o (some a)) 108 o (nI k)) S.V S.sta S.tb o (y_msg 8 r t b s 0 0 k) := by
  obtain ⟨a1, a2, a3, a4, a5, a6, a7, a8, a9, a10, a11, a12⟩ := adr_f M o (nI 8) (nI r) (nI t) (nI b) (nI s)
  rw [← ec] at a1 a2 a3 a4 a5 a6 a7 a8 a9 a10
  have eo : ∀ f, f ≠ 108 → cI (uI (uP c 107 o (some a)) 108 o (nI k)) f o = cI c f o := fun f hf => uI_f _ _ _ hf
  refine ⟨fun f hf => ?_, ?_, (eo 106 (by decide)).trans a6, fun e => absurd rfl (show (8 : Nat) ≠ 8 from e), fun _ => ⟨uI_s _ _ _ _, a, uP_s _ _ _ _, ha.c ((zn_I (o := o) (by decide)).1.tr (zn_P (o := o) (by decide)).1)⟩, fun _ => (eo 109 (by decide)).trans a8, fun e => absurd (show 0 < 0 from e) (Nat.lt_irrefl 0)⟩
  · have : f = 0 ∨ f = 1 ∨ f = 2 ∨ f = 3 ∨ f = 4 := by omega
    rcases this with rfl | rfl | rfl | rfl | rfl
    · exact (eo 100 (by decide)).trans a1
    · exact (eo 101 (by decide)).trans a2
    · exact (eo 102 (by decide)).trans a3
    · exact (eo 103 (by decide)).trans a4
    · exact (eo 104 (by decide)).trans a5
  · show RqO _ _ (cP (uP c 107 o (some a)) 105 o) 0
    rw [uP_f _ _ _ (by decide), a9]; exact RqO.none _ _
theorem uP_I (c : vC) (f i : Nat) (v : Option Nat) (g j : Nat) : cI (uP c f i v) g j = cI c g j := rfl
theorem e_adr {ρ : Type} {N : Nat} {M : vC} {o : Nat} {kd se re b s : Int32} {K : vC → Option ρ} : ((F_X1_address N M o kd se re).bind fun M5 => (F_X1_say N M5 o b s).bind fun M6 => K M6) = K (adr M o kd se re b s) := by
  unfold F_X1_address F_X1_say adr
  rfl
def SnP (mm : Kp) (c1 c : vC) (S : Sx) (o kd r t b s : Nat) : Prop := ze c1 c ∧ (kd ≠ 8 → ∀ q td ro, RqO c1 S.tb ro q → WC mm (uI (uP c1 105 o ro) 106 o (nI td)) (y_send S (y_msg kd r t b s q td 0))) ∧ (kd ≠ 8 → WC mm c1 (y_send S (y_msg kd r t b s 0 0 0))) ∧ (kd = 8 → ∀ a k, BtA c1 a (S.enc s) → WC mm (uI (uP c1 107 o (some a)) 108 o (nI k)) (y_send S (y_msg 8 r t b s 0 0 k)))
theorem c_sendTo {mm : Kp} {N : Nat} {c : vC} {S : Sx} {r t kd b s : Nat} {c1 c2 c3 c4 : Int32} (h : WC mm c S) (hr : r < S.N) (hfl : S.fl.length ≤ 200) (e1 : c1 = nI t) (e2 : c2 = nI kd) (e3 : c3 = nI b) (e4 : c4 = nI s) : tr (F_X7_sendTo N c r c1 c2 c3 c4) (fun p => ∃ o, p.2 = some o ∧ o < 202 ∧ SnP mm p.1 c S o kd r t b s) := by
  subst e1; subst e2; subst e3; subst e4
  have h' : WC mm c (S.set r (S.rp r)) := by rw [set_id]; exact h
  have e700 := WC_700 h' hr
  obtain ⟨hd, a1, a2, a3, a4, p, ti, hp⟩ := h.2.2.1
  unfold F_X7_sendTo F_X3_send
  have a1' : cI (uI c 304 0 (cI c 304 0 + 1)) 303 0 = nI S.fl.length := by rw [uI_f _ _ _ (by decide)]; exact a1
  rw [l1_, a1']
  by_cases hl : S.fl.length < 200
  · rw [if_pos (show nI S.fl.length < (200 : Int32) from Int32.not_le.mp (nI_ge (show S.fl.length < 200 from hl) (by decide))), l1_, uI_s, nI_add1, show nI (S.fl.length + 1) - (1 : Int32) = nI S.fl.length from nI_p1 _, cQv (show S.fl.length < 200 from hl) (by omega), Option.bind_some]
    rw [show cQ (uI (uI c 304 0 (cI c 304 0 + 1)) 303 0 (nI (S.fl.length + 1))) 300 0 S.fl.length = some (p S.fl.length) from (hp.1 _ hl).1, b2_, Option.bind_some]
    refine tr_gd (hp.1 _ hl).2.1 ?_
    have e7 : cI (uI (uI c 304 0 (cI c 304 0 + 1)) 303 0 (nI (S.fl.length + 1))) 700 r = nI r := by rw [uI_f _ _ _ (by decide), uI_f _ _ _ (by decide)]; exact e700
    rw [e7]
    rw [e_adr]
    refine tr_some ⟨p S.fl.length, rfl, (hp.1 _ hl).2.1, ?_⟩
    have q3 : cI (uI (uI c 304 0 (cI c 304 0 + 1)) 303 0 (nI (S.fl.length + 1))) 303 0 = nI (S.fl.length + 1) := uI_s _ _ _ _
    have q4 : cI (uI (uI c 304 0 (cI c 304 0 + 1)) 303 0 (nI (S.fl.length + 1))) 304 0 = nI (S.1 54 + 1) := by rw [uI_f _ _ _ (by decide), uI_s, a2, nI_add1]
    have q5 : cI (uI (uI c 304 0 (cI c 304 0 + 1)) 303 0 (nI (S.fl.length + 1))) 305 0 = cI c 305 0 := by rw [uI_f _ _ _ (by decide), uI_f _ _ _ (by decide)]
    have q6 : cI (uI (uI c 304 0 (cI c 304 0 + 1)) 303 0 (nI (S.fl.length + 1))) 306 0 = cI c 306 0 := by rw [uI_f _ _ _ (by decide), uI_f _ _ _ (by decide)]
    have z0 : zn (p S.fl.length) (uI (uI c 304 0 (cI c 304 0 + 1)) 303 0 (nI (S.fl.length + 1))) c := (zn_N (by decide)).tr (zn_N (by decide))
    generalize uI (uI c 304 0 (cI c 304 0 + 1)) 303 0 (nI (S.fl.length + 1)) = M at q3 q4 q5 q6 z0 ⊢
    dsimp only
    obtain ⟨_, _, _, _, _, _, _, _, _, _, a11, a12⟩ := adr_f M (p S.fl.length) (nI kd) (nI r) (nI t) (nI b) (nI s)
    have z1 := a12.tr z0
    refine ⟨z1.1, fun hk q td ro hq => ?_, fun hk => ?_, fun hk a k ha => ?_⟩
    · refine WC_snd1 h hp hl ((zn_I (by decide)).tr ((zn_P (by decide)).tr z1)) ?_ ?_ ?_ ?_ (FrA_q rfl hk hq)
      · rw [uI_f _ _ _ (by decide), uP_I]; exact (a11 303 (by decide) 0).trans q3
      · rw [uI_f _ _ _ (by decide), uP_I]; exact (a11 304 (by decide) 0).trans q4
      · rw [uI_f _ _ _ (by decide), uP_I]; exact (a11 305 (by decide) 0).trans q5
      · rw [uI_f _ _ _ (by decide), uP_I]; exact (a11 306 (by decide) 0).trans q6
    · exact WC_snd1 h hp hl z1 ((a11 303 (by decide) 0).trans q3) ((a11 304 (by decide) 0).trans q4) ((a11 305 (by decide) 0).trans q5) ((a11 306 (by decide) 0).trans q6) (FrA_0 rfl hk)
    · subst hk
      refine WC_snd1 h hp hl ((zn_I (by decide)).tr ((zn_P (by decide)).tr z1)) ?_ ?_ ?_ ?_ (FrA_8 rfl ha)
      · rw [uI_f _ _ _ (by decide), uP_I]; exact (a11 303 (by decide) 0).trans q3
      · rw [uI_f _ _ _ (by decide), uP_I]; exact (a11 304 (by decide) 0).trans q4
      · rw [uI_f _ _ _ (by decide), uP_I]; exact (a11 305 (by decide) 0).trans q5
      · rw [uI_f _ _ _ (by decide), uP_I]; exact (a11 306 (by decide) 0).trans q6
  · have hl' : S.fl.length = 200 := by omega
    rw [if_neg (show ¬ nI S.fl.length < (200 : Int32) from Int32.not_lt.mpr (nI_le (a := 200) (by omega) (by omega))), l1_, b2_, Option.bind_some]
    refine tr_gd (by decide) ?_
    have e7 : cI (uI (uI c 304 0 (cI c 304 0 + 1)) 305 0 (cI (uI c 304 0 (cI c 304 0 + 1)) 305 0 + 1)) 700 r = nI r := by rw [uI_f _ _ _ (by decide), uI_f _ _ _ (by decide)]; exact e700
    rw [e7]
    rw [e_adr]
    refine tr_some ⟨1, rfl, by decide, ?_⟩
    have q3 : cI (uI (uI c 304 0 (cI c 304 0 + 1)) 305 0 (cI (uI c 304 0 (cI c 304 0 + 1)) 305 0 + 1)) 303 0 = cI c 303 0 := by rw [uI_f _ _ _ (by decide), uI_f _ _ _ (by decide)]
    have q4 : cI (uI (uI c 304 0 (cI c 304 0 + 1)) 305 0 (cI (uI c 304 0 (cI c 304 0 + 1)) 305 0 + 1)) 304 0 = nI (S.1 54 + 1) := by rw [uI_f _ _ _ (by decide), uI_s, a2, nI_add1]
    have q5 : cI (uI (uI c 304 0 (cI c 304 0 + 1)) 305 0 (cI (uI c 304 0 (cI c 304 0 + 1)) 305 0 + 1)) 305 0 = nI (S.1 55 + 1) := by rw [uI_s, uI_f _ _ _ (by decide), a3, nI_add1]
    have q6 : cI (uI (uI c 304 0 (cI c 304 0 + 1)) 305 0 (cI (uI c 304 0 (cI c 304 0 + 1)) 305 0 + 1)) 306 0 = cI c 306 0 := by rw [uI_f _ _ _ (by decide), uI_f _ _ _ (by decide)]
    have z0 : zn 1 (uI (uI c 304 0 (cI c 304 0 + 1)) 305 0 (cI (uI c 304 0 (cI c 304 0 + 1)) 305 0 + 1)) c := (zn_N (by decide)).tr (zn_N (by decide))
    generalize uI (uI c 304 0 (cI c 304 0 + 1)) 305 0 (cI (uI c 304 0 (cI c 304 0 + 1)) 305 0 + 1) = M at q3 q4 q5 q6 z0 ⊢
    dsimp only
    obtain ⟨_, _, _, _, _, _, _, _, _, _, a11, a12⟩ := adr_f M 1 (nI kd) (nI r) (nI t) (nI b) (nI s)
    have z1 := a12.tr z0
    refine ⟨z1.1, fun hk q td ro hq => ?_, fun hk => ?_, fun hk a k ha => ?_⟩
    · refine WC_snd2 h hl' ((zn_I (by decide)).tr ((zn_P (by decide)).tr z1)) ?_ ?_ ?_ ?_
      · rw [uI_f _ _ _ (by decide), uP_I]; exact (a11 303 (by decide) 0).trans q3
      · rw [uI_f _ _ _ (by decide), uP_I]; exact (a11 304 (by decide) 0).trans q4
      · rw [uI_f _ _ _ (by decide), uP_I]; exact (a11 305 (by decide) 0).trans q5
      · rw [uI_f _ _ _ (by decide), uP_I]; exact (a11 306 (by decide) 0).trans q6
    · exact WC_snd2 h hl' z1 ((a11 303 (by decide) 0).trans q3) ((a11 304 (by decide) 0).trans q4) ((a11 305 (by decide) 0).trans q5) ((a11 306 (by decide) 0).trans q6)
    · refine WC_snd2 h hl' ((zn_I (by decide)).tr ((zn_P (by decide)).tr z1)) ?_ ?_ ?_ ?_
      · rw [uI_f _ _ _ (by decide), uP_I]; exact (a11 303 (by decide) 0).trans q3
      · rw [uI_f _ _ _ (by decide), uP_I]; exact (a11 304 (by decide) 0).trans q4
      · rw [uI_f _ _ _ (by decide), uP_I]; exact (a11 305 (by decide) 0).trans q5
      · rw [uI_f _ _ _ (by decide), uP_I]; exact (a11 306 (by decide) 0).trans q6
