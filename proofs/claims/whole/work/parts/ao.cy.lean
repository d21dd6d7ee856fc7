/-! ===== the class comes up ===== -/
theorem q_cu13 {ρ : Type} {N : Nat} {S : Sx} {r h : Nat} {kx : vC → Option ρ} {Q : ρ → Prop} (hC : Cx S) (hTW : TbW S.tb) (hh : h ≤ 1) : ∀ (l : List Nt) (k u fl i : Nat) (c : vC) (R : Rp), l.length < fl → i + l.length < 15872 → u + 206 * l.length ≤ 11000 → (∀ n, n ∈ l → NbOk n ∧ NtC n) → SfOk S R → rpA S R l → RuA c S r R u k → cI c 209 r = nI h → Dk (cJ c r) (y_hs h + u) (l.flatMap S.rec) → dk (cJ c r) (y_hs h + (u + (l.flatMap S.rec).length)) = 0 → dk (cJ c r) (y_hs h + (u + (l.flatMap S.rec).length) + 1) = 0 → (∀ c', ku r c' c → RuA c' S r (l.foldl (y_rep S) R) (u + (l.flatMap S.rec).length) (k + l.length) → tr (kx c') Q) → tr (L_X7_comeUp_13 N r kx fl c (nI i)) Q := by
  have hV1 : 1 ≤ S.V := hC.2.2.1
  have hL1 : 1 ≤ S.L := hC.2.2.2.2.1
  intro l
  induction l with
  | nil =>
    intro k u fl i c R h1 h2 h3 hN hs hp hR h9 hd z0 z1 K
    obtain ⟨fl, rfl⟩ : ∃ f', fl = f' + 1 := ⟨fl - 1, by have : 0 < fl := h1; omega⟩
    have h2' : i < 15872 := h2
    have h3' : u ≤ 11000 := h3
    rw [L_X7_comeUp_13, if_neg (show ¬ (15872 : Int32) ≤ nI i from nI_ge (b := 15872) h2' (by decide)), e_readEnd hh (by omega) h9 hR.2.2.2.2.1 z0 z1, b2_, if_pos rfl]
    exact K c ku.refl hR
  | cons n l ih =>
    intro k u fl i c R h1 h2 h3 hN hs hp hR h9 hd z0 z1 K
    rw [List.length_cons] at h1 h2 h3
    obtain ⟨fl, rfl⟩ : ∃ f', fl = f' + 1 := ⟨fl - 1, by omega⟩
    obtain ⟨hp1, hp2⟩ := hp
    obtain ⟨hn1, hn2⟩ := hN n (List.mem_cons_self ..)
    have hpl := pay_len (g := S.lg) (tb := S.tb) hC.tb hC.V hn1
    have hpl1 : (y_pay S.V S.tb S.sta n).length ≤ 198 := hpl.1
    have hpl2 : 1 ≤ (y_pay S.V S.tb S.sta n).length := hpl.2
    have hrl := rec_len hC hn1
    rw [List.flatMap_cons] at hd z0 z1 K
    rw [List.length_append] at z0 z1 K
    have hd1 : Dk (cJ c r) (y_hs h + u) (recL (y_pay S.V S.tb S.sta n)) := hd.a
    have hd2 := hd.b
    rw [L_X7_comeUp_13, if_neg (show ¬ (15872 : Int32) ≤ nI i from nI_ge (b := 15872) (by omega) (by decide)), e_readNext Bts.pay hpl2 hpl1 hh (by omega) h9 hR.2.2.2.2.1 hd1, b2_, if_neg (by decide), hR.2.2.2.2.2.1, nI_add1, nI_add1, show (recL (y_pay S.V S.tb S.sta n)).length = (S.rec n).length from rfl]
    have ku1 : ku r (uI (uI (sB (uI c 2 1 0) 1 (y_pay S.V S.tb S.sta n)) 207 r (nI (u + (S.rec n).length))) 206 r (nI (k + 1))) c := (ku_I (by decide)).tr ((ku_I (by decide)).tr (sk_B.ku.tr (sk_2 (by decide)).ku))
    have rd1 : rdA (uI (uI (sB (uI c 2 1 0) 1 (y_pay S.V S.tb S.sta n)) 207 r (nI (u + (S.rec n).length))) 206 r (nI (k + 1))) (y_pay S.V S.tb S.sta n) 0 := by
      refine rdA_I (rdA_I ⟨inB_sB (by omega) Bts.pay, ?_, by decide⟩ (by decide)) (by decide)
      rw [sB_I _ _ _ _ (by decide), uI_s]; rfl
    have RuB : RuA (sB (uI c 2 1 0) 1 (y_pay S.V S.tb S.sta n)) S r R u k := by
      refine RuA_s hR (sk_B.tr (sk_2 (by decide))) ?_ (fun _ _ _ _ => rfl)
      exact hR.2.2.2.1.c ((zc_B (r := r)).1.tr (zc_2 (r := r) (by decide)).1) (fun f a b => by rw [sB_I _ _ _ _ (by omega), uI_f _ _ _ (by omega)]) (fun f a b => funext fun j => by rw [sB_R _ _ _ _ _ (by omega)]; rfl) rfl rfl rfl rfl
    have Ru1 : RuA (uI (uI (sB (uI c 2 1 0) 1 (y_pay S.V S.tb S.sta n)) 207 r (nI (u + (S.rec n).length))) 206 r (nI (k + 1))) S r R (u + (S.rec n).length) (k + 1) := by
      generalize sB (uI c 2 1 0) 1 (y_pay S.V S.tb S.sta n) = cb at RuB
      obtain ⟨a1, a2, a3, a4, a5, a6, a7, a8, a9⟩ := RuB
      have z : zc r (uI (uI cb 207 r (nI (u + (S.rec n).length))) 206 r (nI (k + 1))) cb := (zc_I rfl).tr (zc_I rfl)
      have eo : ∀ f, f ≠ 206 → f ≠ 207 → cI (uI (uI cb 207 r (nI (u + (S.rec n).length))) 206 r (nI (k + 1))) f r = cI cb f r := fun f x y => by rw [uI_f _ _ _ x, uI_f _ _ _ y]
      exact ⟨(eo 712 (by decide) (by decide)).trans a1, a2.c z.1, fun x => (eo 714 (by decide) (by decide)).trans (a3 x), a4.c z.1 (fun f _ _ => eo f (by omega) (by omega)) (fun _ _ _ => rfl) rfl rfl rfl rfl, by rw [uI_f _ _ _ (by decide), uI_s], uI_s _ _ _ _, a7, (eo 1000 (by decide) (by decide)).trans a8, (eo 1001 (by decide) (by decide)).trans a9⟩
    generalize uI (uI (sB (uI c 2 1 0) 1 (y_pay S.V S.tb S.sta n)) 207 r (nI (u + (S.rec n).length))) 206 r (nI (k + 1)) = c1 at ku1 rd1 Ru1 ⊢
    refine tr_bind (c_replay hC hTW rd1 Ru1 hs hp1 hn2) fun c2 hc2 => ?_
    obtain ⟨ku2, Ru2⟩ := hc2
    have ku3 := ku2.tr ku1
    have eJ : cJ c2 r = cJ c r := ku3.2.2.2.2.2
    have e9 : cI c2 209 r = nI h := (ku3.2.1 209 (by decide) (by decide) (by decide) (by decide) (by decide) (by decide) (by decide) (by decide) (by decide)).trans h9
    rw [← eJ] at hd2 z0 z1
    have hd3 : Dk (cJ c2 r) (y_hs h + (u + (S.rec n).length)) (l.flatMap S.rec) := by rw [← Nat.add_assoc]; exact hd2
    refine ih (k + 1) (u + (S.rec n).length) fl (i + 1) c2 (y_rep S R n) (by omega) (by omega) (by omega) (fun m hm => hN m (List.mem_cons_of_mem _ hm)) (SfOk_rep hV1 hL1 hs hp1) hp2 Ru2 e9 hd3 (by rw [Nat.add_assoc u]; exact z0) (by rw [Nat.add_assoc u]; exact z1) fun c3 ku4 Ru4 => K c3 (ku4.tr ku3) ?_
    rw [List.length_cons, show u + ((S.rec n).length + (l.flatMap S.rec).length) = u + (S.rec n).length + (l.flatMap S.rec).length by omega, show k + (l.length + 1) = k + 1 + l.length by omega]
    exact Ru4
/-- a replica with nothing but its store -/
def fgE (c : vC) (r : Nat) : vC := uI (uI (uP (uI (uI (uP (uI (uP (uI (uI (uI (uI (uI (uI c 601 r 0) 501 r (-1)) 502 r 0) 503 r 0) 400 r 0) 401 r 0) 403 r none) 402 r 0) 404 r none) 405 r 0) 712 r 0) 713 r none) 714 r 0) 716 r 0
theorem e_fg {N : Nat} {c : vC} {r : Nat} : ((F_X6_clear N c r).bind fun M2 => (F_X5_drop N M2 r).bind fun M3 => (F_X4_follow N M3 r).bind fun M4 => lt1 (uI M4 712 r ((0 : Int32))) fun M5 => lt1 (uP M5 713 r none) fun M6 => lt1 (uI M6 714 r ((0 : Int32))) fun M7 => lt1 (uI M7 716 r ((0 : Int32))) fun M8 => some M8) = some (fgE c r) := by
  unfold F_X6_clear F_X5_drop F_X4_follow F_X4_dropProposed fgE
  rfl
theorem uI_P (c : vC) (f i : Nat) (v : Int32) (g j : Nat) : cP (uI c f i v) g j = cP c g j := rfl
theorem fgE_f (c : vC) (r : Nat) : cI (fgE c r) 601 r = 0 ∧ cI (fgE c r) 501 r = -1 ∧ cI (fgE c r) 502 r = 0 ∧ cI (fgE c r) 400 r = 0 ∧ cI (fgE c r) 401 r = 0 ∧ cI (fgE c r) 402 r = 0 ∧ cI (fgE c r) 405 r = 0 ∧ cI (fgE c r) 712 r = 0 ∧ cI (fgE c r) 716 r = 0 ∧ cP (fgE c r) 403 r = none ∧ cP (fgE c r) 404 r = none ∧ cP (fgE c r) 713 r = none ∧ (∀ f, f < 300 ∨ 717 ≤ f ∨ f = 700 ∨ f = 701 ∨ f = 702 ∨ f = 711 → cI (fgE c r) f r = cI c f r) ∧ zc r (fgE c r) c := by
  unfold fgE
  refine ⟨?_, ?_, ?_, ?_, ?_, ?_, ?_, ?_, ?_, ?_, ?_, ?_, fun f hf => ?_, ?_⟩
  · rw [uI_f _ _ _ (by decide), uI_f _ _ _ (by decide), uP_I, uI_f _ _ _ (by decide), uI_f _ _ _ (by decide), uP_I, uI_f _ _ _ (by decide), uP_I, uI_f _ _ _ (by decide), uI_f _ _ _ (by decide), uI_f _ _ _ (by decide), uI_f _ _ _ (by decide), uI_f _ _ _ (by decide), uI_s]
  · rw [uI_f _ _ _ (by decide), uI_f _ _ _ (by decide), uP_I, uI_f _ _ _ (by decide), uI_f _ _ _ (by decide), uP_I, uI_f _ _ _ (by decide), uP_I, uI_f _ _ _ (by decide), uI_f _ _ _ (by decide), uI_f _ _ _ (by decide), uI_f _ _ _ (by decide), uI_s]
  · rw [uI_f _ _ _ (by decide), uI_f _ _ _ (by decide), uP_I, uI_f _ _ _ (by decide), uI_f _ _ _ (by decide), uP_I, uI_f _ _ _ (by decide), uP_I, uI_f _ _ _ (by decide), uI_f _ _ _ (by decide), uI_f _ _ _ (by decide), uI_s]
  · rw [uI_f _ _ _ (by decide), uI_f _ _ _ (by decide), uP_I, uI_f _ _ _ (by decide), uI_f _ _ _ (by decide), uP_I, uI_f _ _ _ (by decide), uP_I, uI_f _ _ _ (by decide), uI_s]
  · rw [uI_f _ _ _ (by decide), uI_f _ _ _ (by decide), uP_I, uI_f _ _ _ (by decide), uI_f _ _ _ (by decide), uP_I, uI_f _ _ _ (by decide), uP_I, uI_s]
  · rw [uI_f _ _ _ (by decide), uI_f _ _ _ (by decide), uP_I, uI_f _ _ _ (by decide), uI_f _ _ _ (by decide), uP_I, uI_s]
  · rw [uI_f _ _ _ (by decide), uI_f _ _ _ (by decide), uP_I, uI_f _ _ _ (by decide), uI_s]
  · rw [uI_f _ _ _ (by decide), uI_f _ _ _ (by decide), uP_I, uI_s]
  · rw [uI_s]
  · rw [uI_P, uI_P, uP_f _ _ _ (by decide), uI_P, uI_P, uP_f _ _ _ (by decide), uI_P, uP_s]
  · rw [uI_P, uI_P, uP_f _ _ _ (by decide), uI_P, uI_P, uP_s]
  · rw [uI_P, uI_P, uP_s]
  · rw [uI_f _ _ _ (by omega), uI_f _ _ _ (by omega), uP_I, uI_f _ _ _ (by omega), uI_f _ _ _ (by omega), uP_I, uI_f _ _ _ (by omega), uP_I, uI_f _ _ _ (by omega), uI_f _ _ _ (by omega), uI_f _ _ _ (by omega), uI_f _ _ _ (by omega), uI_f _ _ _ (by omega), uI_f _ _ _ (by omega)]
  · exact (zc_I rfl).tr ((zc_I rfl).tr ((zc_P rfl).tr ((zc_I rfl).tr ((zc_I rfl).tr ((zc_P rfl).tr ((zc_I rfl).tr ((zc_P rfl).tr ((zc_I rfl).tr ((zc_I rfl).tr ((zc_I rfl).tr ((zc_I rfl).tr ((zc_I rfl).tr (zc_I rfl)))))))))))))
def sm (a b : vC) : Prop := cR a = cR b ∧ cQ a = cQ b ∧ cJ a = cJ b ∧ cK a = cK b ∧ cz a = cz b
theorem sm.tr {a b c : vC} (h : sm a b) (g : sm b c) : sm a c := ⟨h.1.trans g.1, h.2.1.trans g.2.1, h.2.2.1.trans g.2.2.1, h.2.2.2.1.trans g.2.2.2.1, h.2.2.2.2.trans g.2.2.2.2⟩
theorem sm_I (c : vC) (f i : Nat) (v : Int32) : sm (uI c f i v) c := ⟨rfl, rfl, rfl, rfl, rfl⟩
theorem sm_P (c : vC) (f i : Nat) (v : Option Nat) : sm (uP c f i v) c := ⟨rfl, rfl, rfl, rfl, rfl⟩
theorem fgE_o (c : vC) (r : Nat) : sm (fgE c r) c := by
  unfold fgE
  exact (sm_I _ _ _ _).tr ((sm_I _ _ _ _).tr ((sm_P _ _ _ _).tr ((sm_I _ _ _ _).tr ((sm_I _ _ _ _).tr ((sm_P _ _ _ _).tr ((sm_I _ _ _ _).tr ((sm_P _ _ _ _).tr ((sm_I _ _ _ _).tr ((sm_I _ _ _ _).tr ((sm_I _ _ _ _).tr ((sm_I _ _ _ _).tr ((sm_I _ _ _ _).tr (sm_I _ _ _ _)))))))))))))
