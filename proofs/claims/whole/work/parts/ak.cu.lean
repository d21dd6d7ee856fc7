/-! ===== the class reads a request again ===== -/
/-- nothing but new objects and where the payload is read -/
def kq (c' c : vC) : Prop := ze c' c ∧ (∀ f i, 100 ≤ f → ¬ (800 ≤ f ∧ f < 900) → cI c' f i = cI c f i) ∧ (∀ f i, f ≠ 805 → cP c' f i = cP c f i) ∧ cR c' = cR c ∧ cJ c' = cJ c ∧ cQ c' = cQ c
theorem kq.tr {a b c : vC} (h : kq a b) (g : kq b c) : kq a c := by
  obtain ⟨h1, h2, h3, h4, h5, h6⟩ := h
  obtain ⟨g1, g2, g3, g4, g5, g6⟩ := g
  exact ⟨h1.tr g1, fun f i a b => (h2 f i a b).trans (g2 f i a b), fun f i a => (h3 f i a).trans (g3 f i a), h4.trans g4, h5.trans g5, h6.trans g6⟩
theorem kq_p {c : vC} {v : Int32} : kq (uI c 2 1 v) c := ⟨ze_s rfl rfl rfl rfl (fun g a b => funext fun j => uI_f _ _ _ (by omega)) rfl, fun f i a _ => uI_f _ _ _ (by omega), fun _ _ _ => rfl, rfl, rfl, rfl⟩
theorem kq.sk {c' c : vC} (h : kq c' c) (r : Nat) : sk r c' c := by
  obtain ⟨h1, h2, h3, h4, h5, h6⟩ := h
  exact ⟨⟨h1, fun f i a b _ => h2 f i a b, fun f i a _ => h3 f i a, fun f i _ _ => by rw [h4], fun i _ => by rw [h5], fun f i _ => by rw [h6]⟩, fun f _ _ _ a b => h2 f r a b, fun f a => h3 f r a, fun f _ _ => by rw [h4], fun f _ => by rw [h6], by rw [h5]⟩
theorem q_r39 {ρ : Type} {N v : Nat} {l : List Nat} {l1 l2 l3 l4 wr : Int32} {vs : Nat → Int32} {kx : vC → Option ρ} {Q : ρ → Prop} {c0 : vC} (hk : cK c0 v = 21) (hn16 : cN c0 v = 16) : ∀ (d k n fl : Nat) (c : vC), k + d = 16 → d < fl → rdA c l n → n + 4 * d < 4000 → Dr l n ((List.range' k d).flatMap (encV wr vs)) → cK c = cK c0 → cN c = cN c0 → cz c = cz c0 → cP c = cP c0 → cR c = cR c0 → cJ c = cJ c0 → cQ c = cQ c0 → (∀ f, 100 ≤ f → ∀ i, cI c f i = cI c0 f i) → (∀ a, a ≠ v → cD c a = cD c0 a) → (∀ j, j < k → ((wr >>> (nI j &&& 31)) &&& (1 : Int32)) = (1 : Int32) → cD c v j = vs j) → (∀ c', cK c' = cK c0 → cN c' = cN c0 → cz c' = cz c0 → cP c' = cP c0 → cR c' = cR c0 → cJ c' = cJ c0 → cQ c' = cQ c0 → (∀ f, 100 ≤ f → ∀ i, cI c' f i = cI c0 f i) → (∀ a, a ≠ v → cD c' a = cD c0 a) → (∀ j, j < 16 → ((wr >>> (nI j &&& 31)) &&& (1 : Int32)) = (1 : Int32) → cD c' v j = vs j) → tr (kx c') Q) → tr (L_X8_takeFrom_39 N 1 l1 l2 l3 l4 wr v kx fl c (nI k)) Q := by
  intro d
  induction d with
  | zero =>
    intro k n fl c h1 h2 hr hn hd e1 e2 e3 e4 e5 e6 e7 e8 e9 g K
    obtain ⟨fl, rfl⟩ : ∃ f', fl = f' + 1 := ⟨fl - 1, by omega⟩
    obtain rfl : k = 16 := by omega
    rw [L_X8_takeFrom_39, if_pos (show (16 : Int32) ≤ nI 16 from nI_le (Nat.le_refl 16) (by decide))]
    exact K c e1 e2 e3 e4 e5 e6 e7 e8 e9 g
  | succ d ih =>
    intro k n fl c h1 h2 hr hn hd e1 e2 e3 e4 e5 e6 e7 e8 e9 g K
    obtain ⟨fl, rfl⟩ : ∃ f', fl = f' + 1 := ⟨fl - 1, by omega⟩
    rw [fm_c] at hd
    rw [L_X8_takeFrom_39, if_neg (show ¬ (16 : Int32) ≤ nI k from nI_ge (b := 16) (by omega) (by decide))]
    by_cases cb : ((wr >>> (nI k &&& 31)) &&& (1 : Int32)) = (1 : Int32)
    · have eE : encV wr vs k = be4 (vs k) := if_pos cb
      rw [eE] at hd
      have eds : dS (uI c 2 1 (nI (n + 4))) v (nI k) (vs k) = some (uD (uI c 2 1 (nI (n + 4))) v k (vs k)) := by
        unfold dS
        rw [nIt (show k < 2 ^ 31 by omega), if_neg]
        rintro (q | q | q)
        · exact q (by show cK c v = 21; rw [e1]; exact hk)
        · exact nIn (show k < 2 ^ 31 by omega) q
        · have : cN c v ≤ k := q
          rw [e2, hn16] at this
          omega
      rw [isInT cb, b2_, if_neg (by decide), e_takeFour (v := vs k) hr (by omega) hd.a, b2_, eds, Option.bind_some, nI_add1]
      refine ih (k + 1) (n + 4) fl _ (by omega) (by omega) (rdA_D (rdA_u (m := n + 4) hr (by omega)) (fun _ _ _ => rfl) rfl) (by omega) hd.b e1 e2 e3 e4 e5 e6 e7 (fun f hf i => (uI_f _ _ _ (by omega)).trans (e8 f hf i)) (fun a ha => ?_) (fun j hj hb => ?_) K
      · rw [← e9 a ha]
        exact funext fun x => vi_u2v _ _ _ _ (fun q => ha q.1)
      · by_cases ej : j = k
        · subst ej; exact vi_u2s _ _ _ _
        · exact (vi_u2v _ _ _ _ (fun q => ej q.2)).trans (g j (by omega) hb)
    · have eE : encV wr vs k = [] := if_neg cb
      rw [eE, List.nil_append] at hd
      rw [isInF cb, b2_, if_pos rfl, nI_add1]
      refine ih (k + 1) n fl c (by omega) (by omega) hr (by omega) hd e1 e2 e3 e4 e5 e6 e7 e8 e9 (fun j hj hb => ?_) K
      by_cases ej : j = k
      · subst ej; exact absurd hb cb
      · exact g j (by omega) hb
def ini (M : vC) (a : Nat) (a1 a2 a3 a4 a5 : Int32) (a6 : Option Nat) : vC := uP (uI (uI (uI (uI (uI M 800 a a1) 801 a a2) 802 a a3) 803 a a4) 804 a a5) 805 a a6
theorem e_init {N : Nat} {M : vC} {a : Nat} {a1 a2 a3 a4 a5 : Int32} {a6 : Option Nat} (hk : cK M a = 9) : F_X8_init N M a a1 a2 a3 a4 a5 a6 = some (ini M a a1 a2 a3 a4 a5 a6) := by
  unfold F_X8_init ini
  have k : ∀ (c : vC) (f i : Nat) (v : Int32), cK (uI c f i v) = cK c := fun _ _ _ _ => rfl
  rw [gd_ hk, l1_, gd_ (by rw [k]; exact hk), l1_, gd_ (by rw [k, k]; exact hk), l1_, gd_ (by rw [k, k, k]; exact hk), l1_, gd_ (by rw [k, k, k, k]; exact hk), l1_, gd_ (by rw [k, k, k, k, k]; exact hk), l1_]
theorem ini_f (M : vC) (a : Nat) (a1 a2 a3 a4 a5 : Int32) (a6 : Option Nat) : cI (ini M a a1 a2 a3 a4 a5 a6) 800 a = a1 ∧ cI (ini M a a1 a2 a3 a4 a5 a6) 801 a = a2 ∧ cI (ini M a a1 a2 a3 a4 a5 a6) 802 a = a3 ∧ cI (ini M a a1 a2 a3 a4 a5 a6) 803 a = a4 ∧ cI (ini M a a1 a2 a3 a4 a5 a6) 804 a = a5 ∧ cP (ini M a a1 a2 a3 a4 a5 a6) 805 a = a6 ∧ (∀ f i, ¬ (800 ≤ f ∧ f < 900) → cI (ini M a a1 a2 a3 a4 a5 a6) f i = cI M f i) ∧ (∀ f i, i ≠ a → cI (ini M a a1 a2 a3 a4 a5 a6) f i = cI M f i) ∧ (∀ f i, f ≠ 805 ∨ i ≠ a → cP (ini M a a1 a2 a3 a4 a5 a6) f i = cP M f i) := by
  unfold ini
  refine ⟨?_, ?_, ?_, ?_, ?_, uP_s _ _ _ _, fun f i hf => ?_, fun f i hi => ?_, fun f i h => ?_⟩
  · rw [uP_I, uI_f _ _ _ (by decide), uI_f _ _ _ (by decide), uI_f _ _ _ (by decide), uI_f _ _ _ (by decide), uI_s]
  · rw [uP_I, uI_f _ _ _ (by decide), uI_f _ _ _ (by decide), uI_f _ _ _ (by decide), uI_s]
  · rw [uP_I, uI_f _ _ _ (by decide), uI_f _ _ _ (by decide), uI_s]
  · rw [uP_I, uI_f _ _ _ (by decide), uI_s]
  · rw [uP_I, uI_s]
  · rw [uP_I, uI_f _ _ _ (by omega), uI_f _ _ _ (by omega), uI_f _ _ _ (by omega), uI_f _ _ _ (by omega), uI_f _ _ _ (by omega)]
  · rw [uP_I, uI_o _ _ (fun q => hi q.2), uI_o _ _ (fun q => hi q.2), uI_o _ _ (fun q => hi q.2), uI_o _ _ (fun q => hi q.2), uI_o _ _ (fun q => hi q.2)]
  · exact vi_u2v _ _ _ _ (fun q => by rcases h with h | h; exact h q.1; exact h q.2)
theorem c_takeReq {N : Nat} {c : vC} {tb : Nat → Rq} {q n : Nat} {l : List Nat} (ht : TbOk tb) (hw : TbW tb) (hr : rdA c l n) (hn : n < 100) (hd : Dr l n (encQ (tb q))) (hz : ∀ a, cz c ≤ a → cK c a = 0) : tr (F_X8_takeFrom N c 1) (fun p => ∃ a, p.2 = some a ∧ RqA p.1 a (tb q) ∧ kq p.1 c) := by
  obtain ⟨t1, t2, t3⟩ := ht q
  obtain ⟨⟨wr3, x3, y3⟩, ⟨wr4, x4, y4⟩⟩ := hw q
  have u1 := encU_len (n := (tb q).1 1) (by omega)
  have u2 := encU_len (n := (tb q).1 2) (by omega)
  have hd' : Dr l n (by8 (nI ((tb q).1 0)) :: (encU ((tb q).1 1) ++ (encU ((tb q).1 2) ++ (be2 ((tb q).2.1 3) ++ (be2 ((tb q).2.1 4) ++ (List.range' 0 16).flatMap (encV ((tb q).2.1 4) (tb q).2.2)))))) := hd
  have hb0 := hd'.hd
  rw [by8_n (by omega)] at hb0
  unfold F_X8_takeFrom
  have r1 := rdA_u (m := n + 1) hr (by omega)
  have d1 := hd'.tl
  have r2 := rdA_u (m := n + 1 + (encU ((tb q).1 1)).length) hr (by omega)
  have r3 := rdA_u (m := n + 1 + (encU ((tb q).1 1)).length + (encU ((tb q).1 2)).length) hr (by omega)
  have r4 := rdA_u (m := n + 1 + (encU ((tb q).1 1)).length + (encU ((tb q).1 2)).length + 2) hr (by omega)
  have r5 := rdA_u (m := n + 1 + (encU ((tb q).1 1)).length + (encU ((tb q).1 2)).length + 2 + 2) hr (by omega)
  have d3 := d1.b.b.a
  rw [y3] at d3
  have d4 : Dr l (n + 1 + (encU ((tb q).1 1)).length + (encU ((tb q).1 2)).length + 2) (be2 ((tb q).2.1 4)) := d1.b.b.b.a
  rw [y4] at d4
  have d5 : Dr l (n + 1 + (encU ((tb q).1 1)).length + (encU ((tb q).1 2)).length + 2 + 2) ((List.range' 0 16).flatMap (encV ((tb q).2.1 4) (tb q).2.2)) := d1.b.b.b.b
  rw [e_take hr, b2_, hb0, e_takeU r1 (by omega) (by omega) d1.a, b2_, uI_uI, e_takeU r2 (by omega) (by omega) d1.b.a, b2_, uI_uI, e_takeTwo r3 (by omega) x3 d3, b2_, uI_uI, e_takeTwo r4 (by omega) x4 d4, b2_, uI_uI, l1_, ← y3, ← y4, show nI ((tb q).1 0) &&& (15 : Int32) = nI ((tb q).1 0) from by rw [show nI ((tb q).1 0) &&& (15 : Int32) = nI ((tb q).1 0 &&& 15) from nI_and (b := 15), show (tb q).1 0 &&& 15 = (tb q).1 0 % 16 from Nat.and_two_pow_sub_one_eq_mod _ 4, Nat.mod_eq_of_lt t1]]
  have k1 : kq (uI c 2 1 (nI (n + 1 + (encU ((tb q).1 1)).length + (encU ((tb q).1 2)).length + 2 + 2))) c := kq_p
  have hz1 : ∀ a, cz (uI c 2 1 (nI (n + 1 + (encU ((tb q).1 1)).length + (encU ((tb q).1 2)).length + 2 + 2))) ≤ a → cK (uI c 2 1 (nI (n + 1 + (encU ((tb q).1 1)).length + (encU ((tb q).1 2)).length + 2 + 2))) a = 0 := hz
  generalize uI c 2 1 (nI (n + 1 + (encU ((tb q).1 1)).length + (encU ((tb q).1 2)).length + 2 + 2)) = c1 at r5 k1 hz1 ⊢
  have kK : cK (nD c1 21 16) (cz c1) = 21 := va_up_self _ _ _
  have kN : cN (nD c1 21 16) (cz c1) = 16 := va_up_self _ _ _
  refine q_r39 (c0 := nD c1 21 16) (vs := (tb q).2.2) kK kN 16 0 (n + 1 + (encU ((tb q).1 1)).length + (encU ((tb q).1 2)).length + 2 + 2) fu (nD c1 21 16) rfl (by decide) (rdA_D r5 (fun _ _ _ => rfl) rfl) (by omega) d5 rfl rfl rfl rfl rfl rfl rfl (fun _ _ _ => rfl) (fun _ _ => rfl) (fun j hj => absurd hj (Nat.not_lt_zero _)) fun c2 e1 e2 e3 e4 e5 e6 e7 e8 e9 g => ?_
  have z2 : cz c2 = cz c1 + 1 := e3
  have ze2 : ze c2 c1 := by
    refine ⟨by omega, fun a ha => ⟨by rw [e1]; exact va_up_ne _ _ (by omega), by rw [e2]; exact va_up_ne _ _ (by omega), by rw [e9 a (by omega)]; exact va_up_ne _ _ (by omega), fun f f1 f2 => e8 f (by omega) a, by rw [e4]; rfl⟩, fun h a ha => ?_⟩
    rw [e1]
    show va_up (cK c1) (cz c1) 21 a = 0
    rw [va_up_ne _ _ (by omega)]
    exact h a (by omega)
  have k2 : kq c2 c1 := ⟨ze2, fun f i a b => e8 f a i, fun f i a => by rw [e4]; rfl, e5.trans rfl, e6.trans rfl, e7.trans rfl⟩
  have hz2 : ∀ a, cz c2 ≤ a → cK c2 a = 0 := ze2.2.2 hz1
  refine tr_l1 ?_
  have kn : cK (nQ c2) (cz c2) = 9 := va_up_self _ _ _
  rw [gd_ kn, e_init kn, Option.bind_some]
  obtain ⟨i1, i2, i3, i4, i5, i6, i7, i8, i9⟩ := ini_f (nQ c2) (cz c2) (nI ((tb q).1 0)) (nI ((tb q).1 1)) (nI ((tb q).1 2)) ((tb q).2.1 3) ((tb q).2.1 4) (some (cz c1))
  have jK : cK (ini (nQ c2) (cz c2) (nI ((tb q).1 0)) (nI ((tb q).1 1)) (nI ((tb q).1 2)) ((tb q).2.1 3) ((tb q).2.1 4) (some (cz c1))) = cK (nQ c2) := rfl
  have jN : cN (ini (nQ c2) (cz c2) (nI ((tb q).1 0)) (nI ((tb q).1 1)) (nI ((tb q).1 2)) ((tb q).2.1 3) ((tb q).2.1 4) (some (cz c1))) = cN c2 := rfl
  have jD : cD (ini (nQ c2) (cz c2) (nI ((tb q).1 0)) (nI ((tb q).1 1)) (nI ((tb q).1 2)) ((tb q).2.1 3) ((tb q).2.1 4) (some (cz c1))) = cD c2 := rfl
  have jz : cz (ini (nQ c2) (cz c2) (nI ((tb q).1 0)) (nI ((tb q).1 1)) (nI ((tb q).1 2)) ((tb q).2.1 3) ((tb q).2.1 4) (some (cz c1))) = cz c2 + 1 := rfl
  have jR : cR (ini (nQ c2) (cz c2) (nI ((tb q).1 0)) (nI ((tb q).1 1)) (nI ((tb q).1 2)) ((tb q).2.1 3) ((tb q).2.1 4) (some (cz c1))) = cR c2 := rfl
  have jJ : cJ (ini (nQ c2) (cz c2) (nI ((tb q).1 0)) (nI ((tb q).1 1)) (nI ((tb q).1 2)) ((tb q).2.1 3) ((tb q).2.1 4) (some (cz c1))) = cJ c2 := rfl
  have jQ : cQ (ini (nQ c2) (cz c2) (nI ((tb q).1 0)) (nI ((tb q).1 1)) (nI ((tb q).1 2)) ((tb q).2.1 3) ((tb q).2.1 4) (some (cz c1))) = cQ c2 := rfl
  have nz := nQ_ze hz2
  have nI' : ∀ f i, ¬ (800 ≤ f ∧ f < 900) → cI (nQ c2) f i = cI c2 f i := fun f i hf => if_neg (fun q => hf ⟨q.2.1, q.2.2⟩)
  have nP' : ∀ f i, f ≠ 805 → cP (nQ c2) f i = cP c2 f i := fun f i hf => if_neg (fun q => hf q.2)
  have nK' : ∀ a, a ≠ cz c2 → cK (nQ c2) a = cK c2 a := fun a ha => va_up_ne _ _ ha
  generalize ini (nQ c2) (cz c2) (nI ((tb q).1 0)) (nI ((tb q).1 1)) (nI ((tb q).1 2)) ((tb q).2.1 3) ((tb q).2.1 4) (some (cz c1)) = c3 at i1 i2 i3 i4 i5 i6 i7 i8 i9 jK jN jD jz jR jJ jQ ⊢
  have ze3 : ze c3 c2 := by
    refine ⟨by omega, fun a ha => ?_, fun h a ha => ?_⟩
    · obtain ⟨b1, b2, b3, b4, b5⟩ := nz.2.1 a ha
      exact ⟨by rw [jK]; exact b1, by rw [jN], by rw [jD], fun f f1 f2 => (i8 f a (by omega)).trans (b4 f f1 f2), (i9 805 a (Or.inr (by omega))).trans b5⟩
    · rw [jK, nK' a (by omega)]
      exact h a (by omega)
  have k3 : kq c3 c2 := ⟨ze3, fun f i a b => (i7 f i b).trans (nI' f i b), fun f i a => (i9 f i (Or.inl a)).trans (nP' f i a), jR, jJ, jQ⟩
  refine tr_some ⟨cz c2, rfl, ⟨show cz c2 < cz c3 by omega, by rw [jK]; exact kn, i1, i2, i3, i4, i5, cz c1, i6, show cz c1 < cz c3 by omega, ?_, ?_, fun j hj hb => ?_⟩, k3.tr (k2.tr k1)⟩
  · rw [jK, nK' _ (by omega), e1]; exact kK
  · rw [jN, e2]; exact kN
  · rw [jD]; exact g j hj hb
