/-! ===== the class: notes ===== -/
theorem uI_sB (c : vC) (i : Nat) (l : List Nat) {f k : Nat} (v : Int32) (h : f ≠ 1) : uI (sB c i l) f k v = sB (uI c f k v) i l := by
  refine vC_ext (fun g j => ?_) rfl (fun _ _ _ => rfl) rfl rfl rfl rfl rfl rfl
  by_cases e : g = f ∧ j = k
  · obtain ⟨rfl, rfl⟩ := e
    rw [uI_s, sB_I _ _ _ _ h, uI_s]
  · rw [uI_o _ _ e]
    by_cases e1 : g = 1 ∧ j = i
    · obtain ⟨rfl, rfl⟩ := e1
      rw [sB_1, sB_1]
    · by_cases e2 : g = 1
      · rw [sB_I2 _ _ _ (fun q => e1 ⟨e2, q⟩), sB_I2 _ _ _ (fun q => e1 ⟨e2, q⟩), uI_o _ _ e]
      · rw [sB_I _ _ _ _ e2, sB_I _ _ _ _ e2, uI_o _ _ e]
theorem sB_cI (c : vC) (i : Nat) (l : List Nat) (f k : Nat) : cI (sB c i l) f k = if f = 1 ∧ k = i then nI l.length else cI c f k := rfl
theorem sB_cR (c : vC) (i : Nat) (l : List Nat) (f k j : Nat) : cR (sB c i l) f k j = if f = 0 ∧ k = i ∧ j < l.length then sb_b (byA l j) else cR c f k j := rfl
theorem sB_cmI (c : vC) {i k : Nat} (l p : List Nat) (h : i ≠ k) (g j : Nat) : cI (sB (sB c i l) k p) g j = cI (sB (sB c k p) i l) g j := by
  rw [sB_cI, sB_cI, sB_cI, sB_cI]
  by_cases e1 : g = 1 ∧ j = k
  · rw [if_pos e1, if_neg (fun q => h (q.2.symm.trans e1.2)), if_pos e1]
  · rw [if_neg e1, if_neg e1]
theorem sB_cmR (c : vC) {i k : Nat} (l p : List Nat) (h : i ≠ k) (g j x : Nat) : cR (sB (sB c i l) k p) g j x = cR (sB (sB c k p) i l) g j x := by
  rw [sB_cR, sB_cR, sB_cR, sB_cR]
  by_cases e1 : g = 0 ∧ j = k ∧ x < p.length
  · rw [if_pos e1, if_neg (fun q => h (q.2.1.symm.trans e1.2.1)), if_pos e1]
  · rw [if_neg e1, if_neg e1]
theorem sB_re (c : vC) (i : Nat) (l : List Nat) : cP (sB c i l) = cP c ∧ cJ (sB c i l) = cJ c ∧ cQ (sB c i l) = cQ c ∧ cK (sB c i l) = cK c ∧ cN (sB c i l) = cN c ∧ cD (sB c i l) = cD c ∧ cz (sB c i l) = cz c := ⟨rfl, rfl, rfl, rfl, rfl, rfl, rfl⟩
theorem sB_comm (c : vC) {i k : Nat} (l p : List Nat) (h : i ≠ k) : sB (sB c i l) k p = sB (sB c k p) i l := by
  obtain ⟨a1, a2, a3, a4, a5, a6, a7⟩ := sB_re c i l
  obtain ⟨b1, b2, b3, b4, b5, b6, b7⟩ := sB_re (sB c i l) k p
  obtain ⟨d1, d2, d3, d4, d5, d6, d7⟩ := sB_re c k p
  obtain ⟨e1, e2, e3, e4, e5, e6, e7⟩ := sB_re (sB c k p) i l
  exact vC_ext (sB_cmI c l p h) (by rw [b1, a1, e1, d1]) (sB_cmR c l p h) (by rw [b2, a2, e2, d2]) (by rw [b3, a3, e3, d3]) (by rw [b4, a4, e4, d4]) (by rw [b5, a5, e5, d5]) (by rw [b6, a6, e6, d6]) (by rw [b7, a7, e7, d7])
theorem byA_app {l : List Nat} {n : Nat} (h : ∀ x, x < n → True) (k : Nat) : byA (l ++ [0, 0]) k = byA l k := by
  unfold byA
  by_cases e : k < l.length
  · rw [List.getD_eq_getElem?_getD, List.getD_eq_getElem?_getD, List.getElem?_append_left e]
  · rw [List.getD_eq_getElem?_getD, List.getD_eq_getElem?_getD, List.getElem?_append_right (by omega), List.getElem?_eq_none (show l.length ≤ k by omega)]
    match k - l.length with
    | 0 => rfl
    | 1 => rfl
    | j + 2 => rfl
/-- fields of a journal that do not count -/
theorem WC_20 {mm : Kp} {c : vC} {S : Sx} {r f : Nat} {v : Int32} {R : Rp} (h : WC mm c (S.set r R)) (hf : f = 202 ∨ f = 203) : WC mm (uI c f r v) (S.set r R) := by
  have hr' : rpf f = true := by rcases hf with rfl | rfl <;> rfl
  have z : zc r (uI c f r v) c := zc_I hr'
  have eo : ∀ k, k ≠ f → cI (uI c f r v) k r = cI c k r := fun k hk => uI_f _ _ _ hk
  have es : ∀ k g, sci k = some g → k ≠ f := fun k g hk e => by
    rcases hf with rfl | rfl
    · subst e; cases hk
    · subst e; cases hk
  have ea : ∀ k g, sca k = some g → k ≠ f := fun k g hk e => by
    rcases hf with rfl | rfl
    · subst e; cases hk
    · subst e; cases hk
  refine WC_zc h z (fun hr => ?_) (fun hr h6 => ?_)
  · obtain ⟨⟨a1, a2, a3, a4, a5⟩, b, d⟩ := (WC_a h hr).1
    exact ⟨⟨by rw [eo _ (by omega)]; exact a1, by rw [eo _ (by omega)]; exact a2, by rw [eo _ (by omega)]; exact a3, by rw [eo _ (by omega)]; exact a4, by rw [eo _ (by omega)]; exact a5⟩, fun k j hk => by rw [eo k (ea k j hk)]; exact b k j hk, d⟩
  · obtain ⟨w1, w2, w3, w4, w5, w6, w7⟩ := (WC_a h hr).2 h6
    exact ⟨fun k j hk => by rw [eo k (es k j hk)]; exact w1 k j hk, fun k j hk => (w2 k j hk).c z.1, fun x => by rw [eo _ (by omega)]; exact w3 x, by rw [eo _ (by omega)]; exact w4, w5.c z.1 (eo _ (by omega)) rfl rfl rfl, w6.c (fun k k1 k2 => eo _ (by omega)) rfl rfl rfl rfl, w7.c z.1 (fun k k1 k2 => eo _ (by omega)) (fun _ _ _ => rfl) rfl rfl rfl rfl⟩
/-- the number of notes -/
theorem WC_nt {mm : Kp} {c : vC} {S : Sx} {r : Nat} {R : Rp} {l : List Nt} (h : WC mm c (S.set r R)) : WC mm (uI c 206 r (nI l.length)) (S.set r (R.n l)) := by
  have z : zc r (uI c 206 r (nI l.length)) c := zc_I rfl
  have eo : ∀ k, k ≠ 206 → cI (uI c 206 r (nI l.length)) k r = cI c k r := fun k hk => uI_f _ _ _ hk
  refine WC_zc h z (fun hr => ?_) (fun hr h6 => ?_)
  · obtain ⟨⟨a1, a2, a3, a4, a5⟩, b, d⟩ := (WC_a h hr).1
    exact ⟨⟨by rw [eo _ (by decide)]; exact a1, by rw [eo _ (by decide)]; exact a2, by rw [eo _ (by decide)]; exact a3, by rw [eo _ (by decide)]; exact a4, by rw [eo _ (by decide)]; exact a5⟩, fun k j hk => by rw [eo k (fun e => by subst e; cases hk)]; exact b k j hk, d⟩
  · obtain ⟨w1, w2, w3, w4, w5, w6, w7⟩ := (WC_a h hr).2 h6
    exact ⟨fun k j hk => by rw [eo k (fun e => by subst e; cases hk)]; exact w1 k j hk, fun k j hk => (w2 k j hk).c z.1, fun x => by rw [eo _ (by decide)]; exact w3 x, uI_s _ _ _ _, w5.c z.1 (eo _ (by decide)) rfl rfl rfl, w6.c (fun k k1 k2 => eo _ (by omega)) rfl rfl rfl rfl, w7.c z.1 (fun k k1 k2 => eo _ (by omega)) (fun _ _ _ => rfl) rfl rfl rfl rfl⟩
/-- disk, blocks written, the crash that is due -/
theorem WC_al {mm : Kp} {c c' : vC} {S : Sx} {r : Nat} {R R' : Rp} (h : WC mm c (S.set r R)) (z : zc r c' c) (eI : ∀ k, k ≠ 204 → k ≠ 205 → cI c' k r = cI c k r) (eP : cP c' = cP c) (eR : ∀ f, f ≠ 0 → cR c' f r = cR c f r) (eQ : cQ c' = cQ c) (e4 : cI c' 204 r = nI (R'.1 34)) (e5 : cI c' 205 r = nI (R'.1 35)) (ed : ∀ a, a < 32768 → dk (cJ c' r) a = R'.2.2.2 a) (f1 : ∀ f, f ≠ 34 → f ≠ 35 → R'.1 f = R.1 f) (f2 : R'.2.1 = R.2.1) (f3 : R'.2.2.1 = R.2.2.1) : WC mm c' (S.set r R') := by
  refine WC_zc h z (fun hr => ?_) (fun hr h6 => ?_)
  · obtain ⟨⟨a1, a2, a3, a4, a5⟩, b, d⟩ := (WC_a h hr).1
    refine ⟨⟨by rw [eI _ (by decide) (by decide)]; exact a1, by rw [eI _ (by decide) (by decide)]; exact a2, by rw [eI _ (by decide) (by decide)]; exact a3, by rw [eI _ (by decide) (by decide)]; exact a4, by rw [eI _ (by decide) (by decide)]; exact a5⟩, fun k j hk => ?_, ed⟩
    by_cases q4 : k = 204
    · subst q4; injection hk with hk; subst hk; exact e4
    · by_cases q5 : k = 205
      · subst q5; injection hk with hk; subst hk; exact e5
      · rw [eI k q4 q5, b k j hk]
        congr 1
        refine (f1 j ?_ ?_).symm
        · intro q; subst q
          unfold sca at hk
          split at hk <;> first | exact q4 rfl | (injection hk with hk; omega) | (cases hk; done)
        · intro q; subst q
          unfold sca at hk
          split at hk <;> first | exact q5 rfl | (injection hk with hk; omega) | (cases hk; done)
  · have h6' : R.1 6 = 1 := by rw [← f1 6 (by decide) (by decide)]; exact h6
    obtain ⟨w1, w2, w3, w4, w5, w6, w7⟩ := (WC_a h hr).2 h6'
    refine ⟨fun k j hk => ?_, fun k j hk => ?_, fun x => ?_, ?_, w5.c z.1 (eI _ (by decide) (by decide)) (by rw [eQ]) f2 rfl, w6.c (fun k k1 k2 => eI _ (by omega) (by omega)) (eR 500 (by decide)) (f1 43 (by decide) (by decide)) (f1 44 (by decide) (by decide)) rfl, w7.c z.1 (fun k k1 k2 => eI _ (by omega) (by omega)) (fun f a b => eR f (by omega)) (by rw [eQ]) (f1 7 (by decide) (by decide)) (f1 8 (by decide) (by decide)) (f1 9 (by decide) (by decide))⟩
    · have := (sci_r hk).2.2.2.2.2.2.1
      rw [eI k (fun e => by subst e; cases hk) (fun e => by subst e; cases hk), w1 k j hk, f1 j (by omega) (by omega)]
    · have := (pci_r hk).2.1
      rw [eP, f1 j (by omega) (by omega)]; exact (w2 k j hk).c z.1
    · rw [f1 12 (by decide) (by decide)] at x
      rw [eI _ (by decide) (by decide), f1 11 (by decide) (by decide)]; exact w3 x
    · rw [eI _ (by decide) (by decide), f3]; exact w4
/-- all rows in which bytes are made are as they were -/
def bk (c' c : vC) : Prop := (∀ f, f < 100 → ∀ i, cI c' f i = cI c f i) ∧ ∀ i j, cR c' 0 i j = cR c 0 i j
theorem bk.refl {c : vC} : bk c c := ⟨fun _ _ _ => rfl, fun _ _ => rfl⟩
theorem bk.tr {a b c : vC} (h : bk a b) (g : bk b c) : bk a c := ⟨fun f hf i => (h.1 f hf i).trans (g.1 f hf i), fun i j => (h.2 i j).trans (g.2 i j)⟩
theorem bk_I {c : vC} {f i : Nat} {v : Int32} (h : 100 ≤ f) : bk (uI c f i v) c := ⟨fun g hg j => uI_f _ _ _ (by omega), fun _ _ => rfl⟩
theorem bk_J {c : vC} {r : Nat} {J : Nat → Int64} : bk (sJc c r J) c := ⟨fun _ _ _ => rfl, fun _ _ => rfl⟩
theorem inB_b {c' c : vC} {i : Nat} {l : List Nat} (h : inB c i l) (b : bk c' c) : inB c' i l := ⟨(b.1 1 (by decide) i).trans h.1, h.2.1, h.2.2.1, fun j hj => (b.2 i j).trans (h.2.2.2 j hj)⟩
/-- a block is written, or the crash comes -/
theorem c_blk {ρ : Type} {mm : Kp} {N : Nat} {c : vC} {S : Sx} {r b start : Nat} {R : Rp} {l l' : List Nat} {K0 K1 : vC → Option ρ} {Q : ρ → Prop} (h : WC mm c (S.set r R)) (hr : r < S.N) (hi : inB c 2 l') (hl : ∀ k, byA l' k = byA l k) (hb : b < 64) (hs : start ≤ 512 * (b + 1)) (hd : DuOk R) (g0 : R.1 35 = 0 → ∀ c', WC mm c' (S.set r (R.u 35 y_no)) → tr (K0 c') Q) (g1 : ¬ R.1 35 = 0 → ∀ c', WC mm c' (S.set r (y_b1 l start R b)) → inB c' 2 l' → (∀ k, k ≠ 204 → k ≠ 205 → cI c' k r = cI c k r) → bk c' c → tr (K1 c') Q) : tr (b2 (F_X2_crashes N c r) fun M4 v5 => if v5 = 0 then ((F_X2_place N M4 r (nI b) (nI start)).bind fun M6 => K1 M6) else (K0 M4)) Q := by
  have e5 : cI c 205 r = nI (R.1 35) := (WC_a h hr).1.2.1 205 35 rfl
  have e4 : cI c 204 r = nI (R.1 34) := (WC_a h hr).1.2.1 204 34 rfl
  have hdk := (WC_a h hr).1.2.2
  by_cases c0 : R.1 35 = 0
  · rw [e_crash0 (by rw [e5, c0]; rfl), b2_, if_neg (by decide)]
    refine g0 c0 _ (WC_al h (zc_I rfl) (fun k _ h2 => uI_f _ _ _ h2) rfl (fun _ _ => rfl) rfl ?_ ?_ hdk (fun f _ h2 => u_n _ _ h2) rfl rfl)
    · rw [uI_f _ _ _ (by decide), e4]; rfl
    · rw [uI_s]; rfl
  · have hne : ¬ cI c 205 r = 0 := by
      rw [e5]
      intro e
      have h32 : R.1 35 < 2 ^ 32 := by
        have hd' : R.1 35 < 2 ^ 30 ∨ R.1 35 = y_no := hd
        have : y_no = 4294967295 := rfl
        omega
      exact c0 (nI_inj (b := 0) h32 (by decide) e)
    rw [e_crash1 hne, b2_, if_pos rfl]
    have hi' : inB (uI (uI c 205 r (dueN' (cI c 205 r))) 204 r (cI c 204 r + 1)) 2 l' := by
      obtain ⟨i1, i2, i3, i4⟩ := hi
      exact ⟨by rw [uI_f _ _ _ (by decide), uI_f _ _ _ (by decide)]; exact i1, i2, i3, i4⟩
    obtain ⟨J, ep, hJ⟩ := e_place (N := N) (c := uI (uI c 205 r (dueN' (cI c 205 r))) 204 r (cI c 204 r + 1)) (r := r) hi' hb hs
    rw [ep, Option.bind_some]
    have hi2 := inB_J (r := r) (J := J) hi'
    have z : zc r (sJc (uI (uI c 205 r (dueN' (cI c 205 r))) 204 r (cI c 204 r + 1)) r J) c := zc_J.tr ((zc_I rfl).tr (zc_I rfl))
    have eI : ∀ k, k ≠ 204 → k ≠ 205 → cI (sJc (uI (uI c 205 r (dueN' (cI c 205 r))) 204 r (cI c 204 r + 1)) r J) k r = cI c k r := fun k h1 h2 => by
      show cI (uI (uI c 205 r (dueN' (cI c 205 r))) 204 r (cI c 204 r + 1)) k r = _
      rw [uI_f _ _ _ h1, uI_f _ _ _ h2]
    refine g1 c0 _ (WC_al h z eI rfl (fun _ _ => rfl) rfl ?_ ?_ (fun a ha => ?_) (fun f h1 h2 => b1_o h1 h2) rfl rfl) hi2 eI (bk_J.tr ((bk_I (by decide)).tr (bk_I (by decide))))
    · show cI (uI (uI c 205 r (dueN' (cI c 205 r))) 204 r (cI c 204 r + 1)) 204 r = nI (R.1 34 + 1)
      rw [uI_s, e4]; exact nI_add1 _
    · show cI (uI (uI c 205 r (dueN' (cI c 205 r))) 204 r (cI c 204 r + 1)) 205 r = nI (if R.1 35 = y_no then y_no else R.1 35 - 1)
      rw [uI_f _ _ _ (by decide), uI_s, e5]; exact dueN_n c0 hd
    · rw [sJc_J, hJ a ha]
      show (if max start (512 * b) ≤ a ∧ a < 512 * (b + 1) then byA l' (a - start) else dk (cJ c r) a) = y_plc R.2.2.2 l b start a
      unfold y_plc
      rw [hl, hdk a ha]
theorem b1_35 {l : List Nat} {start b : Nat} {R : Rp} (hd : DuOk R) : DuOk (y_b1 l start R b) := DuOk_b1 hd _ _ _
theorem q_wn {ρ : Type} {mm : Kp} {N : Nat} {S : Sx} {r start : Nat} {l l' : List Nat} {kx59 kx73 : vC → Option ρ} {Q : ρ → Prop} (hr : r < S.N) (hl : ∀ k, byA l' k = byA l k) (hst : start < 32768) : ∀ (d t fl : Nat) (c : vC) (R : Rp), start / 512 + d = t → t ≤ 64 → d < fl → WC mm c (S.set r R) → inB c 2 l' → DuOk R → ((y_blk l start R (List.range' (start / 512) d).reverse).2 = false → ∀ c', WC mm c' (S.set r (y_blk l start R (List.range' (start / 512) d).reverse).1) → tr (kx59 c') Q) → ((y_blk l start R (List.range' (start / 512) d).reverse).2 = true → ∀ c', WC mm c' (S.set r (y_blk l start R (List.range' (start / 512) d).reverse).1) → (∀ k, k ≠ 204 → k ≠ 205 → cI c' k r = cI c k r) → bk c' c → tr (kx73 c') Q) → tr (L_X2_writeNote_43 N r (nI start) kx59 kx73 fl c (nI t - 1)) Q := by
  intro d
  induction d with
  | zero =>
    intro t fl c R h1 h2 h3 h hi hd g0 g1
    obtain ⟨fl, rfl⟩ : ∃ f', fl = f' + 1 := ⟨fl - 1, by omega⟩
    obtain rfl : t = start / 512 := by omega
    have cc : nI (start / 512) - 1 < nI start / (512 : Int32) := by
      rw [show nI start / (512 : Int32) = nI (start / 512) from nI_div (b := 512) (by omega) (by decide)]
      by_cases e : start / 512 = 0
      · rw [e]; decide
      · have : nI (start / 512) = nI (start / 512 - 1 + 1) := by congr 1; omega
        rw [this, nI_p1]
        exact Int32.not_le.mp (nI_ge (by omega) (by omega))
    rw [L_X2_writeNote_43, if_pos cc]
    exact g1 rfl c h (fun _ _ _ => rfl) bk.refl
  | succ d ih =>
    intro t fl c R h1 h2 h3 h hi hd g0 g1
    obtain ⟨fl, rfl⟩ : ∃ f', fl = f' + 1 := ⟨fl - 1, by omega⟩
    obtain ⟨t, rfl⟩ : ∃ t', t = t' + 1 := ⟨t - 1, by omega⟩
    have ht : t = start / 512 + d := by omega
    rw [nI_p1, L_X2_writeNote_43, show nI start / (512 : Int32) = nI (start / 512) from nI_div (b := 512) (by omega) (by decide), if_neg (show ¬ nI t < nI (start / 512) from Int32.not_lt.mpr (nI_le (by omega) (by omega))), nI_m1]
    rw [rev_c, y_blk_c, ← ht] at g0 g1
    refine c_blk (l := l) h hr hi hl (by omega) (by omega) hd (fun c0 c' w => ?_) (fun c0 c' w hi' eI bb => ?_)
    · rw [if_pos c0] at g0
      exact g0 rfl c' w
    · rw [if_neg c0] at g0 g1
      exact ih t fl c' _ (by omega) (by omega) (by omega) w hi' (b1_35 hd) g0 (fun q c2 w2 e2 bb2 => g1 q c2 w2 (fun k k1 k2 => (e2 k k1 k2).trans (eI k k1 k2)) (bb2.tr bb))
theorem e_rec {N : Nat} {c : vC} {r : Nat} {p x : List Nat} (hx : Bts x) (hxl : x.length ≤ 2048) (hp : Bts p) (hl : p.length + x.length + 8 ≤ 2048) : F_X2_addRecord N (sB (sB c 2 p) 1 x) r 1 = some (sB (sB (uI (uI c 202 r (cI c 202 r + 1)) 203 r (nI (p ++ recL x).length)) 2 (p ++ recL x)) 1 x) := by
  rw [sB_comm c p x (by decide), e_addRecord (c := sB c 1 x) (inB_sB hxl hx) hp hl, uI_sB _ _ _ _ (by decide), uI_sB _ _ _ _ (by decide), sB_I _ _ _ _ (by decide), uI_sB _ _ _ _ (by decide), uI_sB _ _ _ _ (by decide), sB_comm _ x _ (by decide)]
theorem e_startImage {N : Nat} {c : vC} {r : Nat} {x : List Nat} : F_X2_startImage N (sB c 1 x) r = some (sB (sB (uI (uI c 2 2 0) 202 r 0) 2 []) 1 x) := by
  unfold F_X2_startImage
  rw [e_clear, Option.bind_some, l1_, uI_sB _ _ _ _ (by decide), uI_sB _ _ _ _ (by decide), uI_sB _ _ _ _ (by decide), sB_comm _ x _ (by decide)]
theorem c_startOf {ρ : Type} {N : Nat} {c : vC} {h : Nat} {f : vC → Int32 → Option ρ} {Q : ρ → Prop} (hh : h ≤ 1) (g : tr (f c (nI (y_hs h))) Q) : tr (b2 (F_X2_startOf N c (nI h)) f) Q := by
  have : h = 0 ∨ h = 1 := by omega
  rcases this with rfl | rfl
  · exact g
  · exact g
theorem c_note' {mm : Kp} {N : Nat} {c : vC} {S : Sx} {r : Nat} {R : Rp} {n : Nt} (hC : Cx S) (h : WC mm c (S.set r R)) (hr : r < S.N) (h6 : R.1 6 = 1) (hJ : JR R) (hl : R.2.2.1.length < 48) (hn : NbOk n) : tr (F_X7_note N (sB c 1 (y_pay S.V S.tb S.sta n)) r) (fun p => p.2 = (if (y_note (S.set r R) r n).2 = true then (1 : Int32) else 0) ∧ WC mm p.1 (y_note (S.set r R) r n).1 ∧ ((y_note (S.set r R) r n).2 = true → inB p.1 1 (y_pay S.V S.tb S.sta n) ∧ cI p.1 2 1 = cI c 2 1)) := by
  obtain ⟨j1, j2, j3, j4⟩ := hJ
  have hrl := rec_len hC hn
  have hrl0 : 1 ≤ (S.rec n).length := by
    show 1 ≤ (recL (y_pay S.V S.tb S.sta n)).length
    rw [recL_len]; omega
  have hpl := (pay_len (g := S.lg) (tb := S.tb) hC.tb hC.V hn).1
  have hpl' : (y_pay S.V S.tb S.sta n).length ≤ 198 := hpl
  have hrb : Bts (S.rec n) := Bts.rec hC hn
  have hr9 : r < 9 := by have := hC.N; omega
  unfold F_X7_note
  rw [e_startImage, Option.bind_some, e_rec Bts.pay (by omega) Bts.nil (by show 0 + _ + 8 ≤ _; omega), Option.bind_some, List.nil_append, show recL (y_pay S.V S.tb S.sta n) = S.rec n from rfl]
  have w1 := WC_20 (f := 203) (v := nI (S.rec n).length) (WC_20 (f := 202) (v := cI (uI (uI c 2 2 0) 202 r 0) 202 r + 1) (WC_20 (f := 202) (v := 0) (WC_2 (f := 2) (i := 2) (v := 0) h (by decide)) (Or.inl rfl)) (Or.inl rfl)) (Or.inr rfl)
  have k202 : cI (uI (uI (uI (uI c 2 2 0) 202 r 0) 202 r (cI (uI (uI c 2 2 0) 202 r 0) 202 r + 1)) 203 r (nI (S.rec n).length)) 202 r = 1 := by
    rw [uI_f _ _ _ (by decide), uI_s, uI_s]; rfl
  have k203 : cI (uI (uI (uI (uI c 2 2 0) 202 r 0) 202 r (cI (uI (uI c 2 2 0) 202 r 0) 202 r + 1)) 203 r (nI (S.rec n).length)) 203 r = nI (S.rec n).length := uI_s _ _ _ _
  have k21 : cI (uI (uI (uI (uI c 2 2 0) 202 r 0) 202 r (cI (uI (uI c 2 2 0) 202 r 0) 202 r + 1)) 203 r (nI (S.rec n).length)) 2 1 = cI c 2 1 := by
    rw [uI_f _ _ _ (by decide), uI_f _ _ _ (by decide), uI_f _ _ _ (by decide), uI_o _ _ (by decide)]
  have hxb : Bts (y_pay S.V S.tb S.sta n) := Bts.pay
  generalize uI (uI (uI (uI c 2 2 0) 202 r 0) 202 r (cI (uI (uI c 2 2 0) 202 r 0) 202 r + 1)) 203 r (nI (S.rec n).length) = c1 at w1 k202 k203 k21 ⊢
  generalize y_pay S.V S.tb S.sta n = x at hpl' hxb ⊢
  refine tr_b2 (P := fun p => (p.2 = (if (y_blk (S.rec n) (y_hs (R.1 33) + R.1 31) R (y_asc (y_hs (R.1 33) + R.1 31) (S.rec n).length).reverse).2 = true then (1 : Int32) else 0)) ∧ ((y_blk (S.rec n) (y_hs (R.1 33) + R.1 31) R (y_asc (y_hs (R.1 33) + R.1 31) (S.rec n).length).reverse).2 = false → WC mm p.1 (S.set r (y_blk (S.rec n) (y_hs (R.1 33) + R.1 31) R (y_asc (y_hs (R.1 33) + R.1 31) (S.rec n).length).reverse).1)) ∧ ((y_blk (S.rec n) (y_hs (R.1 33) + R.1 31) R (y_asc (y_hs (R.1 33) + R.1 31) (S.rec n).length).reverse).2 = true → WC mm p.1 (y_note (S.set r R) r n).1 ∧ inB p.1 1 x ∧ cI p.1 2 1 = cI c 2 1)) ?_ fun c2 v hv => ?_
  · unfold F_X2_writeNote
    have e209 : cI (sB (sB c1 2 (S.rec n)) 1 x) 209 r = nI (R.1 33) := WC_i (WC_B (WC_B w1)) hr h6 rfl
    have e207 : cI (sB (sB c1 2 (S.rec n)) 1 x) 207 r = nI (R.1 31) := WC_i (WC_B (WC_B w1)) hr h6 rfl
    have e1 : cI (sB (sB c1 2 (S.rec n)) 1 x) 1 2 = nI (S.rec n).length := by rw [sB_I2 _ _ _ (by decide), sB_1]
    rw [e209]
    refine c_startOf j1 ?_
    rw [e207]
    unfold F_X2_closeImage
    rw [e1, show (15872 : Int32) - nI (R.1 31) = nI (15872 - R.1 31) from nI_sub (a := 15872) (by omega), show nI (S.rec n).length + (2 : Int32) = nI ((S.rec n).length + 2) from nI_add _ 2, if_neg (Int32.not_lt.mpr (nI_le (by omega) (by omega))), sB_comm c1 (S.rec n) x (by decide), e_put _ (by omega), Option.bind_some, e_put _ (by rw [List.length_append]; show _ + 1 < 2048; omega), Option.bind_some, Option.bind_some]
    have ebl : S.rec n ++ [by8 (0 : Int32)] ++ [by8 (0 : Int32)] = S.rec n ++ [0, 0] := by
      rw [List.append_assoc]; rfl
    rw [ebl, sB_1]
    have hlen : (S.rec n ++ [0, 0]).length = (S.rec n).length + 2 := by rw [List.length_append]; rfl
    have hi : inB (sB (sB c1 1 x) 2 (S.rec n ++ [0, 0])) 2 (S.rec n ++ [0, 0]) := inB_sB (by omega) (hrb.app (Bts.cons (by decide) (Bts.cons (by decide) Bts.nil)))
    have hw := WC_B (i := 2) (l := S.rec n ++ [0, 0]) (WC_B (i := 1) (l := x) w1)
    have q202 : cI (sB (sB c1 1 x) 2 (S.rec n ++ [0, 0])) 202 r = 1 := by rw [sB_I _ _ _ _ (by decide), sB_I _ _ _ _ (by decide), k202]
    have q203 : cI (sB (sB c1 1 x) 2 (S.rec n ++ [0, 0])) 203 r = nI (S.rec n).length := by rw [sB_I _ _ _ _ (by decide), sB_I _ _ _ _ (by decide), k203]
    have hx1 : inB (sB (sB c1 1 x) 2 (S.rec n ++ [0, 0])) 1 x := inB_o (inB_sB (by omega) hxb) (by decide)
    have q21 : cI (sB (sB c1 1 x) 2 (S.rec n ++ [0, 0])) 2 1 = cI c 2 1 := by rw [sB_I _ _ _ _ (by decide), sB_I _ _ _ _ (by decide), k21]
    generalize sB (sB c1 1 x) 2 (S.rec n ++ [0, 0]) = c2 at hi hw q202 q203 hx1 q21 ⊢
    have hb33 : y_hs (R.1 33) ≤ 16896 := by unfold y_hs; split <;> omega
    rw [nI_add, hlen, nI_add, show nI (y_hs (R.1 33) + R.1 31 + ((S.rec n).length + 2)) - (1 : Int32) = nI (y_hs (R.1 33) + R.1 31 + (S.rec n).length + 1) from by rw [show y_hs (R.1 33) + R.1 31 + ((S.rec n).length + 2) = (y_hs (R.1 33) + R.1 31 + (S.rec n).length + 1) + 1 by omega]; exact nI_p1 _, show nI (y_hs (R.1 33) + R.1 31 + (S.rec n).length + 1) / (512 : Int32) = nI ((y_hs (R.1 33) + R.1 31 + (S.rec n).length + 1) / 512) from nI_div (b := 512) (by omega) (by decide), ← nI_p1 ((y_hs (R.1 33) + R.1 31 + (S.rec n).length + 1) / 512)]
    have easc : y_asc (y_hs (R.1 33) + R.1 31) (S.rec n).length = List.range' ((y_hs (R.1 33) + R.1 31) / 512) ((y_hs (R.1 33) + R.1 31 + (S.rec n).length + 1) / 512 + 1 - (y_hs (R.1 33) + R.1 31) / 512) := rfl
    rw [easc]
    refine q_wn hr (fun k => byA_app (n := 0) (fun _ _ => trivial) k) (by omega) ((y_hs (R.1 33) + R.1 31 + (S.rec n).length + 1) / 512 + 1 - (y_hs (R.1 33) + R.1 31) / 512) _ fu c2 R (by omega) (by omega) (by show _ < 32768; omega) hw hi j4 (fun c0 c' w => ?_) (fun c0 c' w eI bb => ?_)
    · rw [c0]
      exact tr_z0 (tr_some ⟨rfl, fun _ => w, fun q => absurd q (by decide)⟩)
    · obtain ⟨a1, a2, a3, a4⟩ := blk_o (S.rec n) (y_hs (R.1 33) + R.1 31) (List.range' ((y_hs (R.1 33) + R.1 31) / 512) ((y_hs (R.1 33) + R.1 31 + (S.rec n).length + 1) / 512 + 1 - (y_hs (R.1 33) + R.1 31) / 512)).reverse R
      have h6' := (a1 6 (by decide) (by decide)).trans h6
      have f207 := (WC_i w hr h6' (show sci 207 = some 31 from rfl)).trans (congrArg nI (a1 31 (by decide) (by decide)))
      have f203 : cI c' 203 r = nI (S.rec n).length := (eI 203 (by decide) (by decide)).trans q203
      rw [f207, f203, nI_add]
      have f206 := (WC_a w hr).2 h6'
      have q206 : cI c' 206 r = nI R.2.2.1.length := by rw [f206.2.2.2.1, a3]
      have f202 : cI c' 202 r = 1 := (eI 202 (by decide) (by decide)).trans q202
      refine tr_l1 (tr_l1 ?_)
      have w3 := WC_I (v := R.1 31 + (S.rec n).length) w (show sci 207 = some 31 from rfl)
      rw [uI_f _ _ _ (by decide), uI_f _ _ _ (by decide), q206, f202, nI_add1, show R.2.2.1.length + 1 = (R.2.2.1 ++ [n]).length by rw [List.length_append]; rfl]
      have w4 := WC_nt (l := R.2.2.1 ++ [n]) w3
      have e : (y_note (S.set r R) r n).1 = S.set r (((y_blk (S.rec n) (y_hs (R.1 33) + R.1 31) R (y_asc (y_hs (R.1 33) + R.1 31) (S.rec n).length).reverse).1.u 31 (R.1 31 + (S.rec n).length)).n (R.2.2.1 ++ [n])) := by
        unfold y_note
        rw [set_rp]
        dsimp only
        rw [show (S.set r R).rec n = S.rec n from rfl, easc, if_pos c0, set_set]
      rw [easc] at e
      rw [e, c0]
      have bb4 := (bk_I (f := 206) (i := r) (v := nI (R.2.2.1 ++ [n]).length) (by decide)).tr ((bk_I (f := 207) (i := r) (v := nI (R.1 31 + (S.rec n).length)) (by decide)).tr bb)
      exact tr_z1 (tr_some ⟨rfl, fun q => absurd q (by decide), fun _ => ⟨w4, inB_b hx1 bb4, (bb4.1 2 (by decide) 1).trans q21⟩⟩)
  · obtain ⟨e1, g0, g1⟩ := hv
    dsimp only at e1 g0 g1
    rw [e1]
    have et : (y_note (S.set r R) r n).2 = (y_blk (S.rec n) (y_hs (R.1 33) + R.1 31) R (y_asc (y_hs (R.1 33) + R.1 31) (S.rec n).length).reverse).2 := by
      unfold y_note
      rw [set_rp]
      dsimp only
      rw [show (S.set r R).rec n = S.rec n from rfl]
      split
      · rename_i c0; exact c0.symm
      · rename_i c0
        exact (Bool.eq_false_iff.mpr c0).symm
    rw [et]
    refine tr_if (fun c0 => ?_) (fun c0 => ?_)
    · have e : (y_note (S.set r R) r n).1 = y_goDown (S.set r (y_blk (S.rec n) (y_hs (R.1 33) + R.1 31) R (y_asc (y_hs (R.1 33) + R.1 31) (S.rec n).length).reverse).1) r := by
        unfold y_note
        rw [set_rp]
        dsimp only
        rw [show (S.set r R).rec n = S.rec n from rfl, if_neg (by rw [c0]; decide), set_set]
      refine tr_bind (c_goDown hC.s (g0 c0) hr9 hr) fun c3 w3 => ?_
      rw [e, c0]
      exact tr_z0 (tr_some ⟨rfl, w3, fun q => absurd q (by decide)⟩)
    · rw [c0]
      exact tr_z1 (tr_some ⟨rfl, (g1 c0).1, fun _ => (g1 c0).2⟩)
theorem c_note {mm : Kp} {N : Nat} {c : vC} {S : Sx} {r : Nat} {R : Rp} {n : Nt} (hC : Cx S) (h : WC mm c (S.set r R)) (hr : r < S.N) (h6 : R.1 6 = 1) (hJ : JR R) (hl : R.2.2.1.length < 48) (hn : NbOk n) : tr (F_X7_note N (sB c 1 (y_pay S.V S.tb S.sta n)) r) (fun p => p.2 = (if (y_note (S.set r R) r n).2 = true then (1 : Int32) else 0) ∧ WC mm p.1 (y_note (S.set r R) r n).1) :=
  tr_imp (c_note' hC h hr h6 hJ hl hn) fun _ p => ⟨p.1, p.2.1⟩
