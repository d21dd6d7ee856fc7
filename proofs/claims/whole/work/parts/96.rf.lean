/-! ===== the reference learns; the log grows ===== -/
theorem st_c {V : Nat} {tb : Nat → Rq} {g g' : Nat → Nat} : ∀ i, (∀ j, j ≤ i → g j = g' j) → stN V tb g i = stN V tb g' i := by
  intro i
  induction i with
  | zero => intro _; rfl
  | succ i ih =>
    intro h
    show y_app V (stN V tb g i) i (tb (g (i + 1))) = y_app V (stN V tb g' i) i (tb (g' (i + 1)))
    rw [ih (fun j hj => h j (by omega)), h (i + 1) (Nat.le_refl _)]
def LgOk (S : Sx) : Prop := (∀ r, r < 9 → (S.rp r).1 7 ≤ S.ll ∧ ∀ n, n ∈ (S.rp r).2.2.1 → (n.1 = 4 ∨ n.1 = 5) → n.2.2.2.2 ≤ S.ll) ∧ ∀ m, m ∈ S.fl → m 0 = 8 → m 4 ≤ S.ll
theorem getD_memN {l : List Nt} {k : Nat} (h : k < l.length) : l.getD k ntD ∈ l := by
  rw [List.getD_eq_getElem?_getD, List.getElem?_eq_getElem h]
  exact List.getElem_mem h
theorem getD_memM {l : List Mg} {k : Nat} (h : k < l.length) : l.getD k mgD ∈ l := by
  rw [List.getD_eq_getElem?_getD, List.getElem?_eq_getElem h]
  exact List.getElem_mem h
theorem WM_log {M : vM} {S : Sx} {n : Nat} {g : Nat → Nat} (h : WM M S) (hL : LgOk S) (hg : ∀ i, i ≤ S.ll → g i = S.lg i) : WM M (S.log n g) := by
  obtain ⟨h1, h2, h3, h4, h5, h6⟩ := h
  have es : ∀ i, i ≤ S.ll → (S.log n g).sta i = S.sta i := fun i hi => st_c i (fun j hj => hg j (by omega))
  refine ⟨fun f hf => ?_, h2, h3, fun r hr => ?_, h5, fun i hi => ?_⟩
  · have : (S.log n g).1 f = S.1 f := va_up_ne _ _ (fun e => by rw [e] at hf; exact absurd hf (by decide))
    rw [this]; exact h1 f hf
  · obtain ⟨l1, l2⟩ := hL.1 r hr
    obtain ⟨a1, a2, a3, a4, a5, a6, a7, a8, a9, a10, a11⟩ := h4 r hr
    refine ⟨a1, fun i k b1 b2 b3 => ?_, fun i b1 b2 b3 => ?_, fun i b1 b2 => ?_, fun s hs => ?_, fun s hs => ?_, a7, a8, fun k hk => ?_, a10, a11⟩
    · have b2' : i ≤ (S.rp r).1 7 := b2
      rw [es i (by omega)]; exact a2 i k b1 b2 b3
    · have b3' : i ≤ (S.rp r).1 7 := b3
      rw [es i (by omega)]; exact a3 i b1 b2 b3
    · have b2' : i ≤ (S.rp r).1 7 := b2
      show _ = nI (g i)
      rw [hg i (by omega)]; exact a4 i b1 b2
    · rw [show (S.log n g).sta (((S.log n g).rp r).1 7) = S.sta ((S.rp r).1 7) from es _ l1]; exact a5 s hs
    · rw [show (S.log n g).sta (((S.log n g).rp r).1 7) = S.sta ((S.rp r).1 7) from es _ l1]; exact a6 s hs
    · obtain ⟨p1, p2, p3, p4, p5, p6⟩ := a9 k hk
      have hm := l2 _ (getD_memN (l := (S.rp r).2.2.1) hk)
      refine ⟨p1, p2, p3, p4, fun e => ?_, fun e x hx => ?_⟩
      · have := p5 e
        rw [← es _ (hm (Or.inl e))] at this; exact this
      · have := p6 e x hx
        rw [← es _ (hm (Or.inr e))] at this; exact this
  · obtain ⟨p1, p2, p3⟩ := h6 i hi
    refine ⟨p1, p2, fun e => ?_⟩
    have hm := hL.2 _ (getD_memM (l := S.fl) hi) e
    have := p3 e
    rw [← es _ hm] at this; exact this
theorem Cx.log {S : Sx} (h : Cx S) (n : Nat) (g : Nat → Nat) : Cx (S.log n g) := Cx_c h (fun f hf => va_up_ne _ _ (by omega)) rfl rfl
theorem log_set (S : Sx) (n : Nat) (g : Nat → Nat) (r : Nat) (R : Rp) : (S.set r R).log n g = (S.log n g).set r R := rfl
theorem learnt_eq {S : Sx} {r q : Nat} {R : Rp} : y_learnt (S.set r R) r q = (S.log (max S.ll (R.1 7 + 1)) (if S.ll < R.1 7 + 1 then va_up S.lg (R.1 7 + 1) q else S.lg)).set r (((((R.u 7 (R.1 7 + 1)).u 8 (max (R.1 8) (R.1 7 + 1 - S.V))).u 9 (max (R.1 9) (R.1 7 + 1 - S.L))).u 11 0).u 12 0) := by
  unfold y_learnt
  rw [set_rp]
  dsimp only
  rw [set_set]; rfl
/-- bounds of a replica's store -/
def BX (S : Sx) (R : Rp) : Prop := R.1 9 ≤ R.1 7 ∧ R.1 7 ≤ R.1 9 + S.L ∧ R.1 7 < 29990 ∧ R.1 43 < 2 ^ 30
theorem learn_eq0 {S : Sx} {r q : Nat} {R : Rp} (c : (y_note (S.set r R) r (3, 0, 0, q, 0)).2 = false) : y_learn (S.set r R) r q = ((y_note (S.set r R) r (3, 0, 0, q, 0)).1, false) := by
  unfold y_learn
  dsimp only
  rw [if_neg (by rw [c]; decide)]
theorem learn_eq1 {S : Sx} {r q : Nat} {R R' : Rp} (c : (y_note (S.set r R) r (3, 0, 0, q, 0)).2 = true) (e : (y_note (S.set r R) r (3, 0, 0, q, 0)).1 = S.set r R') (c2 : (y_ckp (y_learnt (S.set r R') r q) r).2 = false) : y_learn (S.set r R) r q = ((y_ckp (y_learnt (S.set r R') r q) r).1, false) := by
  unfold y_learn
  dsimp only
  rw [if_pos c, e, if_neg (by rw [c2]; decide)]
theorem learn_eq2 {S S2 : Sx} {r q : Nat} {R R' R3 : Rp} (c : (y_note (S.set r R) r (3, 0, 0, q, 0)).2 = true) (e : (y_note (S.set r R) r (3, 0, 0, q, 0)).1 = S.set r R') (c2 : (y_ckp (y_learnt (S.set r R') r q) r).2 = true) (e2 : (y_ckp (y_learnt (S.set r R') r q) r).1 = S2.set r R3) : y_learn (S.set r R) r q = (y_tell (S2.set r ((if ((if R3.1 19 = 1 then y_follow R3 else R3).u 22 0).1 19 = 2 then ((if R3.1 19 = 1 then y_follow R3 else R3).u 22 0).u 21 0 else ((if R3.1 19 = 1 then y_follow R3 else R3).u 22 0)).u 13 0)) r, true) := by
  unfold y_learn
  dsimp only
  rw [if_pos c, e, if_pos c2, e2, set_rp, set_set]
theorem fol_o {R : Rp} {f : Nat} (h : f < 19 ∨ 24 < f) : (y_follow R).1 f = R.1 f := by
  unfold y_follow
  rw [u_n _ _ (by omega), u_n _ _ (by omega), u_n _ _ (by omega), u_n _ _ (by omega), u_n _ _ (by omega), u_n _ _ (by omega)]
theorem r_learn {M : vM} {S : Sx} {r q : Nat} {R : Rp} (hC : Cx S) (h : WM M (S.set r R)) (hr : r < 9) (hJ : JR R) (hl : R.2.2.1.length < 48) (hB : BR S R) (hX : BX S R) (hg : R.1 32 < 2 ^ 30) (h0 : 0 < q) (hq : q < S.1 4) (hL : LgOk (S.set r R)) (hlg : R.1 7 + 1 ≤ S.ll → S.lg (R.1 7 + 1) = q) (hQ : QOk S R) (h19 : R.1 19 < 2 ^ 30) : tr (F_X12_learn M (nI r) (nI q)) (fun p => p.2 = (if (y_learn (S.set r R) r q).2 = true then (1 : Int32) else 0) ∧ WM p.1 (y_learn (S.set r R) r q).1) := by
  obtain ⟨b1, b2, b3, b4, b5, b6⟩ := hB
  obtain ⟨x1, x2, x3, x4⟩ := hX
  have hV := hC.V
  have hV1 : 1 ≤ S.V := hC.2.2.1
  have hL1 : 1 ≤ S.L := hC.2.2.2.2.1
  have hn : NbOk (3, 0, 0, q, 0) := ⟨(by decide : 1 ≤ 3), (by decide : 3 ≤ 5), (by decide : 0 < 2 ^ 31), (by decide : 0 < 2 ^ 31), (by decide : 0 < 2 ^ 31)⟩
  unfold F_X12_learn
  rw [l1_, sl_0, e_lay _ (by decide), Option.bind_some, r_layQ (S := S.set r R) hC h h0 hq (Nat.le_of_ble_eq_true rfl), Option.bind_some]
  refine tr_b2 (r_note (S := S) (n := (3, 0, 0, q, 0)) hC h hr hJ hl hn rfl rfl rfl rfl (fun e => absurd e (show ¬ 3 = 4 by decide)) (fun e => absurd e (show ¬ 3 = 5 by decide))) fun M1 v hv => ?_
  obtain ⟨e1, w1⟩ := hv
  dsimp only at e1 w1
  rw [e1]
  refine tr_if (fun c => ?_) (fun c => ?_)
  · rw [learn_eq0 c]
    exact tr_z0 (tr_some ⟨rfl, w1⟩)
  · obtain ⟨R', eR, f1, f2, f3, f4, f5⟩ := note_t c
    rw [eR] at w1
    have f7 : R'.1 7 = R.1 7 := f1 7 (by decide) (by decide) (by decide)
    have f8 : R'.1 8 = R.1 8 := f1 8 (by decide) (by decide) (by decide)
    have f9 : R'.1 9 = R.1 9 := f1 9 (by decide) (by decide) (by decide)
    have f10 : R'.1 10 = R.1 10 := f1 10 (by decide) (by decide) (by decide)
    have f19 : R'.1 19 = R.1 19 := f1 19 (by decide) (by decide) (by decide)
    have f32 : R'.1 32 = R.1 32 := f1 32 (by decide) (by decide) (by decide)
    have f43 : R'.1 43 = R.1 43 := f1 43 (by decide) (by decide) (by decide)
    have hJ' := note_J hJ hl (rec_len hC hn) f1 f2 f4 f5
    have hix : R.1 7 ≤ S.ll := by
      have := (hL.1 r hr).1
      rw [set_rp] at this; exact this
    have hL' : LgOk (S.set r R') := by
      refine ⟨fun k hk => ?_, hL.2⟩
      by_cases e : k = r
      · subst e
        rw [set_rp]
        have := hL.1 k hk
        rw [set_rp] at this
        refine ⟨by rw [f7]; exact this.1, fun n hn he => ?_⟩
        rw [f4] at hn
        rcases List.mem_append.mp hn with hn | hn
        · exact this.2 n hn he
        · rw [List.mem_singleton.mp hn] at he
          exact absurd he (show ¬ (3 = 4 ∨ 3 = 5) by decide)
      · rw [set_ne _ _ e]
        have := hL.1 k hk
        rw [set_ne _ _ e] at this
        exact this
    have wl := WM_log (n := max S.ll (R'.1 7 + 1)) (g := if S.ll < R'.1 7 + 1 then va_up S.lg (R'.1 7 + 1) q else S.lg) w1 hL' (fun i hi => by
      have hi' : i ≤ S.ll := hi
      split
      · exact va_up_ne _ _ (by omega)
      · rfl)
    rw [log_set] at wl
    have hlg' : (S.log (max S.ll (R'.1 7 + 1)) (if S.ll < R'.1 7 + 1 then va_up S.lg (R'.1 7 + 1) q else S.lg)).lg (R'.1 7 + 1) = q := by
      show (if S.ll < R'.1 7 + 1 then va_up S.lg (R'.1 7 + 1) q else S.lg) (R'.1 7 + 1) = q
      by_cases c3 : S.ll < R'.1 7 + 1
      · rw [if_pos c3, va_up_self]
      · rw [if_neg c3, f7]
        exact hlg (by omega)
    have hC2 := hC.log (max S.ll (R'.1 7 + 1)) (if S.ll < R'.1 7 + 1 then va_up S.lg (R'.1 7 + 1) q else S.lg)
    have el := learnt_eq (S := S) (r := r) (q := q) (R := R')
    generalize hS2 : S.log (max S.ll (R'.1 7 + 1)) (if S.ll < R'.1 7 + 1 then va_up S.lg (R'.1 7 + 1) q else S.lg) = S2 at wl hlg' hC2 el
    have sV : S2.V = S.V := by rw [← hS2]; rfl
    have sL : S2.L = S.L := by rw [← hS2]; rfl
    have s4 : S2.1 4 = S.1 4 := by rw [← hS2]; rfl
    refine tr_bind (r_apply hC2 wl hr h0 (by rw [s4]; exact hq) (by omega) hlg' (by omega) (by rw [sV]; omega) (by omega) (by rw [sL]; omega)) fun M2 w2 => ?_
    refine tr_bind (r_accept (b := 0) (q := 0) w2 hr) fun M3 w3 => ?_
    rw [sV, sL] at w3
    generalize hR2 : ((((R'.u 7 (R'.1 7 + 1)).u 8 (max (R'.1 8) (R'.1 7 + 1 - S.V))).u 9 (max (R'.1 9) (R'.1 7 + 1 - S.L))).u 11 0).u 12 0 = R2 at w3 el
    have g7 : R2.1 7 = R.1 7 + 1 := by rw [← hR2, ← f7]; rfl
    have g8 : R2.1 8 = max (R.1 8) (R.1 7 + 1 - S.V) := by rw [← hR2, ← f7, ← f8]; rfl
    have g10 : R2.1 10 = R.1 10 := by rw [← hR2, ← f10]; rfl
    have g11 : R2.1 11 = 0 := by rw [← hR2]; rfl
    have g12 : R2.1 12 = 0 := by rw [← hR2]; rfl
    have g19 : R2.1 19 = R.1 19 := by rw [← hR2, ← f19]; rfl
    have g32 : R2.1 32 = R.1 32 := by rw [← hR2, ← f32]; rfl
    have g43 : R2.1 43 = R.1 43 := by rw [← hR2, ← f43]; rfl
    have gq : R2.2.1 = R.2.1 := by rw [← hR2, ← f3]; rfl
    have gJ : JR R2 := by rw [← hR2]; exact hJ'
    have gB : BR S2 R2 := ⟨by omega, by omega, by rw [sV]; omega, by omega, by omega, by rw [s4]; omega⟩
    refine tr_b2 (r_ckp hC2 w3 hr gJ gB (by omega)) fun M4 v4 h4 => ?_
    obtain ⟨e4, w4⟩ := h4
    dsimp only at e4 w4
    rw [e4]
    refine tr_if (fun c2 => ?_) (fun c2 => ?_)
    · rw [learn_eq1 c eR (by rw [el]; exact c2), el]
      exact tr_z0 (tr_some ⟨rfl, w4⟩)
    · obtain ⟨R3, e3, k1, k2, k3, k4⟩ := ckp_t c2
      rw [learn_eq2 c eR (by rw [el]; exact c2) (by rw [el]; exact e3)]
      rw [e3] at w4
      have q19 : R3.1 19 = R.1 19 := (k1 19 (by decide) (by decide) (by decide) (by decide) (by decide)).trans g19
      have q7 : R3.1 7 = R.1 7 + 1 := (k1 7 (by decide) (by decide) (by decide) (by decide) (by decide)).trans g7
      have q43 : R3.1 43 = R.1 43 := (k1 43 (by decide) (by decide) (by decide) (by decide) (by decide)).trans g43
      refine tr_Gr w4 hr rfl ?_
      refine tr_jnK (fun M' => WM M' (S2.set r (if R3.1 19 = 1 then y_follow R3 else R3))) (fun M5 w5 => ?_) (fun k hk => ?_)
      · have y7 : (if R3.1 19 = 1 then y_follow R3 else R3).1 7 = R.1 7 + 1 := by
          split
          · rw [fol_o (by decide)]; exact q7
          · exact q7
        have y43 : (if R3.1 19 = 1 then y_follow R3 else R3).1 43 = R.1 43 := by
          split
          · rw [fol_o (by decide)]; exact q43
          · exact q43
        have yq : (if R3.1 19 = 1 then y_follow R3 else R3).2.1 = R.2.1 := by
          split
          · exact k2.trans gq
          · exact k2.trans gq
        have y19 : (if R3.1 19 = 1 then y_follow R3 else R3).1 19 < 2 ^ 30 := by
          split
          · show 0 < 2 ^ 30; decide
          · rw [q19]; exact h19
        generalize (if R3.1 19 = 1 then y_follow R3 else R3) = R4 at y7 y43 yq y19 w5 ⊢
        refine tr_Sr 0 w5 hr rfl (by decide) (by decide) (by decide) fun M6 w6 => ?_
        refine tr_Gr w6 hr rfl ?_
        refine tr_jnK (fun M' => WM M' (S2.set r (if (R4.u 22 0).1 19 = 2 then (R4.u 22 0).u 21 0 else (R4.u 22 0)))) (fun M7 w7 => ?_) (fun k hk => ?_)
        · refine tr_Sr 0 w7 hr rfl (by decide) (by decide) (by decide) fun M8 w8 => ?_
          have z7 : ((if (R4.u 22 0).1 19 = 2 then (R4.u 22 0).u 21 0 else (R4.u 22 0)).u 13 0).1 7 = R.1 7 + 1 := by
            rw [← y7]; split <;> rfl
          have z43 : ((if (R4.u 22 0).1 19 = 2 then (R4.u 22 0).u 21 0 else (R4.u 22 0)).u 13 0).1 43 = R.1 43 := by
            rw [← y43]; split <;> rfl
          have zq : ((if (R4.u 22 0).1 19 = 2 then (R4.u 22 0).u 21 0 else (R4.u 22 0)).u 13 0).2.1 = R.2.1 := by
            rw [← yq]; split <;> rfl
          generalize (if (R4.u 22 0).1 19 = 2 then (R4.u 22 0).u 21 0 else (R4.u 22 0)).u 13 0 = R5 at z7 z43 zq w8 ⊢
          refine tr_bind (r_tell (hC2.set r R5) w8 hr (by rw [set_rp]; omega) (by rw [set_rp]; omega) ?_) fun M9 w9 => ?_
          · rw [set_rp]
            refine ⟨by rw [zq]; exact hQ.1, fun q hq => ?_⟩
            rw [zq] at hq
            have := hQ.2 q hq
            exact ⟨this.1, by show q < S2.1 4; rw [s4]; exact this.2⟩
          · exact tr_z1 (tr_some ⟨rfl, w9⟩)
        · refine tr_eq (a := (R4.u 22 0).1 19) (b := 2) (by show R4.1 19 < _; omega) (by decide) (fun c5 => ?_) (fun c5 => ?_)
          · refine tr_Sr 0 w6 hr rfl (by decide) (by decide) (by decide) fun M8 w8 => ?_
            refine hk _ ?_
            rw [if_pos c5]; exact w8
          · refine hk _ ?_
            rw [if_neg c5]; exact w6
      · refine tr_eq (a := R3.1 19) (b := 1) (by omega) (by decide) (fun c5 => ?_) (fun c5 => ?_)
        · refine tr_bind (r_follow w4 hr) fun M8 w8 => ?_
          refine hk _ ?_
          rw [if_pos c5]; exact w8
        · refine hk _ ?_
          rw [if_neg c5]; exact w4
