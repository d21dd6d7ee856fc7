/-! ===== the reference against the middle machine: blocks and notes ===== -/
theorem uA_o (M : vM) {j k : Nat} (g : Nat → Int32) (x : Nat) (h : k ≠ j) : (uA M j g).2 k x = M.2 k x := if_neg h
theorem RR_d {V : Nat} {st : Nat → Sta} {lg : Nat → Nat} {w w' : Nat → Nat → Int32} {R : Rp} {d : Nat → Nat} (h : RR V st lg w R) (hn : ∀ k x, k ≠ 36 → w' k x = w k x) (h1 : ∀ a, a < 32768 → w' 36 a = sb_b (d a)) : RR V st lg w' (R.d d) := by
  obtain ⟨a1, a2, a3, a4, a5, a6, a7, a8, a9, a10, a11⟩ := h
  refine ⟨fun k hk => ?_, fun i k b1 b2 b3 => ?_, fun i b1 b2 b3 => ?_, fun i b1 b2 => ?_, fun s hs => ?_, fun s hs => ?_, fun k hk => ?_, ?_, fun k hk => ?_, ?_, h1⟩
  · rw [hn k 0 (fun e => by rw [e] at hk; exact absurd hk (by decide))]; exact a1 k hk
  · rw [hn _ _ (by decide)]; exact a2 i k b1 b2 b3
  · rw [hn _ _ (by decide)]; exact a3 i b1 b2 b3
  · rw [hn _ _ (by decide)]; exact a4 i b1 b2
  · rw [hn _ _ (by decide)]; exact a5 s hs
  · rw [hn _ _ (by decide)]; exact a6 s hs
  · rw [hn _ _ (by decide)]; exact a7 k hk
  · rw [hn _ _ (by decide)]; exact a8
  · obtain ⟨q1, q2, q3, q4, q5, q6⟩ := a9 k hk
    have e29 : w' 29 = w 29 := funext fun x => hn _ _ (by decide)
    refine ⟨?_, ?_, ?_, ?_, fun e => ?_, fun e x hx => ?_⟩
    · rw [hn _ _ (by decide)]; exact q1
    · rw [hn _ _ (by decide)]; exact q2
    · rw [hn _ _ (by decide)]; exact q3
    · rw [hn _ _ (by decide)]; exact q4
    · rw [e29]; exact q5 e
    · rw [hn _ _ (by decide)]; exact q6 e x hx
  · rw [hn _ _ (by decide)]; exact a10
theorem WM_dk {M : vM} {S : Sx} {r : Nat} {R : Rp} {g : Nat → Int32} {d : Nat → Nat} (h : WM M (S.set r R)) (hr : r < 9) (h1 : ∀ a, a < 32768 → g (32768 * r + a) = sb_b (d a)) (h2 : ∀ x, x / 32768 ≠ r → g x = M.2 36 x) : WM (uA M 36 g) (S.set r (R.d d)) := by
  have hR := WM_r h hr
  obtain ⟨b1, b2, b3, b4, b5, b6⟩ := h
  have en : ∀ k, k ≠ 36 → (uA M 36 g).2 k = M.2 k := fun k hk => funext fun x => if_neg hk
  refine ⟨b1, b2, RT_c (fun f hf => en f (by omega)) b3, fun k hk => ?_, fun s hs => RS_c (fun f hf => en f (by omega)) (b5 s hs), fun n hn => RG_c (fun f hf hf2 => en f (by omega)) (b6 n hn)⟩
  by_cases e : k = r
  · subst e
    rw [set_rp]
    refine RR_d hR (fun j x hj => ?_) (fun a ha => ?_)
    · unfold vw
      rw [en j hj]
    · rw [vw_a (show a < zs 36 from ha)]
      exact h1 a ha
  · rw [set_ne _ _ e]
    have := b4 k hk
    rw [set_ne _ _ e] at this
    have ev : vw (uA M 36 g) k = vw M k := by
      funext j x
      by_cases ej : j = 36
      · subst ej
        by_cases hx : x < zs 36
        · rw [vw_a hx, vw_a hx]
          have hx' : x < 32768 := hx
          exact h2 (32768 * k + x) (by omega)
        · unfold vw; rw [if_neg hx, if_neg hx]
      · unfold vw; rw [en j ej]
    rw [ev]
    exact this
def kp (M' M : vM) : Prop := ∀ k, k ≠ 34 → k ≠ 35 → k ≠ 36 → M'.2 k = M.2 k
theorem kp.trans {A B C : vM} (h : kp A B) (g : kp B C) : kp A C := fun k a b c => (h k a b c).trans (g k a b c)
def y_b1 (l : List Nat) (start : Nat) (R : Rp) (b : Nat) : Rp := ((R.u 35 (if R.1 35 = y_no then y_no else R.1 35 - 1)).u 34 (R.1 34 + 1)).d (y_plc R.2.2.2 l b start)
theorem y_blk_c (l : List Nat) (start : Nat) (R : Rp) (b : Nat) (bs : List Nat) : y_blk l start R (b :: bs) = if R.1 35 = 0 then (R.u 35 y_no, false) else y_blk l start (y_b1 l start R b) bs := rfl
theorem dueN_n {d : Nat} (h0 : d ≠ 0) (h : d < 2 ^ 30 ∨ d = y_no) : dueN' (nI d) = nI (if d = y_no then y_no else d - 1) := by
  unfold dueN'
  rcases h with h | h
  · rw [if_neg (show ¬ nI d ≤ 0 from nI_ge (b := d) (a := 0) (by omega) (by omega)), if_neg (show ¬ d = y_no by show ¬ d = 4294967295; omega)]
    have : nI d = nI (d - 1 + 1) := by congr 1; omega
    rw [this, nI_p1]
  · subst h; decide
def DuOk (R : Rp) : Prop := R.1 35 < 2 ^ 30 ∨ R.1 35 = y_no
theorem DuOk_b1 {R : Rp} (h : DuOk R) (l : List Nat) (start b : Nat) : DuOk (y_b1 l start R b) := by
  show ((y_b1 l start R b).1 35 < _) ∨ _
  have : (y_b1 l start R b).1 35 = if R.1 35 = y_no then y_no else R.1 35 - 1 := by
    exact (u_n (R.u 35 (if R.1 35 = y_no then y_no else R.1 35 - 1)) (R.1 34 + 1) (show 35 ≠ 34 by decide)).trans (u_s _ _ _)
  rw [this]
  rcases h with h | h
  · by_cases e : R.1 35 = y_no
    · rw [if_pos e]; exact Or.inr rfl
    · rw [if_neg e]; exact Or.inl (by omega)
  · rw [if_pos h]; exact Or.inr rfl
theorem b1_o {R : Rp} {l : List Nat} {start b f : Nat} (h1 : f ≠ 34) (h2 : f ≠ 35) : (y_b1 l start R b).1 f = R.1 f := by
  exact (va_up_ne _ _ h1).trans (va_up_ne _ _ h2)
theorem r_putBlock {M : vM} {S : Sx} {r b f g start : Nat} {R : Rp} {l : List Nat} {c2 c3 : Int32} (hs : SmS S) (h : WM M (S.set r R)) (hr : r < 9) (hb : b < 64) (hf : f < 65536) (hg : g < 65536) (hl : Bts l) (hll : l.length ≤ 2400) (hd : DuOk R) (e : start + g = 512 * b + f) (ec2 : c2 = nI b) (ec3 : c3 = nI f - nI g) : tr (F_X12_putBlock (sl M l) (nI r) c2 c3) (fun p => (R.1 35 = 0 ∧ p.2 = 0 ∧ WM p.1 (y_goDown (S.set r (R.u 35 y_no)) r)) ∨ (¬ R.1 35 = 0 ∧ p.2 = 1 ∧ ∃ M', p.1 = sl M' l ∧ kp M' M ∧ WM M' (S.set r (y_b1 l start R b)))) := by
  subst ec2; subst ec3
  have h35 := WM_g (j := 35) h hr rfl
  by_cases c : R.1 35 = 0
  · unfold F_X12_putBlock
    refine tr_Gr (WM_sl h) hr rfl ?_
    rw [if_pos (show nI (R.1 35) = 0 by rw [c]; rfl)]
    refine tr_Sr (j := 35) y_no (WM_sl h) hr rfl (by decide) (by decide) (by decide) fun M1 h1 => ?_
    refine tr_bind (r_goDown hs h1 hr) fun M2 h2 => ?_
    exact tr_z0 (tr_some (Or.inl ⟨c, rfl, h2⟩))
  · have hd0 : ¬ M.2 35 r = 0 := by
      rw [h35]
      intro q
      exact c (nI_inj (b := 0) (by have : R.1 35 < 2 ^ 30 ∨ R.1 35 = 4294967295 := hd; omega) (by decide) q)
    rw [e_putBlock hr hb hf hg hl hll hd0]
    refine tr_some (Or.inr ⟨c, rfl, _, rfl, fun k k1 k2 k3 => funext fun x => by rw [uA_o _ _ _ k3, uE_j _ _ _ k1, uE_j _ _ _ k2], ?_⟩)
    rw [h35, WM_g (j := 34) h hr rfl, dueN_n c hd]
    have h1 := WM_u (j := 35) (v := if R.1 35 = y_no then y_no else R.1 35 - 1) h hr rfl (by decide) (by decide) (by decide)
    have h2 := WM_u (j := 34) (v := R.1 34 + 1) h1 hr rfl (by decide) (by decide) (by decide)
    rw [← nI_add] at h2
    refine WM_dk (d := y_plc R.2.2.2 l b start) h2 hr (fun a ha => ?_) (fun x hx => ?_)
    · have h36 : M.2 36 (32768 * r + a) = sb_b (R.2.2.2 a) := by
        have := (WM_r h hr).2.2.2.2.2.2.2.2.2.2 a ha
        rw [vw_a (show a < zs 36 from ha)] at this
        exact this
      unfold plM y_plc
      by_cases q : max start (512 * b) ≤ a ∧ a < 512 * (b + 1)
      · rw [if_pos q, if_pos (by omega)]
        congr 2
        omega
      · rw [if_neg q, if_neg (by omega)]
        exact h36
    · unfold plM
      rw [if_neg (by omega), uE_j _ _ _ (by decide), uE_j _ _ _ (by decide)]
/-! records -/
theorem RR_j {V : Nat} {st : Nat → Sta} {lg : Nat → Nat} {w : Nat → Nat → Int32} {R : Rp} {j i : Nat} {v : Int32} (h : RR V st lg w R) (hj : (j = 28 ∧ 4 * R.2.2.1.length ≤ i) ∨ (j = 29 ∧ 100 * R.2.2.1.length ≤ i)) (hV : V ≤ 16) : RR V st lg (vi_u2 w j i v) R := by
  have hn : ∀ k x, k ≠ 28 → k ≠ 29 → vi_u2 w j i v k x = w k x := fun k x e1 e2 => vi_u2i _ _ (by omega)
  obtain ⟨a1, a2, a3, a4, a5, a6, a7, a8, a9, a10, a11⟩ := h
  refine ⟨fun k hk => ?_, fun i k b1 b2 b3 => ?_, fun i b1 b2 b3 => ?_, fun i b1 b2 => ?_, fun s hs => ?_, fun s hs => ?_, fun k hk => ?_, ?_, fun k hk => ?_, ?_, fun a ha => ?_⟩
  · rw [hn k 0 (fun e => by rw [e] at hk; exact absurd hk (by decide)) (fun e => by rw [e] at hk; exact absurd hk (by decide))]; exact a1 k hk
  · rw [hn _ _ (by decide) (by decide)]; exact a2 i k b1 b2 b3
  · rw [hn _ _ (by decide) (by decide)]; exact a3 i b1 b2 b3
  · rw [hn _ _ (by decide) (by decide)]; exact a4 i b1 b2
  · rw [hn _ _ (by decide) (by decide)]; exact a5 s hs
  · rw [hn _ _ (by decide) (by decide)]; exact a6 s hs
  · rw [hn _ _ (by decide) (by decide)]; exact a7 k hk
  · rw [hn _ _ (by decide) (by decide)]; exact a8
  · obtain ⟨q1, q2, q3, q4, q5, q6⟩ := a9 k hk
    have e28 : ∀ x, x < 4 * R.2.2.1.length → vi_u2 w j i v 28 x = w 28 x := fun x hx => vi_u2v _ _ _ _ (fun e => by omega)
    have e29 : ∀ x, x < 100 * R.2.2.1.length → vi_u2 w j i v 29 x = w 29 x := fun x hx => vi_u2v _ _ _ _ (fun e => by omega)
    refine ⟨?_, ?_, ?_, ?_, fun e => ?_, fun e x hx => ?_⟩
    · rw [e28 _ (by omega)]; exact q1
    · rw [e28 _ (by omega)]; exact q2
    · rw [e28 _ (by omega)]; exact q3
    · rw [e28 _ (by omega)]; exact q4
    · obtain ⟨p1, p2, p3, p4, p5⟩ := q5 e
      refine ⟨?_, fun x hx => ?_, fun x hx => ?_, fun x hx => ?_, fun x hx => ?_⟩
      · rw [e29 _ (by omega)]; exact p1
      · rw [e29 _ (by omega)]; exact p2 x hx
      · rw [e29 _ (by omega)]; exact p3 x hx
      · rw [e29 _ (by omega)]; exact p4 x hx
      · rw [e29 _ (by omega)]; exact p5 x hx
    · rw [e29 _ (by omega)]; exact q6 e x hx
  · rw [hn _ _ (by decide) (by decide)]; exact a10
  · rw [hn _ _ (by decide) (by decide)]; exact a11 a ha
theorem RR_n {V : Nat} {st : Nat → Sta} {lg : Nat → Nat} {w : Nat → Nat → Int32} {R : Rp} {l : List Nt} (h : RR V st lg w R) (hl : ∀ k, k < l.length → ntA V st w k (l.getD k ntD)) : RR V st lg (vi_u2 w 30 0 (nI l.length)) (R.n l) := by
  have hn : ∀ k x, k ≠ 30 → vi_u2 w 30 0 (nI l.length) k x = w k x := fun k x e1 => vi_u2i _ _ e1
  obtain ⟨a1, a2, a3, a4, a5, a6, a7, a8, a9, a10, a11⟩ := h
  refine ⟨fun k hk => ?_, fun i k b1 b2 b3 => ?_, fun i b1 b2 b3 => ?_, fun i b1 b2 => ?_, fun s hs => ?_, fun s hs => ?_, fun k hk => ?_, ?_, fun k hk => ?_, ?_, fun a ha => ?_⟩
  · rw [hn k 0 (fun e => by rw [e] at hk; exact absurd hk (by decide))]; exact a1 k hk
  · rw [hn _ _ (by decide)]; exact a2 i k b1 b2 b3
  · rw [hn _ _ (by decide)]; exact a3 i b1 b2 b3
  · rw [hn _ _ (by decide)]; exact a4 i b1 b2
  · rw [hn _ _ (by decide)]; exact a5 s hs
  · rw [hn _ _ (by decide)]; exact a6 s hs
  · rw [hn _ _ (by decide)]; exact a7 k hk
  · rw [hn _ _ (by decide)]; exact a8
  · exact hl k hk
  · exact vi_u2s _ _ _ _
  · rw [hn _ _ (by decide)]; exact a11 a ha
theorem WM_V {M : vM} {S : Sx} {r : Nat} {R : Rp} (h : WM M (S.set r R)) : M.1 2 = nI S.V := h.1 2 rfl
theorem getD_app1 {l : List Nt} {n : Nt} {k : Nat} (h : k < l.length) : (l ++ [n]).getD k ntD = l.getD k ntD := by
  rw [List.getD_eq_getElem?_getD, List.getD_eq_getElem?_getD, List.getElem?_append_left h]
theorem getD_app2 {l : List Nt} {n : Nt} : (l ++ [n]).getD l.length ntD = n := by
  rw [List.getD_eq_getElem?_getD, List.getElem?_append_right (Nat.le_refl _), Nat.sub_self]; rfl
/-- a note is added; what belongs to it in row 29 is there -/
theorem r_addNote {M : vM} {S : Sx} {r : Nat} {R : Rp} {n : Nt} {c2 c3 c4 c5 : Int32} (h : WM M (S.set r R)) (hr : r < 9) (hV : S.V ≤ 16) (hl : R.2.2.1.length < 64) (e2 : c2 = nI n.1) (e3 : c3 = nI n.2.1) (e4 : c4 = nI n.2.2.1) (e5 : c5 = nI n.2.2.2.1) (h4 : n.1 = 4 → imA (vw M r 29) (100 * R.2.2.1.length) S.V (S.sta n.2.2.2.2) n.2.2.2.2) (h5 : n.1 = 5 → ∀ x, x < 16 → vw M r 29 (100 * R.2.2.1.length + x) = (S.sta n.2.2.2.2).1 x) : tr (F_X12_addNote M (nI r) c2 c3 c4 c5) (fun M' => WM M' (S.set r (R.n (R.2.2.1 ++ [n])))) := by
  subst e2; subst e3; subst e4; subst e5
  unfold F_X12_addNote
  have e30 : ∀ {M : vM} {R : Rp}, WM M (S.set r R) → M.2 30 r = nI R.2.2.1.length := fun h => by
    have := (WM_r h hr).2.2.2.2.2.2.2.2.2.1
    rw [vw_1 rfl] at this; exact this
  have eix : ∀ x, x < 4 → zs 28 * r + (4 * R.2.2.1.length + x) = 4 * (64 * r + R.2.2.1.length) + x := fun x _ => by
    show 256 * r + _ = _; omega
  have ea : (4 : Int32) * ((64 : Int32) * nI r + nI R.2.2.1.length) = nI (4 * (64 * r + R.2.2.1.length)) := by
    rw [show (64 : Int32) * nI r = nI (64 * r) from nI_mul 64 r, nI_add, show (4 : Int32) * nI (64 * r + R.2.2.1.length) = nI (4 * (64 * r + R.2.2.1.length)) from nI_mul 4 _]
  refine tr_G (show r < 9 from hr) (by omega) ?_
  rw [e30 h, ea, show nI (4 * (64 * r + R.2.2.1.length)) + (1 : Int32) = nI (4 * (64 * r + R.2.2.1.length) + 1) from nI_add _ 1, show nI (4 * (64 * r + R.2.2.1.length)) + (2 : Int32) = nI (4 * (64 * r + R.2.2.1.length) + 2) from nI_add _ 2, show nI (4 * (64 * r + R.2.2.1.length)) + (3 : Int32) = nI (4 * (64 * r + R.2.2.1.length) + 3) from nI_add _ 3]
  have step : ∀ {M : vM} (x : Nat) (v : Int32), x < 4 → WM M (S.set r R) → WM (uE M 28 (4 * (64 * r + R.2.2.1.length) + x) v) (S.set r R) := fun x v hx h => by
    have := WM_set (j := 28) (i := 4 * R.2.2.1.length + x) (v := v) (R' := R) h hr (by show _ < 256; omega) (RR_j (WM_r h hr) (Or.inl ⟨rfl, by omega⟩) hV)
    rw [eix x hx] at this
    exact this
  have h1 := step 0 (nI n.1) (by omega) h
  have h2 := step 1 (nI n.2.1) (by omega) h1
  have h3 := step 2 (nI n.2.2.1) (by omega) h2
  have h4' := step 3 (nI n.2.2.2.1) (by omega) h3
  refine tr_S (show _ < 2304 by omega) (by omega) ?_
  refine tr_S (show _ < 2304 by omega) (by omega) ?_
  refine tr_S (show _ < 2304 by omega) (by omega) ?_
  refine tr_S (show _ < 2304 by omega) (by omega) ?_
  rw [Nat.add_zero] at h4'
  refine tr_G (show r < 9 from hr) (by omega) ?_
  rw [e30 h4', show nI R.2.2.1.length + (1 : Int32) = nI (R.2.2.1.length + 1) from nI_add _ 1]
  refine tr_S (show r < 9 from hr) (by omega) ?_
  refine tr_some ?_
  have hlen : (R.2.2.1 ++ [n]).length = R.2.2.1.length + 1 := by rw [List.length_append]; rfl
  have hA := WM_r h4' hr
  have := WM_set (j := 30) (i := 0) (v := nI (R.2.2.1 ++ [n]).length) (R' := R.n (R.2.2.1 ++ [n])) h4' hr (by decide) (RR_n hA (fun k hk => ?_))
  · rw [show zs 30 = 1 from rfl, Nat.one_mul, Nat.add_zero, hlen] at this
    exact this
  · by_cases e : k < R.2.2.1.length
    · rw [getD_app1 e]
      exact hA.2.2.2.2.2.2.2.2.1 k e
    · obtain rfl : k = R.2.2.1.length := by omega
      rw [getD_app2]
      have e29 : ∀ x, (vw (uE (uE (uE (uE M 28 (4 * (64 * r + R.2.2.1.length)) (nI n.1)) 28 (4 * (64 * r + R.2.2.1.length) + 1) (nI n.2.1)) 28 (4 * (64 * r + R.2.2.1.length) + 2) (nI n.2.2.1)) 28 (4 * (64 * r + R.2.2.1.length) + 3) (nI n.2.2.2.1)) r 29) x = vw M r 29 x := fun x => by
        unfold vw
        rw [uE_j _ _ _ (by decide), uE_j _ _ _ (by decide), uE_j _ _ _ (by decide), uE_j _ _ _ (by decide)]
      refine ⟨?_, ?_, ?_, ?_, fun e => ?_, fun e x hx => ?_⟩
      · rw [vw_a (by show _ < 256; omega), show zs 28 * r + 4 * R.2.2.1.length = 4 * (64 * r + R.2.2.1.length) from eix 0 (by omega), uE_i _ _ (by omega), uE_i _ _ (by omega), uE_i _ _ (by omega), uE_s]
      · rw [vw_a (by show _ < 256; omega), eix 1 (by omega), uE_i _ _ (by omega), uE_i _ _ (by omega), uE_s]
      · rw [vw_a (by show _ < 256; omega), eix 2 (by omega), uE_i _ _ (by omega), uE_s]
      · rw [vw_a (by show _ < 256; omega), eix 3 (by omega), uE_s]
      · rw [show (vw (uE (uE (uE (uE M 28 (4 * (64 * r + R.2.2.1.length)) (nI n.1)) 28 (4 * (64 * r + R.2.2.1.length) + 1) (nI n.2.1)) 28 (4 * (64 * r + R.2.2.1.length) + 2) (nI n.2.2.1)) 28 (4 * (64 * r + R.2.2.1.length) + 3) (nI n.2.2.2.1)) r 29) = vw M r 29 from funext e29]
        exact h4 e
      · rw [e29]; exact h5 e x hx
