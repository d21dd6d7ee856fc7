/-! ===== the reference: pieces of a state; whatever comes ===== -/
theorem u_uu (R : Rp) (f g a b c : Nat) : ((R.u f a).u g b).u f c = (R.u g b).u f c := by
  have : va_up (va_up (va_up R.1 f a) g b) f c = va_up (va_up R.1 g b) f c := by
    funext x
    by_cases e : x = f
    · subst e; rw [va_up_self, va_up_self]
    · rw [va_up_ne _ _ e, va_up_ne _ _ e]
      by_cases e2 : x = g
      · subst e2; rw [va_up_self, va_up_self]
      · rw [va_up_ne _ _ e2, va_up_ne _ _ e2, va_up_ne _ _ e]
  show (va_up (va_up (va_up R.1 f a) g b) f c, R.2) = (va_up (va_up R.1 g b) f c, R.2)
  rw [this]
def y_gs (R : Rp) (s k : Nat) : Nat := (if R.1 43 < s then 0 else R.1 44) ||| 2 ^ k
def y_gs1 (R : Rp) (s k : Nat) : Rp := (R.u 43 s).u 44 (y_gs R s k)
theorem gs_0 {S : Sx} {r s k : Nat} {R : Rp} (c : s ≤ R.1 7 ∨ s < R.1 43) : y_gotState (S.set r R) r s k = S.set r R := by
  unfold y_gotState
  rw [set_rp]
  exact if_pos c
theorem gs_1 {S : Sx} {r s k : Nat} {R : Rp} (c : ¬ (s ≤ R.1 7 ∨ s < R.1 43)) (c2 : ¬ y_gs R s k = 2 ^ y_many S s - 1) : y_gotState (S.set r R) r s k = S.set r (y_gs1 R s k) := by
  unfold y_gotState
  rw [set_rp]
  refine (if_neg c).trans ((if_neg c2).trans ?_)
  exact set_set _ _ _ _
theorem gs_2 {S : Sx} {r s k : Nat} {R : Rp} (c : ¬ (s ≤ R.1 7 ∨ s < R.1 43)) (c2 : y_gs R s k = 2 ^ y_many S s - 1) (c3 : (y_note (S.set r (y_gs1 R s k)) r (4, 0, 0, 0, s)).2 = false) : y_gotState (S.set r R) r s k = (y_note (S.set r (y_gs1 R s k)) r (4, 0, 0, 0, s)).1 := by
  unfold y_gotState
  rw [set_rp]
  refine (if_neg c).trans ((if_pos c2).trans ?_)
  show (if (y_note ((S.set r R).set r (y_gs1 R s k)) r (4, 0, 0, 0, s)).2 = true then _ else (y_note ((S.set r R).set r (y_gs1 R s k)) r (4, 0, 0, 0, s)).1) = _
  rw [set_set, if_neg (by rw [c3]; decide)]
theorem gs_3 {S : Sx} {r s k : Nat} {R R' : Rp} (c : ¬ (s ≤ R.1 7 ∨ s < R.1 43)) (c2 : y_gs R s k = 2 ^ y_many S s - 1) (c3 : (y_note (S.set r (y_gs1 R s k)) r (4, 0, 0, 0, s)).2 = true) (e : (y_note (S.set r (y_gs1 R s k)) r (4, 0, 0, 0, s)).1 = S.set r R') (c4 : (y_ckp (S.set r (((rst R' s).u 11 0).u 12 0)) r).2 = false) : y_gotState (S.set r R) r s k = (y_ckp (S.set r (((rst R' s).u 11 0).u 12 0)) r).1 := by
  unfold y_gotState
  rw [set_rp]
  refine (if_neg c).trans ((if_pos c2).trans ?_)
  show (if (y_note ((S.set r R).set r (y_gs1 R s k)) r (4, 0, 0, 0, s)).2 = true then (if (y_ckp ((y_note ((S.set r R).set r (y_gs1 R s k)) r (4, 0, 0, 0, s)).1.set r (((rst ((y_note ((S.set r R).set r (y_gs1 R s k)) r (4, 0, 0, 0, s)).1.rp r) s).u 11 0).u 12 0)) r).2 = true then _ else (y_ckp ((y_note ((S.set r R).set r (y_gs1 R s k)) r (4, 0, 0, 0, s)).1.set r (((rst ((y_note ((S.set r R).set r (y_gs1 R s k)) r (4, 0, 0, 0, s)).1.rp r) s).u 11 0).u 12 0)) r).1) else _) = _
  rw [set_set, if_pos c3, e, set_rp, set_set, if_neg (by rw [c4]; decide)]
theorem gs_4 {S : Sx} {r s k : Nat} {R R' R3 : Rp} (c : ¬ (s ≤ R.1 7 ∨ s < R.1 43)) (c2 : y_gs R s k = 2 ^ y_many S s - 1) (c3 : (y_note (S.set r (y_gs1 R s k)) r (4, 0, 0, 0, s)).2 = true) (e : (y_note (S.set r (y_gs1 R s k)) r (4, 0, 0, 0, s)).1 = S.set r R') (c4 : (y_ckp (S.set r (((rst R' s).u 11 0).u 12 0)) r).2 = true) (e4 : (y_ckp (S.set r (((rst R' s).u 11 0).u 12 0)) r).1 = S.set r R3) : y_gotState (S.set r R) r s k = y_tell (S.set r ((y_follow R3).u 13 0)) r := by
  unfold y_gotState
  rw [set_rp]
  refine (if_neg c).trans ((if_pos c2).trans ?_)
  show (if (y_note ((S.set r R).set r (y_gs1 R s k)) r (4, 0, 0, 0, s)).2 = true then (if (y_ckp ((y_note ((S.set r R).set r (y_gs1 R s k)) r (4, 0, 0, 0, s)).1.set r (((rst ((y_note ((S.set r R).set r (y_gs1 R s k)) r (4, 0, 0, 0, s)).1.rp r) s).u 11 0).u 12 0)) r).2 = true then y_tell ((y_ckp ((y_note ((S.set r R).set r (y_gs1 R s k)) r (4, 0, 0, 0, s)).1.set r (((rst ((y_note ((S.set r R).set r (y_gs1 R s k)) r (4, 0, 0, 0, s)).1.rp r) s).u 11 0).u 12 0)) r).1.set r ((y_follow ((y_ckp ((y_note ((S.set r R).set r (y_gs1 R s k)) r (4, 0, 0, 0, s)).1.set r (((rst ((y_note ((S.set r R).set r (y_gs1 R s k)) r (4, 0, 0, 0, s)).1.rp r) s).u 11 0).u 12 0)) r).1.rp r)).u 13 0)) r else _) else _) = _
  rw [set_set, if_pos c3, e, set_rp, set_set, if_pos c4, e4, set_rp, set_set]
theorem q_gs121 {ρ : Type} {kx : vM → Option ρ} {Q : ρ → Prop} {M : vM} {S : Sx} {r : Nat} {R : Rp} {l : List Nat} (h : WM M (S.set r R)) (hr : r < 9) (hV : S.V ≤ 16) (hl : R.2.2.1.length < 48) (g : ∀ M', WM M' (S.set r R) → M'.2 45 = M.2 45 → (∀ x, x < 100 → M'.2 29 (6400 * r + (100 * R.2.2.1.length + x)) = M.2 45 x) → tr (kx (sl M' l)) Q) : tr (L_X12_gotState_121 (nI r) kx fu (sl M l) 0) Q := by
  refine tr_up0 (g := L_X12_gotState_121 (nI r) kx) (fun k M' => ∃ Y, M' = sl Y l ∧ WM Y (S.set r R) ∧ Y.2 45 = M.2 45 ∧ ∀ x, x < k → Y.2 29 (6400 * r + (100 * R.2.2.1.length + x)) = M.2 45 x) 100 (by decide) (fun f M1 hP => ?_) (fun f k M1 hk hP ih => ?_) _ ⟨M, rfl, h, rfl, fun x hx => absurd hx (Nat.not_lt_zero _)⟩
  · obtain ⟨Y, rfl, p1, p2, p3⟩ := hP
    rw [L_X12_gotState_121, if_pos (show (100 : Int32) ≤ nI 100 from nI_le (Nat.le_refl 100) (by decide))]
    exact g Y p1 p2 p3
  · obtain ⟨Y, rfl, p1, p2, p3⟩ := hP
    have e30 : Y.2 30 r = nI R.2.2.1.length := by
      have := (WM_r p1 hr).2.2.2.2.2.2.2.2.2.1
      rw [vw_1 rfl] at this; exact this
    rw [L_X12_gotState_121, if_neg (show ¬ (100 : Int32) ≤ nI k from nI_ge (b := 100) (by omega) (by decide))]
    refine tr_G (show r < 9 from hr) (by omega) ?_
    rw [sl_2 _ _ _ (by decide), e30]
    refine tr_G (show k < 100 from hk) (by omega) ?_
    rw [sl_2 _ _ _ (by decide), p2, show (64 : Int32) * nI r = nI (64 * r) from nI_mul 64 r, nI_add, show (100 : Int32) * nI (64 * r + R.2.2.1.length) = nI (100 * (64 * r + R.2.2.1.length)) from nI_mul 100 _, nI_add, nI_add1, show 100 * (64 * r + R.2.2.1.length) + k = 6400 * r + (100 * R.2.2.1.length + k) by omega]
    refine tr_S (show _ < 57600 by omega) (by omega) ?_
    rw [uE_sl _ _ _ _ (by decide)]
    refine ih _ ⟨_, rfl, WM_29 p1 hr hV (by omega) (by omega), ?_, fun x hx => ?_⟩
    · rw [← p2]; exact funext fun y => uE_j _ _ _ (by decide)
    · by_cases e : x = k
      · subst e; rw [uE_s]
      · rw [uE_i _ _ (by omega)]; exact p3 x (by omega)
theorem gs_lt {R : Rp} {s k : Nat} (h : R.1 44 < 16) (hk : k < 4) : y_gs R s k < 16 := by
  unfold y_gs
  refine Nat.or_lt_two_pow (n := 4) ?_ (Nat.pow_lt_pow_right (by decide) hk)
  split <;> omega
theorem r_gotState {M : vM} {S : Sx} {r s k : Nat} {R : Rp} (hC : Cx S) (h : WM M (S.set r R)) (hr : r < 9) (hO : OkR S R) (hs : s < 29990) (hk : k < 4) (him : imA (M.2 45) 0 S.V (S.sta s) s) : tr (F_X12_gotState M (nI r) (nI s) (nI k)) (fun M' => WM M' (y_gotState (S.set r R) r s k)) := by
  have h7 := hO.2.2.2.2.1
  have h43 := okv hO 43 (by decide)
  have h44 : R.1 44 < 16 := hO.1 44
  have hV := hC.V
  have hV1 : 1 ≤ S.V := hC.2.2.1
  have z := hO.z
  have hg16 := gs_lt (s := s) h44 hk
  unfold F_X12_gotState
  refine tr_Gr h hr rfl ?_
  refine tr_le (by omega) (by omega) (fun c => by rw [gs_0 (Or.inl c)]; exact tr_some h) (fun c => ?_)
  refine tr_Gr h hr rfl ?_
  refine tr_le (by omega) (by omega) (fun c2 => ?_) (fun c2 => by rw [gs_0 (Or.inr c2)]; exact tr_some h)
  have cn : ¬ (s ≤ R.1 7 ∨ s < R.1 43) := by omega
  refine tr_Gr h hr rfl ?_
  refine tr_jnK (fun v => v = nI (if R.1 43 < s then 0 else R.1 44)) (fun v hv => ?_) (fun k hk => ?_)
  · subst hv
    have o1 : OkR S (y_gs1 R s k) := (hO.u (f := 43) rfl (show s < 65536 by omega)).u (f := 44) rfl hg16
    refine tr_S (show r < 9 from hr) (by omega) ?_
    have wa := WM_u (j := 44) (v := if R.1 43 < s then 0 else R.1 44) h hr rfl (by decide) (by decide) (by decide)
    refine tr_S (show r < 9 from hr) (by omega) ?_
    have wb := WM_u (j := 43) (v := s) wa hr rfl (by decide) (by decide) (by decide)
    refine tr_Gr wb hr rfl ?_
    rw [show (((R.u 44 (if R.1 43 < s then 0 else R.1 44)).u 43 s).1 44) = (if R.1 43 < s then 0 else R.1 44) from rfl, orb (by omega)]
    refine tr_S (show r < 9 from hr) (by omega) ?_
    have wc := WM_u (j := 44) (v := y_gs R s k) wb hr rfl (by decide) (by decide) (by decide)
    rw [u_uu] at wc
    have e45 : (uE (uE (uE M 44 r (nI (if R.1 43 < s then 0 else R.1 44))) 43 r (nI s)) 44 r (nI (y_gs R s k))).2 45 = M.2 45 := funext fun y => by rw [uE_j _ _ _ (by decide), uE_j _ _ _ (by decide), uE_j _ _ _ (by decide)]
    rw [show ((if R.1 43 < s then 0 else R.1 44) ||| 2 ^ k) = y_gs R s k from rfl]
    generalize uE (uE (uE M 44 r (nI (if R.1 43 < s then 0 else R.1 44))) 43 r (nI s)) 44 r (nI (y_gs R s k)) = M1 at wc e45 ⊢
    rw [← e45] at him
    have wc' : WM M1 (S.set r (y_gs1 R s k)) := wc
    have hlen := enc_len hC (i := s) (by omega)
    refine tr_b2 (r_layWhole (j := 45) (a := 0) (V := S.V) (s := S.sta s) (i := s) (by decide) (by decide) rfl (by decide) (by decide) (wc'.1 2 rfl) hV (by omega) (sta_b hC s) him) fun M2 v hv => ?_
    obtain ⟨e1, M3, e2, q1, q2, q3⟩ := hv
    dsimp only at e1 e2
    subst e1; subst e2
    have w3 : WM M3 (S.set r (y_gs1 R s k)) := WM_c wc' (fun f _ => by rw [q1]) (by rw [q1]) (fun j hj => q2 j (fun e => by rw [e] at hj; exact absurd hj (by decide)))
    refine tr_Gr (WM_sl w3) hr rfl ?_
    rw [show (y_gs1 R s k).1 44 = y_gs R s k from rfl]
    have hm8 : y_many S s < 9 := by
      show ((S.enc s).length + 63) / 64 < 9
      omega
    rw [show nI (encSt S.V (S.sta s) s).length + (63 : Int32) = nI ((S.enc s).length + 63) from nI_add _ 63, show nI ((S.enc s).length + 63) / (64 : Int32) = nI (y_many S s) from nI_div (b := 64) (by omega) (by decide), shl1 hm8, show nI (2 ^ y_many S s) - (1 : Int32) = nI (2 ^ y_many S s - 1) from nI_sub (b := 1) (Nat.one_le_two_pow)]
    have hp : 2 ^ y_many S s < 2 ^ 9 := Nat.pow_lt_pow_right (by decide) hm8
    refine tr_eq (by omega) (by omega) (fun c3 => ?_) (fun c3 => by rw [gs_1 cn c3]; exact tr_some (WM_sl w3))
    refine tr_l1 ?_
    rw [sl_0, e_lay _ (by decide), Option.bind_some]
    have w4 := WM_sl (l := encSt S.V (S.sta s) s) w3
    have him4 : imA ((sl M3 (encSt S.V (S.sta s) s)).2 45) 0 S.V (S.sta s) s := by
      rw [show (sl M3 (encSt S.V (S.sta s) s)).2 45 = M1.2 45 from funext fun y => by rw [sl_2 _ _ _ (by decide), q2 45 (by decide)]]
      exact him
    generalize sl M3 (encSt S.V (S.sta s) s) = X at w4 him4 ⊢
    obtain ⟨i1, i2, i3, i4, i5⟩ := him4
    have e := e_layState (M := X) (l := [4]) (j := 45) (a := 0) (V := S.V) (vd := fun k => nI ((S.sta s).2.2.1 k)) (by decide) rfl (by decide) (by decide) (w4.1 2 rfl) hV i1 (by omega) i2 i3 (fun k => Nat.lt_trans (sta_b hC s k) (by decide)) i4 i5 (Nat.le_of_ble_eq_true rfl)
    rw [show F_X12_layState (sl X ([] ++ [by8 (4 : Int32)])) 45 (0 : Int32) = some (sl X (y_pay S.V S.tb S.sta (4, 0, 0, 0, s))) from e, Option.bind_some]
    refine q_gs121 w4 hr hV o1.2.2.1 fun Y wY y45 y29 => ?_
    have imY : imA (Y.2 45) 0 S.V (S.sta s) s := by rw [y45]; exact ⟨i1, i2, i3, i4, i5⟩
    have hn : NbOk (4, 0, 0, 0, s) := ⟨(by decide : 1 ≤ 4), (by decide : 4 ≤ 5), (by decide : 0 < 2 ^ 31), (by decide : 0 < 2 ^ 31), (by omega : s < 2 ^ 31)⟩
    have im29 : imA (vw Y r 29) (100 * (y_gs1 R s k).2.2.1.length) S.V (S.sta s) s := by
      have hl := o1.2.2.1
      have rd : ∀ x, x < 100 → vw Y r 29 (100 * (y_gs1 R s k).2.2.1.length + x) = X.2 45 x := fun x hx => by
        rw [vw_a (show _ < 6400 by omega)]; exact y29 x hx
      refine ⟨?_, fun k hk => ?_, fun k hk => ?_, fun k hk => ?_, fun v hv => ?_⟩
      · exact (rd 0 (by decide)).trans i1
      · rw [Nat.add_assoc]
        exact (rd (1 + k) (by omega)).trans (by have := i2 k hk; rw [Nat.zero_add] at this; exact this)
      · rw [Nat.add_assoc]
        exact (rd (17 + k) (by omega)).trans (by have := i3 k hk; rw [Nat.zero_add] at this; exact this)
      · rw [Nat.add_assoc]
        exact (rd (33 + k) (by omega)).trans (by have := i4 k hk; rw [Nat.zero_add] at this; exact this)
      · rw [Nat.add_assoc]
        exact (rd (49 + v) (by omega)).trans (by have := i5 v hv; rw [Nat.zero_add] at this; exact this)
    refine tr_b2 (r_note' (S := S) (n := (4, 0, 0, 0, s)) hC wY hr o1.2.1 o1.2.2.1 hn rfl rfl rfl rfl (fun _ => im29) (fun e => absurd e (show ¬ 4 = 5 by decide))) fun M5 v hv => ?_
    obtain ⟨e1, w5, k5⟩ := hv
    dsimp only at e1 w5 k5
    rw [e1]
    refine tr_if (fun c4 => by rw [gs_2 cn c3 c4]; exact tr_some w5) (fun c4 => ?_)
    obtain ⟨R', eR, f1, f2, f3, f4, f5⟩ := note_t c4
    rw [eR] at w5
    have im5 : imA (M5.2 45) 0 S.V (S.sta s) s := by rw [k5 c4]; exact imY
    refine tr_bind (r_restore (j := 45) (a := 0) hC w5 hr (Or.inl rfl) (by decide) (by omega) im5) fun M6 h6 => ?_
    obtain ⟨_, _, w6⟩ := h6
    refine tr_bind (r_accept (b := 0) (q := 0) w6 hr) fun M7 w7 => ?_
    have hJ' : JR R' := note_J o1.2.1 o1.2.2.1 (rec_len hC hn) f1 f2 f4 f5
    have f10 : R'.1 10 = (y_gs1 R s k).1 10 := f1 10 (by decide) (by decide) (by decide)
    have f32 : R'.1 32 = (y_gs1 R s k).1 32 := f1 32 (by decide) (by decide) (by decide)
    have f43 : R'.1 43 = (y_gs1 R s k).1 43 := f1 43 (by decide) (by decide) (by decide)
    have o10 := okv o1 10 (by decide)
    have o32 := okv o1 32 (by decide)
    have o43 := okv o1 43 (by decide)
    refine tr_b2 (r_ckp (R := ((rst R' s).u 11 0).u 12 0) hC w7 hr (show JR R' from hJ') ⟨(show s < 2 ^ 30 by omega), Nat.le_refl s, (show s ≤ s + S.V by omega), (show R'.1 10 < 2 ^ 30 by omega), (show 0 < 2 ^ 30 by decide), z⟩ (show R'.1 32 < 2 ^ 30 by omega)) fun M8 v hv => ?_
    obtain ⟨e8, w8⟩ := hv
    dsimp only at e8 w8
    rw [e8]
    refine tr_if (fun c5 => by rw [gs_3 cn c3 c4 eR c5]; exact tr_some w8) (fun c5 => ?_)
    obtain ⟨R3, e3, g1, g2, g3, g4⟩ := ckp_t c5
    rw [gs_4 cn c3 c4 eR c5 e3]
    rw [e3] at w8
    refine tr_bind (r_follow w8 hr) fun M9 w9 => ?_
    refine tr_Sr 0 w9 hr rfl (by decide) (by decide) (by decide) fun M10 w10 => ?_
    have x7 : ((y_follow R3).u 13 0).1 7 = s := (g1 7 (by decide) (by decide) (by decide) (by decide) (by decide)).trans rfl
    have x43 : ((y_follow R3).u 13 0).1 43 = R'.1 43 := (g1 43 (by decide) (by decide) (by decide) (by decide) (by decide)).trans rfl
    have xq : ((y_follow R3).u 13 0).2.1 = R.2.1 := g2.trans f3
    refine tr_bind (r_tell (S := S.set r ((y_follow R3).u 13 0)) (hC.set r _) w10 hr (by rw [set_rp, x7]; omega) (by rw [set_rp, x43]; omega) (by rw [set_rp]; exact ⟨by rw [xq]; exact hO.2.2.2.1.1, fun q hq => hO.2.2.2.1.2 q (by rw [← xq]; exact hq)⟩)) fun M11 w11 => ?_
    exact tr_some w11
  · refine tr_le (by omega) (by omega) (fun c3 => ?_) (fun c3 => ?_)
    · exact tr_Gr h hr rfl (hk _ (by rw [if_neg (by omega)]))
    · exact hk _ (by rw [if_pos c3]; rfl)
/-- bounds of a message -/
def MgOk (S : Sx) (m : Mg) : Prop := 1 ≤ m 0 ∧ m 0 ≤ 10 ∧ m 1 < 9 ∧ m 2 < 9 ∧ m 3 < 65536 ∧ m 4 < 29990 ∧ m 5 < S.1 4 ∧ m 6 < 65536 ∧ (m 0 = 3 ∨ m 0 = 5 ∨ m 0 = 9 → 0 < m 5) ∧ (m 0 = 8 → m 8 < 4)
def y_seen (S : Sx) (m : Mg) : Sx := S.set (m 2) ((S.rp (m 2)).u 25 (max (m 3) ((S.rp (m 2)).1 25)))
theorem come_1 {S : Sx} {m : Mg} (e : m 0 = 1) : y_comes S m = y_prepared (y_seen S m) (m 2) (m 1) (m 3) (m 4) := by
  unfold y_comes; dsimp only; rw [e]; rfl
theorem come_2 {S : Sx} {m : Mg} (e : m 0 = 2) : y_comes S m = y_gotPromise (y_seen S m) (m 2) (m 1) (m 3) (m 4) (m 5) (m 6) := by
  unfold y_comes; dsimp only; rw [e]; rfl
theorem come_3 {S : Sx} {m : Mg} (e : m 0 = 3) : y_comes S m = y_gotAccept (y_seen S m) (m 2) (m 1) (m 3) (m 4) (m 5) := by
  unfold y_comes; dsimp only; rw [e]; rfl
theorem come_4 {S : Sx} {m : Mg} (e : m 0 = 4) : y_comes S m = y_gotAccepted (y_seen S m) (m 2) (m 1) (m 3) (m 4) := by
  unfold y_comes; dsimp only; rw [e]; rfl
theorem come_5 {S : Sx} {m : Mg} (e : m 0 = 5) : y_comes S m = (if m 4 = ((y_seen S m).rp (m 2)).1 7 + 1 then (y_learn (y_seen S m) (m 2) (m 5)).1 else if ((y_seen S m).rp (m 2)).1 7 + 1 < m 4 then y_send (y_seen S m) (y_msg 6 (m 2) (m 1) 0 (((y_seen S m).rp (m 2)).1 7 + 1) 0 0 0) else y_seen S m) := by
  unfold y_comes; dsimp only; rw [e]; rfl
theorem come_6 {S : Sx} {m : Mg} (e : m 0 = 6) : y_comes S m = (if m 4 ≤ ((y_seen S m).rp (m 2)).1 7 then y_help (y_seen S m) (m 2) (m 1) (m 4) else y_seen S m) := by
  unfold y_comes; dsimp only; rw [e]; rfl
theorem come_7 {S : Sx} {m : Mg} (e : m 0 = 7) : y_comes S m = (y_seen S m).set (m 2) (y_above ((y_seen S m).rp (m 2)) (m 3)) := by
  unfold y_comes; dsimp only; rw [e]; rfl
theorem come_8 {S : Sx} {m : Mg} (e : m 0 = 8) : y_comes S m = y_gotState (y_seen S m) (m 2) (m 4) (m 8) := by
  unfold y_comes; dsimp only; rw [e]; rfl
theorem come_9 {S : Sx} {m : Mg} (e : m 0 = 9) : y_comes S m = y_gotForward (y_seen S m) (m 2) (m 5) := by
  unfold y_comes; dsimp only; rw [e]; rfl
theorem come_10 {S : Sx} {m : Mg} (e : m 0 = 10) : y_comes S m = y_gotBeat (y_seen S m) (m 2) (m 1) (m 3) (m 4) := by
  unfold y_comes; dsimp only; rw [e]; rfl
theorem r_comes {M : vM} {S : Sx} {m : Mg} (hC : Cx S) (h : WM M S) (hfl : S.fl.length ≤ 200) (hO : OkR S (S.rp (m 2))) (hm : MgOk S m) (hL : LgOk S) (h8 : m 0 = 8 → M.1 58 = nI (m 8) ∧ imA (M.2 45) 0 S.V (S.sta (m 4)) (m 4)) (b7 : (S.rp (m 2)).1 7 + 2 < 29990) (b32 : (S.rp (m 2)).1 32 + 1 < 65536) (hl5 : m 0 = 5 → m 4 = (S.rp (m 2)).1 7 + 1 → (S.rp (m 2)).1 7 + 1 ≤ S.ll → S.lg ((S.rp (m 2)).1 7 + 1) = m 5) (hl4 : m 0 = 4 → (S.rp (m 2)).1 19 = 2 → (S.rp (m 2)).1 20 = m 3 → ¬ (S.rp (m 2)).1 22 = 0 → m 4 = (S.rp (m 2)).1 7 + 1 → ¬ ((S.rp (m 2)).1 21).testBit (m 1) → S.N < 2 * y_count S.N ((S.rp (m 2)).1 21 ||| 2 ^ (m 1)) → (S.rp (m 2)).1 7 + 1 ≤ S.ll → S.lg ((S.rp (m 2)).1 7 + 1) = (S.rp (m 2)).1 22) : tr (F_X12_comes M (nI (m 0)) (nI (m 1)) (nI (m 2)) (nI (m 3)) (nI (m 4)) (nI (m 5)) (nI (m 6))) (fun M' => WM M' (y_comes S m)) := by
  obtain ⟨m0, m0', m1, hr, m3, m4, m5, m6, mq, mp⟩ := hm
  have h' : WM M (S.set (m 2) (S.rp (m 2))) := by rw [set_id]; exact h
  have b25 := okv hO 25 (by decide)
  unfold F_X12_comes
  refine tr_Gr h' hr rfl ?_
  refine tr_jnK (fun v => v = nI (max (m 3) ((S.rp (m 2)).1 25))) (fun v hv => ?_) (fun k hk => ?_)
  · subst hv
    refine tr_S (show m 2 < 9 from hr) (by omega) ?_
    have w := WM_u (j := 25) (v := max (m 3) ((S.rp (m 2)).1 25)) h' hr rfl (by decide) (by decide) (by decide)
    have o1 : OkR S ((S.rp (m 2)).u 25 (max (m 3) ((S.rp (m 2)).1 25))) := hO.u rfl (show max (m 3) ((S.rp (m 2)).1 25) < 65536 by omega)
    have e45 : (uE M 25 (m 2) (nI (max (m 3) ((S.rp (m 2)).1 25)))).2 45 = M.2 45 := funext fun y => uE_j _ _ _ (by decide)
    have e58 : (uE M 25 (m 2) (nI (max (m 3) ((S.rp (m 2)).1 25)))).1 58 = M.1 58 := rfl
    have eS : y_seen S m = S.set (m 2) ((S.rp (m 2)).u 25 (max (m 3) ((S.rp (m 2)).1 25))) := rfl
    have x7 : ((S.rp (m 2)).u 25 (max (m 3) ((S.rp (m 2)).1 25))).1 7 = (S.rp (m 2)).1 7 := rfl
    have x8 : ((S.rp (m 2)).u 25 (max (m 3) ((S.rp (m 2)).1 25))).1 8 = (S.rp (m 2)).1 8 := rfl
    have x9 : ((S.rp (m 2)).u 25 (max (m 3) ((S.rp (m 2)).1 25))).1 9 = (S.rp (m 2)).1 9 := rfl
    have x19 : ((S.rp (m 2)).u 25 (max (m 3) ((S.rp (m 2)).1 25))).1 19 = (S.rp (m 2)).1 19 := rfl
    have x20 : ((S.rp (m 2)).u 25 (max (m 3) ((S.rp (m 2)).1 25))).1 20 = (S.rp (m 2)).1 20 := rfl
    have x21 : ((S.rp (m 2)).u 25 (max (m 3) ((S.rp (m 2)).1 25))).1 21 = (S.rp (m 2)).1 21 := rfl
    have x22 : ((S.rp (m 2)).u 25 (max (m 3) ((S.rp (m 2)).1 25))).1 22 = (S.rp (m 2)).1 22 := rfl
    have x32 : ((S.rp (m 2)).u 25 (max (m 3) ((S.rp (m 2)).1 25))).1 32 = (S.rp (m 2)).1 32 := rfl
    rw [← x7] at b7
    rw [← x32] at b32
    rw [← x7] at hl5
    rw [← x7, ← x19, ← x20, ← x21, ← x22] at hl4
    have hL' : LgOk (S.set (m 2) ((S.rp (m 2)).u 25 (max (m 3) ((S.rp (m 2)).1 25)))) := by
      refine ⟨fun k hk => ?_, hL.2⟩
      by_cases e : k = m 2
      · rw [e, set_rp]
        exact hL.1 (m 2) hr
      · rw [set_ne _ _ e]
        exact hL.1 k hk
    generalize uE M 25 (m 2) (nI (max (m 3) ((S.rp (m 2)).1 25))) = M1 at w e45 e58 ⊢
    generalize (S.rp (m 2)).u 25 (max (m 3) ((S.rp (m 2)).1 25)) = R at w o1 eS b7 b32 hl5 hl4 hL' ⊢
    have h7 := o1.2.2.2.2.1
    have h19 := okv o1 19 (by decide)
    have h20 := okv o1 20 (by decide)
    have hk10 : m 0 = 1 ∨ m 0 = 2 ∨ m 0 = 3 ∨ m 0 = 4 ∨ m 0 = 5 ∨ m 0 = 6 ∨ m 0 = 7 ∨ m 0 = 8 ∨ m 0 = 9 ∨ m 0 = 10 := by omega
    rcases hk10 with e | e | e | e | e | e | e | e | e | e
    · rw [come_1 e, eS, e, if_pos (show nI 1 = (1 : Int32) from rfl)]
      refine tr_bind (r_prepared hC w hr hfl o1 m3 (by omega)) fun M2 w2 => tr_some w2
    · rw [come_2 e, eS, e, if_neg (show ¬ nI 2 = (1 : Int32) by decide), if_pos (show nI 2 = (2 : Int32) from rfl)]
      refine tr_bind (r_gotPromise hC w hr m1 hfl o1 m3 (by omega) m5 m6) fun M2 w2 => tr_some w2
    · rw [come_3 e, eS, e, if_neg (show ¬ nI 3 = (1 : Int32) by decide), if_neg (show ¬ nI 3 = (2 : Int32) by decide), if_pos (show nI 3 = (3 : Int32) from rfl)]
      refine tr_bind (r_gotAccept hC w hr hfl o1 m3 (by omega) (mq (Or.inl e)) m5) fun M2 w2 => tr_some w2
    · rw [come_4 e, eS, e, if_neg (show ¬ nI 4 = (1 : Int32) by decide), if_neg (show ¬ nI 4 = (2 : Int32) by decide), if_neg (show ¬ nI 4 = (3 : Int32) by decide), if_pos (show nI 4 = (4 : Int32) from rfl)]
      refine tr_bind (r_gotAccepted hC w hr m1 hfl o1 m3 (by omega) hL' b7 b32 (hl4 e)) fun M2 w2 => tr_some w2
    · rw [come_5 e, eS, e, set_rp, if_neg (show ¬ nI 5 = (1 : Int32) by decide), if_neg (show ¬ nI 5 = (2 : Int32) by decide), if_neg (show ¬ nI 5 = (3 : Int32) by decide), if_neg (show ¬ nI 5 = (4 : Int32) by decide), if_pos (show nI 5 = (5 : Int32) from rfl)]
      refine tr_Gr w hr rfl ?_
      rw [nI_add1]
      refine tr_eq (by omega) (by omega) (fun c => ?_) (fun c => ?_)
      · rw [if_pos c]
        refine tr_b2 (r_learn (S := S) (R := R) hC w hr o1.2.1 o1.2.2.1 o1.b o1.x o1.g (mq (Or.inr (Or.inl e))) m5 hL' (hl5 e c) o1.2.2.2.1 (by omega)) fun M3 v hv => ?_
        exact tr_some hv.2
      · rw [if_neg c]
        refine tr_Gr w hr rfl ?_
        rw [nI_add1]
        refine tr_le (by omega) (by omega) (fun c2 => by rw [if_neg (by omega)]; exact tr_some w) (fun c2 => ?_)
        rw [if_pos c2]
        refine tr_Gr w hr rfl ?_
        refine tr_bind (r_send (kd := 6) (bl := 0) (sl := R.1 7 + 1) (rq := 0) (td := 0) (hC.set _ R) w hfl (by omega) rfl rfl rfl rfl (nI_add1 _) rfl rfl) fun M3 w3 => ?_
        exact tr_some w3
    · rw [come_6 e, eS, e, set_rp, if_neg (show ¬ nI 6 = (1 : Int32) by decide), if_neg (show ¬ nI 6 = (2 : Int32) by decide), if_neg (show ¬ nI 6 = (3 : Int32) by decide), if_neg (show ¬ nI 6 = (4 : Int32) by decide), if_neg (show ¬ nI 6 = (5 : Int32) by decide), if_pos (show nI 6 = (6 : Int32) from rfl)]
      refine tr_Gr w hr rfl ?_
      refine tr_lt (by omega) (by omega) (fun c => by rw [if_neg (by omega)]; exact tr_some w) (fun c => ?_)
      rw [if_pos c]
      refine tr_bind (r_help (S := S.set (m 2) R) (hC.set _ R) w hr hfl (by rw [set_rp]; omega) (by rw [set_rp]; exact o1.2.2.2.2.2.1) (by rw [set_rp]; exact o1.2.2.2.2.2.2.2.1) (by omega) rfl) fun M3 w3 => ?_
      exact tr_some w3
    · rw [come_7 e, eS, e, set_rp, set_set, if_neg (show ¬ nI 7 = (1 : Int32) by decide), if_neg (show ¬ nI 7 = (2 : Int32) by decide), if_neg (show ¬ nI 7 = (3 : Int32) by decide), if_neg (show ¬ nI 7 = (4 : Int32) by decide), if_neg (show ¬ nI 7 = (5 : Int32) by decide), if_neg (show ¬ nI 7 = (6 : Int32) by decide), if_pos (show nI 7 = (7 : Int32) from rfl)]
      exact r_above (K := fun M => some M) w hr o1 m3 fun M2 w2 => tr_some w2
    · rw [come_8 e, eS, e, if_neg (show ¬ nI 8 = (1 : Int32) by decide), if_neg (show ¬ nI 8 = (2 : Int32) by decide), if_neg (show ¬ nI 8 = (3 : Int32) by decide), if_neg (show ¬ nI 8 = (4 : Int32) by decide), if_neg (show ¬ nI 8 = (5 : Int32) by decide), if_neg (show ¬ nI 8 = (6 : Int32) by decide), if_neg (show ¬ nI 8 = (7 : Int32) by decide), if_pos (show nI 8 = (8 : Int32) from rfl), e58, (h8 e).1]
      refine tr_bind (r_gotState hC w hr o1 m4 (mp e) (by rw [e45]; exact (h8 e).2)) fun M2 w2 => tr_some w2
    · rw [come_9 e, eS, e, if_neg (show ¬ nI 9 = (1 : Int32) by decide), if_neg (show ¬ nI 9 = (2 : Int32) by decide), if_neg (show ¬ nI 9 = (3 : Int32) by decide), if_neg (show ¬ nI 9 = (4 : Int32) by decide), if_neg (show ¬ nI 9 = (5 : Int32) by decide), if_neg (show ¬ nI 9 = (6 : Int32) by decide), if_neg (show ¬ nI 9 = (7 : Int32) by decide), if_neg (show ¬ nI 9 = (8 : Int32) by decide), if_pos (show nI 9 = (9 : Int32) from rfl)]
      refine tr_bind (r_gotForward (S := S.set (m 2) R) (hC.set _ R) w hr (mq (Or.inr (Or.inr e))) m5 (by rw [set_rp]; exact o1.2.2.2.1)) fun M2 w2 => tr_some w2
    · rw [come_10 e, eS, e, if_neg (show ¬ nI 10 = (1 : Int32) by decide), if_neg (show ¬ nI 10 = (2 : Int32) by decide), if_neg (show ¬ nI 10 = (3 : Int32) by decide), if_neg (show ¬ nI 10 = (4 : Int32) by decide), if_neg (show ¬ nI 10 = (5 : Int32) by decide), if_neg (show ¬ nI 10 = (6 : Int32) by decide), if_neg (show ¬ nI 10 = (7 : Int32) by decide), if_neg (show ¬ nI 10 = (8 : Int32) by decide), if_neg (show ¬ nI 10 = (9 : Int32) by decide)]
      refine tr_bind (r_gotBeat hC w hr hfl o1 m3 (by omega)) fun M2 w2 => tr_some w2
  · refine tr_le (by omega) (by omega) (fun c => ?_) (fun c => ?_)
    · exact tr_Gr h' hr rfl (hk _ (by rw [Nat.max_eq_right c]))
    · exact hk _ (by rw [Nat.max_eq_left (by omega)])
