/-! ===== the reference's handlers ===== -/
theorem okv {S : Sx} {R : Rp} (h : OkR S R) (f : Nat) (hf : f ∈ [10, 11, 13, 19, 20, 21, 24, 25, 32, 43, 44]) : R.1 f < 65536 := by
  have := h.1 f
  simp only [List.mem_cons, List.not_mem_nil, or_false] at hf
  rcases hf with rfl | rfl | rfl | rfl | rfl | rfl | rfl | rfl | rfl | rfl | rfl <;> simp only [okw] at this <;> omega
/-- a promise asked for -/
def y_pr1 (S : Sx) (r b : Nat) : Sx × Bool := if (S.rp r).1 10 < b then y_notePr S r b else (S, true)
def y_pr2 (r t b s : Nat) (R : Rp) : Mg := if s = R.1 7 + 1 ∧ 0 < R.1 12 then y_msg 2 r t b s (R.1 12) (R.1 11) 0 else y_msg 2 r t b s 0 0 0
theorem prep_0 {S : Sx} {r t b s : Nat} {R : Rp} (c : s ≤ R.1 7) : y_prepared (S.set r R) r t b s = y_help (S.set r R) r t s := by
  unfold y_prepared
  rw [set_rp]
  exact if_pos c
theorem prep_1 {S : Sx} {r t b s : Nat} {R : Rp} (c : ¬ s ≤ R.1 7) (c2 : b < R.1 10) : y_prepared (S.set r R) r t b s = y_send (S.set r R) (y_msg 7 r t (R.1 10) 0 0 0 0) := by
  unfold y_prepared
  rw [set_rp]
  exact (if_neg c).trans (if_pos c2)
theorem prep_2 {S : Sx} {r t b s : Nat} {R : Rp} (c : ¬ s ≤ R.1 7) (c2 : ¬ b < R.1 10) : y_prepared (S.set r R) r t b s = if (y_pr1 (S.set r R) r b).2 = true then y_send ((y_pr1 (S.set r R) r b).1.set r (y_follow ((y_pr1 (S.set r R) r b).1.rp r))) (y_pr2 r t b s (y_follow ((y_pr1 (S.set r R) r b).1.rp r))) else (y_pr1 (S.set r R) r b).1 := by
  unfold y_prepared y_pr1 y_pr2
  rw [set_rp]
  exact (if_neg c).trans (if_neg c2)
theorem r_prepared {M : vM} {S : Sx} {r t b s : Nat} {R : Rp} (hC : Cx S) (h : WM M (S.set r R)) (hr : r < 9) (hfl : S.fl.length ≤ 200) (hO : OkR S R) (hb : b < 65536) (hs : s < 65536) : tr (F_X12_prepared M (nI r) (nI t) (nI b) (nI s)) (fun M' => WM M' (y_prepared (S.set r R) r t b s)) := by
  have h7 := hO.2.2.2.2.1
  have h8 := hO.2.2.2.2.2.1
  have h9 := hO.2.2.2.2.2.2.2.1
  have h10 := okv hO 10 (by decide)
  unfold F_X12_prepared
  refine tr_Gr h hr rfl ?_
  refine tr_lt (by omega) (by omega) (fun c => ?_) (fun c => ?_)
  · have c' : ¬ s ≤ R.1 7 := by omega
    refine tr_Gr h hr rfl ?_
    refine tr_le (by omega) (by omega) (fun c2 => ?_) (fun c2 => ?_)
    · rw [prep_2 c' (by omega)]
      refine tr_Gr h hr rfl ?_
      refine tr_jnK (fun M' => (y_pr1 (S.set r R) r b).2 = true ∧ WM M' (y_pr1 (S.set r R) r b).1) (fun M1 hw => ?_) (fun k hk => ?_)
      · obtain ⟨c3, w1⟩ := hw
        rw [if_pos c3]
        have hR : ∃ R', (y_pr1 (S.set r R) r b).1 = S.set r R' := by
          unfold y_pr1 at c3 ⊢
          rw [set_rp] at c3 ⊢
          split
          · rename_i c4
            rw [if_pos c4] at c3
            obtain ⟨R', eR, _⟩ := notePr_t c3
            exact ⟨R', eR⟩
          · exact ⟨R, rfl⟩
        have hB : ∀ R', (y_pr1 (S.set r R) r b).1 = S.set r R' → R'.1 7 = R.1 7 ∧ R'.1 12 = R.1 12 := by
          intro R' eR
          unfold y_pr1 at c3 eR
          rw [set_rp] at c3 eR
          by_cases c4 : R.1 10 < b
          · rw [if_pos c4] at c3 eR
            obtain ⟨R2, e2, f1, _⟩ := notePr_t c3
            have : R' = R2 := by
              have q : (S.set r R').rp r = (S.set r R2).rp r := by rw [← eR, e2]
              rw [set_rp, set_rp] at q; exact q
            subst this
            exact ⟨f1 7 (by decide) (by decide) (by decide) (by decide) (by decide) (by decide), f1 12 (by decide) (by decide) (by decide) (by decide) (by decide) (by decide)⟩
          · rw [if_neg c4] at eR
            have : R' = R := by
              have q : (S.set r R').rp r = (S.set r R).rp r := by rw [← eR]
              rw [set_rp, set_rp] at q; exact q
            subst this
            exact ⟨rfl, rfl⟩
        obtain ⟨R', eR⟩ := hR
        obtain ⟨q7, q12⟩ := hB R' eR
        rw [eR] at w1 ⊢
        rw [set_rp, set_set]
        refine tr_bind (r_follow w1 hr) fun M2 w2 => ?_
        have d7 : (y_follow R').1 7 = R.1 7 := by rw [← q7]; rfl
        have d12 : (y_follow R').1 12 = R.1 12 := by rw [← q12]; rfl
        have b12 : R.1 12 < S.1 4 := hO.1 12
        have hnr := hC.nr
        generalize y_follow R' = F at w2 d7 d12 ⊢
        refine tr_Gr w2 hr rfl ?_
        refine tr_jnK (fun v => v = if s = F.1 7 + 1 ∧ 0 < F.1 12 then (1 : Int32) else 0) (fun v hv => ?_) (fun k hk => ?_)
        · unfold y_pr2
          subst hv
          by_cases c5 : s = F.1 7 + 1 ∧ 0 < F.1 12
          · rw [if_pos c5, if_pos c5]
            refine tr_jnK (fun v => v = nI (F.1 12)) (fun v hv => ?_) (fun k hk => ?_)
            · subst hv
              rw [if_neg (by decide)]
              refine tr_Gr w2 hr rfl ?_
              refine tr_bind (r_send (kd := 2) (hC.set r F) w2 hfl (by omega) rfl rfl rfl rfl rfl rfl rfl) fun M3 w3 => ?_
              exact tr_some w3
            · rw [if_neg (by decide)]
              exact tr_Gr w2 hr rfl (hk _ rfl)
          · rw [if_neg c5, if_neg c5]
            refine tr_jnK (fun v => v = nI 0) (fun v hv => ?_) (fun k hk => ?_)
            · subst hv
              rw [if_pos rfl]
              refine tr_bind (r_send (kd := 2) (rq := 0) (td := 0) (hC.set r F) w2 hfl (by omega) rfl rfl rfl rfl rfl rfl rfl) fun M3 w3 => ?_
              exact tr_some w3
            · rw [if_pos rfl]
              exact hk _ rfl
        · rw [nI_add1]
          refine tr_eq (by omega) (by omega) (fun c5 => ?_) (fun c5 => ?_)
          · refine tr_Gr w2 hr rfl ?_
            refine tr_le (b := 0) (by omega) (by decide) (fun c6 => ?_) (fun c6 => ?_)
            · exact hk _ (by rw [if_neg (by omega)])
            · exact hk _ (by rw [if_pos ⟨c5, c6⟩])
          · exact hk _ (by rw [if_neg (fun x => c5 x.1)])
      · refine tr_le (by omega) (by omega) (fun c3 => ?_) (fun c3 => ?_)
        · have e : y_pr1 (S.set r R) r b = (S.set r R, true) := by
            unfold y_pr1
            rw [set_rp, if_neg (by omega)]
          exact hk _ (by rw [e]; exact ⟨rfl, h⟩)
        · have e : y_pr1 (S.set r R) r b = y_notePr (S.set r R) r b := by
            unfold y_pr1
            rw [set_rp, if_pos c3]
          rw [e] at hk ⊢
          refine q_notePr hC h hr hO hb (fun c4 M' w => ?_) (fun c4 M' w => ?_)
          · rw [if_neg (by rw [c4]; decide)]
            exact tr_some w
          · exact hk _ ⟨c4, w⟩
    · rw [prep_1 c' c2]
      refine tr_Gr h hr rfl ?_
      refine tr_bind (r_send (kd := 7) (sl := 0) (rq := 0) (td := 0) (hC.set r R) h hfl (by omega) rfl rfl rfl rfl rfl rfl rfl) fun M3 w3 => ?_
      exact tr_some w3
  · rw [prep_0 c]
    refine tr_bind (r_help (S := S.set r R) (hC.set r R) h hr hfl (by rw [set_rp]; omega) (by rw [set_rp]; exact h8) (by rw [set_rp]; exact h9) (by omega) rfl) fun M3 w3 => ?_
    exact tr_some w3
/-! a promise comes -/
def y_gp2 (R : Rp) (t q o : Nat) : Rp := if 0 < q ∧ R.1 24 < o then ((R.u 21 (R.1 21 ||| 2 ^ t)).u 23 q).u 24 o else R.u 21 (R.1 21 ||| 2 ^ t)
theorem gp_0 {S : Sx} {r t b s q o : Nat} {R : Rp} (c : ¬ (R.1 19 = 1 ∧ R.1 20 = b ∧ s = R.1 7 + 1 ∧ ¬ (R.1 21).testBit t)) : y_gotPromise (S.set r R) r t b s q o = S.set r R := by
  unfold y_gotPromise
  rw [set_rp]
  exact if_neg c
theorem gp_1 {S : Sx} {r t b s q o : Nat} {R : Rp} (c : R.1 19 = 1 ∧ R.1 20 = b ∧ s = R.1 7 + 1 ∧ ¬ (R.1 21).testBit t) : y_gotPromise (S.set r R) r t b s q o = if S.N < 2 * y_count S.N ((y_gp2 R t q o).1 21) then (if 0 < (y_gp2 R t q o).1 23 then y_proposeIt (S.set r ((((y_gp2 R t q o).u 19 2).u 21 0).u 13 0)) r ((y_gp2 R t q o).1 23) else (y_propose (S.set r ((((y_gp2 R t q o).u 19 2).u 21 0).u 13 0)) r).1) else S.set r (y_gp2 R t q o) := by
  unfold y_gotPromise
  rw [set_rp]
  refine (if_pos c).trans ?_
  show (if S.N < 2 * y_count S.N ((y_gp2 R t q o).1 21) then (if 0 < (y_gp2 R t q o).1 23 then y_proposeIt ((S.set r R).set r ((((y_gp2 R t q o).u 19 2).u 21 0).u 13 0)) r ((y_gp2 R t q o).1 23) else (y_propose ((S.set r R).set r ((((y_gp2 R t q o).u 19 2).u 21 0).u 13 0)) r).1) else (S.set r R).set r (y_gp2 R t q o)) = _
  rw [set_set, set_set]
theorem tr_ne {ρ : Type} {b : Bool} {x y : Option ρ} {Q : ρ → Prop} (h0 : ¬ b = true → tr y Q) (h1 : b = true → tr x Q) : tr (if nI (if b = true then 1 else 0) = (1 : Int32) then x else y) Q := by
  cases b
  · rw [if_neg (by decide)]; exact h0 (by decide)
  · rw [if_pos rfl]; exact h1 rfl
theorem or512 {a t : Nat} (ha : a < 512) (ht : t < 9) : a ||| 2 ^ t < 512 := Nat.or_lt_two_pow (n := 9) ha (Nat.pow_lt_pow_right (by decide) ht)
theorem cnt_le (N a : Nat) : y_count N a ≤ N := by
  unfold y_count
  have := List.countP_le_length (p := fun k => a.testBit k) (l := List.range' 0 N)
  rw [List.length_range'] at this; exact this
theorem r_gotPromise {M : vM} {S : Sx} {r t b s q o : Nat} {R : Rp} (hC : Cx S) (h : WM M (S.set r R)) (hr : r < 9) (ht : t < 9) (hfl : S.fl.length ≤ 200) (hO : OkR S R) (hb : b < 65536) (hs : s < 65536) (hq : q < S.1 4) (ho : o < 65536) : tr (F_X12_gotPromise M (nI r) (nI t) (nI b) (nI s) (nI q) (nI o)) (fun M' => WM M' (y_gotPromise (S.set r R) r t b s q o)) := by
  have h7 := hO.2.2.2.2.1
  have h19 := okv hO 19 (by decide)
  have h20 := okv hO 20 (by decide)
  have h24 := okv hO 24 (by decide)
  have h21 : R.1 21 < 512 := hO.1 21
  have hnr := hC.nr
  have hN := hC.N
  unfold F_X12_gotPromise
  refine tr_Gr h hr rfl ?_
  refine tr_eq (b := 1) (by omega) (by decide) (fun c1 => ?_) (fun c1 => by rw [gp_0 (fun x => c1 x.1)]; exact tr_some h)
  refine tr_Gr h hr rfl ?_
  refine tr_eq (by omega) (by omega) (fun c2 => ?_) (fun c2 => by rw [gp_0 (fun x => c2 x.2.1)]; exact tr_some h)
  refine tr_Gr h hr rfl ?_
  rw [nI_add1]
  refine tr_eq (by omega) (by omega) (fun c3 => ?_) (fun c3 => by rw [gp_0 (fun x => c3 x.2.2.1)]; exact tr_some h)
  refine tr_Gr h hr rfl ?_
  rw [bitk (by omega) ht]
  refine tr_ne (fun c4 => ?_) (fun c4 => by rw [gp_0 (fun x => x.2.2.2 c4)]; exact tr_some h)
  rw [gp_1 ⟨c1, c2, c3, c4⟩]
  refine tr_Gr h hr rfl ?_
  rw [orb ht]
  refine tr_Sr _ h hr rfl (by decide) (by decide) (by decide) fun M1 w1 => ?_
  have h21' := or512 h21 ht
  have o1 : OkR S (R.u 21 (R.1 21 ||| 2 ^ t)) := hO.u rfl h21'
  refine tr_jnK (fun M' => WM M' (S.set r (y_gp2 R t q o))) (fun M2 w2 => ?_) (fun k hk => ?_)
  · have o2 : OkR S (y_gp2 R t q o) := by
      unfold y_gp2
      split
      · exact (o1.u (f := 23) rfl hq).u (f := 24) rfl ho
      · exact o1
    generalize y_gp2 R t q o = R2 at w2 o2 ⊢
    have k21 : R2.1 21 < 512 := o2.1 21
    have k23 : R2.1 23 < S.1 4 := o2.1 23
    refine tr_Gr w2 hr rfl ?_
    rw [r_count (hC.set r R2) w2 (by omega), b2_]
    show tr (if (2 : Int32) * nI (y_count S.N (R2.1 21)) ≤ M2.1 1 then _ else _) _
    have hc := cnt_le S.N (R2.1 21)
    rw [show M2.1 1 = nI S.N from w2.1 1 rfl, show (2 : Int32) * nI (y_count S.N (R2.1 21)) = nI (2 * y_count S.N (R2.1 21)) from nI_mul 2 _]
    refine tr_le (by omega) (by omega) (fun c5 => by rw [if_neg (by omega)]; exact tr_some w2) (fun c5 => ?_)
    rw [if_pos c5]
    refine tr_Sr 2 w2 hr rfl (by decide) (by decide) (by decide) fun M3 w3 => ?_
    refine tr_Sr 0 w3 hr rfl (by decide) (by decide) (by decide) fun M4 w4 => ?_
    refine tr_Sr 0 w4 hr rfl (by decide) (by decide) (by decide) fun M5 w5 => ?_
    have o3 : OkR S (((R2.u 19 2).u 21 0).u 13 0) := ((o2.u (f := 19) rfl (Nat.le_refl 2)).u (f := 21) rfl (show 0 < 512 by decide)).u (f := 13) rfl (show 0 < 65536 by decide)
    have e23 : (((R2.u 19 2).u 21 0).u 13 0).1 23 = R2.1 23 := rfl
    generalize ((R2.u 19 2).u 21 0).u 13 0 = R3 at w5 o3 e23 ⊢
    rw [← e23]
    refine tr_Gr w5 hr rfl ?_
    have k20 := okv o3 20 (by decide)
    refine tr_le (b := 0) (by omega) (by decide) (fun c6 => ?_) (fun c6 => ?_)
    · rw [if_neg (by omega)]
      refine tr_b2 (r_propose (S := S.set r R3) (hC.set r R3) w5 hr hfl (by rw [set_rp]; exact o3.2.1) (by rw [set_rp]; exact o3.2.2.1) (by rw [set_rp]; exact o3.b) (by rw [set_rp]; exact o3.g) (by rw [set_rp]; omega) (by rw [set_rp]; exact o3.2.2.2.1)) fun M6 v hv => ?_
      exact tr_some hv.2
    · rw [if_pos c6]
      refine tr_Gr w5 hr rfl ?_
      refine tr_bind (r_proposeIt hC w5 hr hfl o3.2.1 o3.2.2.1 o3.b o3.g c6 (by omega) (by omega)) fun M6 w6 => ?_
      exact tr_some w6
  · refine tr_le (b := 0) (by omega) (by decide) (fun c5 => ?_) (fun c5 => ?_)
    · exact hk _ (by rw [show y_gp2 R t q o = R.u 21 (R.1 21 ||| 2 ^ t) from if_neg (by omega)]; exact w1)
    · refine tr_Gr w1 hr rfl ?_
      show tr (if nI o ≤ nI (R.1 24) then _ else _) _
      refine tr_le (by omega) (by omega) (fun c6 => ?_) (fun c6 => ?_)
      · exact hk _ (by rw [show y_gp2 R t q o = R.u 21 (R.1 21 ||| 2 ^ t) from if_neg (by omega)]; exact w1)
      · refine tr_Sr _ w1 hr rfl (by decide) (by decide) (by decide) fun M3 w3 => ?_
        refine tr_Sr _ w3 hr rfl (by decide) (by decide) (by decide) fun M4 w4 => ?_
        exact hk _ (by rw [show y_gp2 R t q o = ((R.u 21 (R.1 21 ||| 2 ^ t)).u 23 q).u 24 o from if_pos ⟨c5, c6⟩]; exact w4)
/-! something is to be accepted -/
def y_ga (R : Rp) (b : Nat) : Rp := (if R.1 19 = 1 ∨ (R.1 19 = 2 ∧ ¬ R.1 20 = b) then y_follow R else R).u 13 0
theorem ga_0 {S : Sx} {r t b s q : Nat} {R : Rp} (c : s ≤ R.1 7) : y_gotAccept (S.set r R) r t b s q = y_help (S.set r R) r t s := by
  unfold y_gotAccept
  rw [set_rp]
  exact if_pos c
theorem ga_1 {S : Sx} {r t b s q : Nat} {R : Rp} (c : R.1 7 + 1 < s) : y_gotAccept (S.set r R) r t b s q = y_send (S.set r R) (y_msg 6 r t 0 (R.1 7 + 1) 0 0 0) := by
  unfold y_gotAccept
  rw [set_rp]
  exact (if_neg (by omega)).trans (if_pos c)
theorem ga_2 {S : Sx} {r t b s q : Nat} {R : Rp} (c : s = R.1 7 + 1) (c2 : b < R.1 10) : y_gotAccept (S.set r R) r t b s q = y_send (S.set r R) (y_msg 7 r t (R.1 10) 0 0 0 0) := by
  unfold y_gotAccept
  rw [set_rp]
  exact (if_neg (by omega)).trans ((if_neg (by omega)).trans (if_pos c2))
theorem ga_3 {S : Sx} {r t b s q : Nat} {R : Rp} (c : s = R.1 7 + 1) (c2 : ¬ b < R.1 10) (c3 : (y_accepts (S.set r R) r b q).2 = false) : y_gotAccept (S.set r R) r t b s q = (y_accepts (S.set r R) r b q).1 := by
  unfold y_gotAccept
  rw [set_rp]
  refine (if_neg (by omega)).trans ((if_neg (by omega)).trans ((if_neg c2).trans ?_))
  show (if (y_accepts (S.set r R) r b q).2 = true then _ else _) = _
  rw [if_neg (by rw [c3]; decide)]
theorem ga_4 {S : Sx} {r t b s q : Nat} {R R' : Rp} (c : s = R.1 7 + 1) (c2 : ¬ b < R.1 10) (c3 : (y_accepts (S.set r R) r b q).2 = true) (e : (y_accepts (S.set r R) r b q).1 = S.set r R') : y_gotAccept (S.set r R) r t b s q = y_send (S.set r (y_ga R' b)) (y_msg 4 r t b s 0 0 0) := by
  unfold y_gotAccept
  rw [set_rp]
  refine (if_neg (by omega)).trans ((if_neg (by omega)).trans ((if_neg c2).trans ?_))
  show (if (y_accepts (S.set r R) r b q).2 = true then y_send ((y_accepts (S.set r R) r b q).1.set r (y_ga ((y_accepts (S.set r R) r b q).1.rp r) b)) (y_msg 4 r t b s 0 0 0) else _) = _
  rw [if_pos c3, e, set_rp, set_set]
theorem r_gotAccept {M : vM} {S : Sx} {r t b s q : Nat} {R : Rp} (hC : Cx S) (h : WM M (S.set r R)) (hr : r < 9) (hfl : S.fl.length ≤ 200) (hO : OkR S R) (hb : b < 65536) (hs : s < 65536) (h0 : 0 < q) (hq : q < S.1 4) : tr (F_X12_gotAccept M (nI r) (nI t) (nI b) (nI s) (nI q)) (fun M' => WM M' (y_gotAccept (S.set r R) r t b s q)) := by
  have h7 := hO.2.2.2.2.1
  have h8 := hO.2.2.2.2.2.1
  have h9 := hO.2.2.2.2.2.2.2.1
  have h10 := okv hO 10 (by decide)
  have h19 := okv hO 19 (by decide)
  have h20 := okv hO 20 (by decide)
  unfold F_X12_gotAccept
  refine tr_Gr h hr rfl ?_
  refine tr_lt (by omega) (by omega) (fun c1 => ?_) (fun c1 => ?_)
  · refine tr_Gr h hr rfl ?_
    rw [nI_add1]
    refine tr_le (by omega) (by omega) (fun c2 => ?_) (fun c2 => ?_)
    · have c : s = R.1 7 + 1 := by omega
      refine tr_Gr h hr rfl ?_
      refine tr_lt (by omega) (by omega) (fun c3 => ?_) (fun c3 => ?_)
      · rw [ga_2 c c3]
        refine tr_Gr h hr rfl ?_
        refine tr_bind (r_send (kd := 7) (sl := 0) (rq := 0) (td := 0) (hC.set r R) h hfl (by omega) rfl rfl rfl rfl rfl rfl rfl) fun M3 w3 => ?_
        exact tr_some w3
      · refine tr_b2 (r_accepts hC h hr hO.2.1 hO.2.2.1 hO.b hO.g h0 hq (by omega)) fun M1 v hv => ?_
        obtain ⟨e1, w1⟩ := hv
        dsimp only at e1 w1
        rw [e1]
        refine tr_if (fun c4 => ?_) (fun c4 => ?_)
        · rw [ga_3 c (by omega) c4]
          exact tr_some w1
        · obtain ⟨R', eR, f1, f2⟩ := acc_t c4
          rw [ga_4 c (by omega) c4 eR]
          rw [eR] at w1
          have k19 : R'.1 19 = R.1 19 := f1 19 (by decide) (by decide) (by decide) (by decide) (by decide) (by decide) (by decide) (by decide)
          have k20 : R'.1 20 = R.1 20 := f1 20 (by decide) (by decide) (by decide) (by decide) (by decide) (by decide) (by decide) (by decide)
          refine tr_Gr w1 hr rfl ?_
          refine tr_jnK (fun M' => WM M' (S.set r (if R'.1 19 = 1 ∨ (R'.1 19 = 2 ∧ ¬ R'.1 20 = b) then y_follow R' else R'))) (fun M2 w2 => ?_) (fun k hk => ?_)
          · refine tr_Sr 0 w2 hr rfl (by decide) (by decide) (by decide) fun M3 w3 => ?_
            refine tr_bind (r_send (kd := 4) (rq := 0) (td := 0) (hC.set r _) w3 hfl (by omega) rfl rfl rfl rfl rfl rfl rfl) fun M4 w4 => ?_
            exact tr_some w4
          · refine tr_eq (b := 1) (by omega) (by decide) (fun c5 => ?_) (fun c5 => ?_)
            · rw [if_pos (Or.inl c5)] at hk
              exact tr_bind (r_follow w1 hr) fun M3 w3 => hk _ w3
            · refine tr_Gr w1 hr rfl ?_
              refine tr_eq (b := 2) (by omega) (by decide) (fun c6 => ?_) (fun c6 => ?_)
              · refine tr_Gr w1 hr rfl ?_
                refine tr_eq (by omega) (by omega) (fun c8 => ?_) (fun c8 => ?_)
                · rw [if_neg (by omega)] at hk
                  exact hk _ w1
                · rw [if_pos (Or.inr ⟨c6, c8⟩)] at hk
                  exact tr_bind (r_follow w1 hr) fun M3 w3 => hk _ w3
              · rw [if_neg (by omega)] at hk
                exact hk _ w1
    · rw [ga_1 c2]
      refine tr_Gr h hr rfl ?_
      rw [nI_add1]
      refine tr_bind (r_send (kd := 6) (bl := 0) (rq := 0) (td := 0) (hC.set r R) h hfl (by omega) rfl rfl rfl rfl rfl rfl rfl) fun M3 w3 => ?_
      exact tr_some w3
  · rw [ga_0 c1]
    refine tr_bind (r_help (S := S.set r R) (hC.set r R) h hr hfl (by rw [set_rp]; omega) (by rw [set_rp]; exact h8) (by rw [set_rp]; exact h9) (by omega) rfl) fun M3 w3 => ?_
    exact tr_some w3
/-! a heartbeat; a forwarded request -/
theorem r_gotForward {M : vM} {S : Sx} {r q : Nat} (hC : Cx S) (h : WM M S) (hr : r < 9) (h0 : 0 < q) (hq : q < S.1 4) (hQ : QOk S (S.rp r)) : tr (F_X12_gotForward M (nI r) (nI q)) (fun M' => WM M' (y_gotForward S r q)) := by
  unfold F_X12_gotForward y_gotForward
  rw [r_known hC h hr h0 hq, b2_]
  refine tr_if (fun c => ?_) (fun c => ?_)
  · rw [if_neg (by rw [c]; decide)]
    refine tr_bind (r_wait hC h hr hq hQ) fun M1 w1 => tr_some w1
  · rw [if_pos c]
    exact tr_some h
theorem r_above {ρ : Type} {M : vM} {S : Sx} {r b : Nat} {R : Rp} {K : vM → Option ρ} {Q : ρ → Prop} (h : WM M (S.set r R)) (hr : r < 9) (hO : OkR S R) (hb : b < 65536) (g : ∀ M', WM M' (S.set r (y_above R b)) → tr (K M') Q) : tr ((mG M 19 (nI r)).bind fun v3 => if v3 ≤ 0 then (K M) else ((mG M 20 (nI r)).bind fun v5 => if nI b ≤ v5 then (K M) else ((F_X12_follow M (nI r)).bind fun M6 => (K M6)))) Q := by
  have h19 := okv hO 19 (by decide)
  have h20 := okv hO 20 (by decide)
  unfold y_above at g
  refine tr_Gr h hr rfl ?_
  refine tr_le (b := 0) (by omega) (by decide) (fun c => ?_) (fun c => ?_)
  · rw [if_neg (by omega)] at g
    exact g _ h
  · refine tr_Gr h hr rfl ?_
    refine tr_le (by omega) (by omega) (fun c2 => ?_) (fun c2 => ?_)
    · rw [if_neg (by omega)] at g
      exact g _ h
    · rw [if_pos ⟨c, c2⟩] at g
      exact tr_bind (r_follow h hr) fun M1 w1 => g _ w1
theorem r_aboveJ {ρ : Type} {M : vM} {S : Sx} {r b : Nat} {R : Rp} {K : vM → Option ρ} {Q : ρ → Prop} (h : WM M (S.set r R)) (hr : r < 9) (hO : OkR S R) (hb : b < 65536) (g : ∀ M', WM M' (S.set r (y_above R b)) → tr (K M') Q) : tr ((mG M 19 (nI r)).bind fun v3 => jn K (fun k => if v3 ≤ 0 then (k M) else ((mG M 20 (nI r)).bind fun v5 => if nI b ≤ v5 then (k M) else ((F_X12_follow M (nI r)).bind fun M6 => (k M6))))) Q := r_above (K := K) h hr hO hb g
theorem OkR.above {S : Sx} {R : Rp} (h : OkR S R) (b : Nat) : OkR S (y_above R b) := by
  unfold y_above
  split
  · exact h.f
  · exact h
theorem above_o {R : Rp} {b f : Nat} (h : f < 19 ∨ 24 < f) : (y_above R b).1 f = R.1 f := by
  unfold y_above
  split
  · exact fol_o h
  · rfl
theorem gb_0 {S : Sx} {r t b s : Nat} {R : Rp} (c : b < R.1 10) : y_gotBeat (S.set r R) r t b s = y_send (S.set r R) (y_msg 7 r t (R.1 10) 0 0 0 0) := by
  unfold y_gotBeat
  rw [set_rp]
  exact if_pos c
theorem gb_1 {S : Sx} {r t b s : Nat} {R : Rp} (c : ¬ b < R.1 10) : y_gotBeat (S.set r R) r t b s = if R.1 7 < s then y_send (S.set r (y_above (R.u 13 0) b)) (y_msg 6 r t 0 (R.1 7 + 1) 0 0 0) else if s < R.1 7 then y_help (S.set r (y_above (R.u 13 0) b)) r t (s + 1) else S.set r (y_above (R.u 13 0) b) := by
  unfold y_gotBeat
  rw [set_rp]
  refine (if_neg c).trans ?_
  show (if R.1 7 < s then y_send ((S.set r R).set r (y_above (R.u 13 0) b)) (y_msg 6 r t 0 (R.1 7 + 1) 0 0 0) else if s < R.1 7 then y_help ((S.set r R).set r (y_above (R.u 13 0) b)) r t (s + 1) else (S.set r R).set r (y_above (R.u 13 0) b)) = _
  rw [set_set]
theorem r_gotBeat {M : vM} {S : Sx} {r t b s : Nat} {R : Rp} (hC : Cx S) (h : WM M (S.set r R)) (hr : r < 9) (hfl : S.fl.length ≤ 200) (hO : OkR S R) (hb : b < 65536) (hs : s < 65536) : tr (F_X12_gotBeat M (nI r) (nI t) (nI b) (nI s)) (fun M' => WM M' (y_gotBeat (S.set r R) r t b s)) := by
  have h7 := hO.2.2.2.2.1
  have h8 := hO.2.2.2.2.2.1
  have h9 := hO.2.2.2.2.2.2.2.1
  have h10 := okv hO 10 (by decide)
  unfold F_X12_gotBeat
  refine tr_Gr h hr rfl ?_
  refine tr_le (by omega) (by omega) (fun c => ?_) (fun c => ?_)
  · rw [gb_1 (by omega)]
    refine tr_Sr 0 h hr rfl (by decide) (by decide) (by decide) fun M1 w1 => ?_
    have o1 : OkR S (R.u 13 0) := hO.u rfl (show 0 < 65536 by decide)
    have o2 := o1.above b
    have d7 : (y_above (R.u 13 0) b).1 7 = R.1 7 := above_o (by decide)
    have d8 : (y_above (R.u 13 0) b).1 8 = R.1 8 := above_o (by decide)
    have d9 : (y_above (R.u 13 0) b).1 9 = R.1 9 := above_o (by decide)
    refine r_aboveJ w1 hr o1 hb fun M2 w2 => ?_
    rw [← d7]
    generalize y_above (R.u 13 0) b = R1 at w2 o2 d7 d8 d9 ⊢
    refine tr_Gr w2 hr rfl ?_
    refine tr_le (by omega) (by omega) (fun c2 => ?_) (fun c2 => ?_)
    · rw [if_neg (by omega)]
      refine tr_Gr w2 hr rfl ?_
      refine tr_le (by omega) (by omega) (fun c3 => ?_) (fun c3 => ?_)
      · rw [if_neg (by omega)]
        exact tr_some w2
      · rw [if_pos c3]
        refine tr_bind (r_help (S := S.set r R1) (hC.set r R1) w2 hr hfl (by rw [set_rp]; omega) (by rw [set_rp]; omega) (by rw [set_rp]; omega) (by omega) (nI_add1 _)) fun M3 w3 => ?_
        exact tr_some w3
    · rw [if_pos c2]
      refine tr_Gr w2 hr rfl ?_
      refine tr_bind (r_send (kd := 6) (bl := 0) (sl := R1.1 7 + 1) (rq := 0) (td := 0) (hC.set r R1) w2 hfl (by omega) rfl rfl rfl rfl (nI_add1 _) rfl rfl) fun M3 w3 => ?_
      exact tr_some w3
  · rw [gb_0 c]
    refine tr_Gr h hr rfl ?_
    refine tr_bind (r_send (kd := 7) (sl := 0) (rq := 0) (td := 0) (hC.set r R) h hfl (by omega) rfl rfl rfl rfl rfl rfl rfl) fun M3 w3 => ?_
    exact tr_some w3
