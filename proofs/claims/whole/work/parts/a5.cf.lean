/-! ===== the class: what is in hand; promises; what is accepted ===== -/
theorem WC_add {mm : Kp} {c : vC} {S : Sx} {a q : Nat} (h : WC mm c S) (g : RqA c a (S.tb q)) : WC (mm.1, (a, q) :: mm.2) c S := by
  obtain ⟨h1, h2, ⟨hd, h3⟩, h4, h5⟩ := h
  refine ⟨h1, h2, ⟨⟨hd.1, fun a' q' e => ?_⟩, h3⟩, h4, h5⟩
  rcases List.mem_cons.mp e with e | e
  · injection e with e1 e2
    rw [e1, e2]; exact g
  · exact hd.2 a' q' e
theorem WC_sub {mm : Kp} {c : vC} {S : Sx} {x : Nat × Nat} (h : WC (mm.1, x :: mm.2) c S) : WC mm c S := by
  obtain ⟨h1, h2, ⟨hd, h3⟩, h4, h5⟩ := h
  exact ⟨h1, h2, ⟨⟨hd.1, fun a' q' e => hd.2 a' q' (List.mem_cons_of_mem _ e)⟩, h3⟩, h4, h5⟩
theorem WC_rq {mm : Kp} {c : vC} {S : Sx} {a q : Nat} (h : WC (mm.1, (a, q) :: mm.2) c S) : RqA c a (S.tb q) := h.2.2.1.1.2 a q (List.mem_cons_self ..)
theorem WC_fr {mm : Kp} {c : vC} {S : Sx} {k : Nat} {m : Mg} (h : WC mm c S) (e : mm.1 = some (k, m)) : FrA c S.V S.sta S.tb k m := (h.2.2.1.1.1 k m e).2
theorem e_startPay' {N : Nat} {c : vC} {r : Nat} {k : Int32} : F_X7_startPayload N c r k = some (sB (uI c 2 1 0) 1 [by8 k]) := by
  unfold F_X7_startPayload
  rw [e_clear, Option.bind_some, e_put _ (by decide), Option.bind_some, List.nil_append]
theorem c_promise {mm : Kp} {N : Nat} {c : vC} {S : Sx} {r b : Nat} {R : Rp} (hC : Cx S) (h : WC mm c (S.set r R)) (hr : r < S.N) (h6 : R.1 6 = 1) (hO : OkR S R) (hb : b < 65536) : tr (F_X7_promise N c r (nI b)) (fun p => p.2 = (if (y_notePr (S.set r R) r b).2 = true then (1 : Int32) else 0) ∧ WC mm p.1 (y_notePr (S.set r R) r b).1) := by
  unfold F_X7_promise
  rw [e_startPay', Option.bind_some, e_putU (by omega) (Nat.le_of_ble_eq_true rfl), Option.bind_some]
  refine tr_b2 (c_note (n := (1, b, 0, 0, 0)) hC (WC_2 (f := 2) (i := 1) (v := 0) h (by decide)) hr h6 hO.2.1 hO.2.2.1 (nbP (by omega))) fun c1 v hv => ?_
  obtain ⟨e1, w1⟩ := hv
  dsimp only at e1 w1
  rw [e1]
  refine tr_if (fun c => ?_) (fun c => ?_)
  · rw [notePr_eq0 c]
    exact tr_z0 (tr_some ⟨rfl, w1⟩)
  · obtain ⟨R', eR, f1, f2, f3, f4, f5⟩ := note_t c
    rw [notePr_eq1 c eR]
    rw [eR] at w1
    have f7 : R'.1 7 = R.1 7 := f1 7 (by decide) (by decide) (by decide)
    have f8 : R'.1 8 = R.1 8 := f1 8 (by decide) (by decide) (by decide)
    have f11 : R'.1 11 = R.1 11 := f1 11 (by decide) (by decide) (by decide)
    have f12 : R'.1 12 = R.1 12 := f1 12 (by decide) (by decide) (by decide)
    have f32 : R'.1 32 = R.1 32 := f1 32 (by decide) (by decide) (by decide)
    have f6 : R'.1 6 = 1 := (f1 6 (by decide) (by decide) (by decide)).trans h6
    obtain ⟨b1, b2, b3, b4, b5, b6⟩ := hO.b
    have hg := hO.g
    refine tr_uI b w1 rfl fun c2 w2 => ?_
    have hJ' : JR R' := note_J hO.2.1 hO.2.2.1 (rec_len hC (nbP (by omega))) f1 f2 f4 f5
    refine tr_b2 (c_ckp (R := R'.u 10 b) hC w2 hr f6 hJ' ⟨?_, ?_, ?_, ?_, ?_, ?_⟩ ?_) fun c4 v4 h4 => ?_
    · show R'.1 7 < 2 ^ 30; omega
    · show R'.1 8 ≤ R'.1 7; omega
    · show R'.1 7 ≤ R'.1 8 + S.V; omega
    · show b < 2 ^ 30; omega
    · show R'.1 11 < 2 ^ 30; omega
    · show R'.1 12 < S.1 4; omega
    · show R'.1 32 < 2 ^ 30; omega
    · obtain ⟨e4, w4⟩ := h4
      dsimp only at e4 w4
      rw [e4]
      cases cc : (y_ckp (S.set r (R'.u 10 b)) r).2
      · exact tr_z0 (tr_some ⟨rfl, w4⟩)
      · exact tr_z1 (tr_some ⟨rfl, w4⟩)
theorem c_accept {mm : Kp} {N : Nat} {c : vC} {S : Sx} {r b q a : Nat} {R : Rp} (hC : Cx S) (h : WC mm c (S.set r R)) (hr : r < S.N) (h6 : R.1 6 = 1) (hO : OkR S R) (ha : RqA c a (S.tb q)) (h0 : 0 < q) (hq : q < S.1 4) (hb : b < 65536) : tr (F_X7_accept N c r (some a) (nI b)) (fun p => p.2 = (if (y_accepts (S.set r R) r b q).2 = true then (1 : Int32) else 0) ∧ WC mm p.1 (y_accepts (S.set r R) r b q).1) := by
  obtain ⟨b1, b2, b3, b4, b5, b6⟩ := hO.b
  have hg := hO.g
  have hn : NbOk (2, b, R.1 7 + 1, q, 0) := ⟨(by decide : 1 ≤ 2), (by decide : 2 ≤ 5), (by omega : b < 2 ^ 31), (by omega : R.1 7 + 1 < 2 ^ 31), (by decide : 0 < 2 ^ 31)⟩
  have hu1 := encU_len (n := b) (by omega)
  have hu2 := encU_len (n := R.1 7 + 1) (by omega)
  unfold F_X7_accept
  have w0 := WC_2 (f := 2) (i := 1) (v := 0) (WC_add h ha) (by decide)
  have ha0 : RqA (uI c 2 1 0) a (S.tb q) := WC_rq (mm := mm) (S := S.set r R) w0
  rw [e_startPay', Option.bind_some, e_putU (by omega) (Nat.le_of_ble_eq_true rfl), Option.bind_some, WC_ix (WC_B w0) hr h6, nI_add1, e_putU (by omega) (by rw [List.length_append]; show 1 + _ + 5 ≤ 2048; omega), Option.bind_some, Option.bind_some]
  refine tr_gd ha0.2.1 ?_
  rw [c_writeReq hC ha0 (by rw [List.length_append, List.length_append]; show 1 + _ + _ + 80 ≤ 2048; omega), Option.bind_some, show [by8 2] ++ encU b ++ encU (R.1 7 + 1) ++ encQ (S.tb q) = y_pay S.V S.tb S.sta (2, b, R.1 7 + 1, q, 0) from by rw [List.append_assoc, List.append_assoc]; rfl]
  refine tr_b2 (c_note (n := (2, b, R.1 7 + 1, q, 0)) hC w0 hr h6 hO.2.1 hO.2.2.1 hn) fun c1 v hv => ?_
  obtain ⟨e1, w1⟩ := hv
  dsimp only at e1 w1
  rw [e1]
  refine tr_if (fun c => ?_) (fun c => ?_)
  · rw [acc_eq0 c]
    exact tr_z0 (tr_some ⟨rfl, WC_sub w1⟩)
  · obtain ⟨R', eR, f1, f2, f3, f4, f5⟩ := note_t c
    rw [acc_eq c eR]
    rw [eR] at w1
    have f7 : R'.1 7 = R.1 7 := f1 7 (by decide) (by decide) (by decide)
    have f8 : R'.1 8 = R.1 8 := f1 8 (by decide) (by decide) (by decide)
    have f32 : R'.1 32 = R.1 32 := f1 32 (by decide) (by decide) (by decide)
    have f6 : R'.1 6 = 1 := (f1 6 (by decide) (by decide) (by decide)).trans h6
    refine tr_uI b w1 rfl fun c2 w2 => ?_
    refine tr_l1 (tr_l1 ?_)
    have w3 := WC_acc (b := b) (q := q) (o := some a) w2 (RqO.some h0 (WC_rq (mm := mm) (S := S.set r (R'.u 10 b)) w2))
    have hJ' := note_J hO.2.1 hO.2.2.1 (rec_len hC hn) f1 f2 f4 f5
    refine tr_b2 (c_ckp (R := ((R'.u 10 b).u 11 b).u 12 q) hC w3 hr f6 hJ' ⟨?_, ?_, ?_, ?_, ?_, hq⟩ ?_) fun c4 v4 h4 => ?_
    · show R'.1 7 < 2 ^ 30; omega
    · show R'.1 8 ≤ R'.1 7; omega
    · show R'.1 7 ≤ R'.1 8 + S.V; omega
    · show b < 2 ^ 30; omega
    · show b < 2 ^ 30; omega
    · show R'.1 32 < 2 ^ 30; omega
    · obtain ⟨e4, w4⟩ := h4
      dsimp only at e4 w4
      rw [e4]
      cases cc : (y_ckp (S.set r (((R'.u 10 b).u 11 b).u 12 q)) r).2
      · exact tr_z0 (tr_some ⟨rfl, WC_sub w4⟩)
      · exact tr_z1 (tr_some ⟨rfl, WC_sub w4⟩)
/-! ===== the class's store ===== -/
theorem cQv {c : vC} {f i j : Nat} (h : j < al f) (hj : j < 2 ^ 31) : cGQ c f i (nI j) = some (cQ c f i j) := by
  unfold cGQ
  rw [nIt hj, if_neg (fun q => q.elim (nIn hj) (fun q => by omega))]
theorem cSQv {c : vC} {f i j : Nat} {v : Option Nat} (h : j < al f) (hj : j < 2 ^ 31) (hv : okq c v = true) : cSQ c f i (nI j) v = some (uQ c f i j v) := by
  unfold cSQ
  rw [nIt hj, if_neg (fun q => q.elim (nIn hj) (fun q => q.elim (fun q => by omega) (fun q => by rw [hv] at q; exact absurd q (by decide))))]
theorem uR_s (c : vC) (f i j : Nat) (v : Int32) : cR (uR c f i j v) f i j = v := by
  show vi_u2 (cR c) f i (va_up (cR c f i) j v) f i j = v
  rw [vi_u2s, va_up_self]
theorem uR_j (c : vC) (f i : Nat) {j k : Nat} (v : Int32) (h : k ≠ j) : cR (uR c f i j v) f i k = cR c f i k := by
  show vi_u2 (cR c) f i (va_up (cR c f i) j v) f i k = _
  rw [vi_u2s, va_up_ne _ _ h]
theorem uR_f (c : vC) {f i g : Nat} (k j : Nat) (v : Int32) (h : g ≠ f) : cR (uR c f i j v) g k = cR c g k := vi_u2v _ _ _ _ (fun q => h q.1)
theorem uQ_s (c : vC) (f i j : Nat) (v : Option Nat) : cQ (uQ c f i j v) f i j = v := by
  show vi_u2 (cQ c) f i (va_up (cQ c f i) j v) f i j = v
  rw [vi_u2s, va_up_self]
theorem uQ_j (c : vC) (f i : Nat) {j k : Nat} (v : Option Nat) (h : k ≠ j) : cQ (uQ c f i j v) f i k = cQ c f i k := by
  show vi_u2 (cQ c) f i (va_up (cQ c f i) j v) f i k = _
  rw [vi_u2s, va_up_ne _ _ h]
theorem uQ_f (c : vC) {f i g : Nat} (k j : Nat) (v : Option Nat) (h : g ≠ f) : cQ (uQ c f i j v) g k = cQ c g k := vi_u2v _ _ _ _ (fun q => h q.1)
/-- a request that is new to the store -/
theorem c_isNew {mm : Kp} {N : Nat} {c : vC} {S : Sx} {r a q : Nat} {R : Rp} (hC : Cx S) (h : WC mm c (S.set r R)) (hr : r < S.N) (h6 : R.1 6 = 1) (ha : RqA c a (S.tb q)) : F_X10_isNew N c r (some a) = some (c, if y_known (S.set r R) r q = true then (0 : Int32) else 1) := by
  obtain ⟨b1, b2, b3⟩ := hC.tb q
  obtain ⟨a1, a2, a3, a4, a5⟩ := ha
  obtain ⟨s1, s2, s3, s4, s5⟩ := WC_st h hr h6
  have hs := sta_b hC (R.1 7) ((S.tb q).1 0)
  unfold F_X10_isNew
  rw [Option.bind_some, gd_ a2, gd_ a2, a3, cGv (show _ < 16 from b1) (by omega), Option.bind_some, s4 _ b1, a4]
  have ek : y_known (S.set r R) r q = decide ((S.tb q).1 1 ≤ (S.sta (R.1 7)).2.1 ((S.tb q).1 0)) := by
    unfold y_known
    rw [set_rp]; rfl
  rw [ek]
  by_cases e : (S.tb q).1 1 ≤ (S.sta (R.1 7)).2.1 ((S.tb q).1 0)
  · rw [if_pos (nI_le e (by omega)), decide_eq_true e, zb0, if_pos rfl]
  · rw [if_neg (nI_ge (by omega) (by omega)), decide_eq_false e, zb1, if_neg (by decide)]
theorem q_bel {ρ : Type} {N : Nat} {c : vC} {S : Sx} {r a ixx : Nat} {q : Rq} {s : Sta} {kx55 kx63 : vC → Option ρ} (hk : cK c a = 9) (e802 : cI c 802 a = nI (q.1 2)) (e803 : cI c 803 a = q.2.1 3) (eV : cI c 1000 r = nI S.V) (hV : S.V ≤ 16) (e7 : cI c 1007 r = nI ixx) (h7 : ixx < 2 ^ 30) (h2 : q.1 2 < 2 ^ 30) (hw : ∀ v, v < S.V → cR c 1004 r v = y_wn s ixx v) : ∀ (d k f : Nat), k + d = S.V → d < f → L_X10_isBelated_20 N r a kx55 kx63 f c (nI k) = if (List.range' k d).any (fun v => decide (q.1 2 + v < ixx) && decide (¬ y_wn s ixx v &&& q.2.1 3 = 0)) = true then kx55 c else kx63 c := by
  intro d
  induction d with
  | zero =>
    intro k f h1 hf
    obtain ⟨f, rfl⟩ : ∃ f', f = f' + 1 := ⟨f - 1, by omega⟩
    rw [L_X10_isBelated_20, eV, if_pos (nI_le (by omega) (by omega))]
    exact (if_neg (by simp)).symm
  | succ d ih =>
    intro k f h1 hf
    obtain ⟨f, rfl⟩ : ∃ f', f = f' + 1 := ⟨f - 1, by omega⟩
    rw [L_X10_isBelated_20, eV, if_neg (nI_ge (show k < S.V by omega) (by omega)), gd_ hk, e7, e802, any_c]
    by_cases c1 : ixx ≤ q.1 2 + k
    · rw [if_pos ((nI_sle h7 (by omega) h2).mpr c1), nI_add1, ih (k + 1) f (by omega) (by omega), decide_eq_false (show ¬ q.1 2 + k < ixx by omega), Bool.false_and, Bool.false_or]
    · rw [if_neg (fun e => c1 ((nI_sle h7 (by omega) h2).mp e)), cGv (show k < 16 by omega) (by omega), Option.bind_some, gd_ hk, hw k (by omega), e803]
      by_cases c2 : y_wn s ixx k &&& q.2.1 3 = 0
      · rw [if_pos c2, nI_add1, ih (k + 1) f (by omega) (by omega), decide_eq_false (show ¬ ¬ y_wn s ixx k &&& q.2.1 3 = 0 from fun x => x c2), Bool.and_false, Bool.false_or]
      · rw [if_neg c2, decide_eq_true (show q.1 2 + k < ixx by omega), decide_eq_true c2, Bool.true_and, Bool.true_or, if_pos rfl]
theorem bad_eq {V i : Nat} {s : Sta} {q : Rq} (h : ¬ q.1 2 + V < i) : y_bad V s i q = (List.range' 0 V).any (fun v => decide (q.1 2 + v < i) && decide (¬ y_wn s i v &&& q.2.1 3 = 0)) := by
  unfold y_bad
  rw [decide_eq_false h, Bool.false_or]
  rw [Bool.eq_iff_iff, List.any_eq_true, List.any_eq_true]
  constructor
  · rintro ⟨j, hj, hp⟩
    rw [List.mem_range'_1] at hj
    refine ⟨i - j, by rw [List.mem_range'_1]; omega, ?_⟩
    have hp' : ¬ s.2.2.2 j &&& q.2.1 3 = 0 := of_decide_eq_true hp
    have e : y_wn s i (i - j) = s.2.2.2 j := by
      unfold y_wn
      rw [if_neg (by omega), show i - (i - j) = j by omega]
    rw [e, decide_eq_true (show q.1 2 + (i - j) < i by omega), decide_eq_true hp']; rfl
  · rintro ⟨v, hv, hp⟩
    rw [List.mem_range'_1] at hv
    rw [Bool.and_eq_true] at hp
    have hp1 : q.1 2 + v < i := of_decide_eq_true hp.1
    have hp2 : ¬ y_wn s i v &&& q.2.1 3 = 0 := of_decide_eq_true hp.2
    refine ⟨i - v, by rw [List.mem_range'_1]; omega, ?_⟩
    have e : y_wn s i v = s.2.2.2 (i - v) := by
      unfold y_wn
      rw [if_neg (by omega)]
    rw [e] at hp2
    exact decide_eq_true hp2
theorem c_isBel {N : Nat} {c : vC} {S : Sx} {r a ixx : Nat} {q : Rq} {s : Sta} (hk : cK c a = 9) (e802 : cI c 802 a = nI (q.1 2)) (e803 : cI c 803 a = q.2.1 3) (eV : cI c 1000 r = nI S.V) (hV : S.V ≤ 16) (e7 : cI c 1007 r = nI ixx) (h7 : ixx < 2 ^ 30) (h2 : q.1 2 < 2 ^ 30) (hw : ∀ v, v < S.V → cR c 1004 r v = y_wn s ixx v) : F_X10_isBelated N c r (some a) = some (c, if y_bad S.V s ixx q = true then (1 : Int32) else 0) := by
  unfold F_X10_isBelated
  rw [Option.bind_some, gd_ hk, e7, eV, e802]
  by_cases c1 : ixx ≤ q.1 2 + S.V
  · rw [if_pos ((nI_sle h7 (by omega) h2).mpr c1), ← nI_0, q_bel (S := S) (q := q) (s := s) hk e802 e803 eV hV e7 h7 h2 hw S.V 0 fu (by omega) (by show _ < 32768; omega), ← bad_eq (by omega)]
    cases y_bad S.V s ixx q
    · rfl
    · rfl
  · rw [if_neg (fun e => c1 ((nI_sle h7 (by omega) h2).mp e)), zb1]
    have : y_bad S.V s ixx q = true := by
      unfold y_bad
      rw [decide_eq_true (show q.1 2 + S.V < ixx by omega), Bool.true_or]
    rw [this]; rfl
