/-! ===== the reference lays requests and a checkpoint ===== -/
theorem encR_vs {s : Int32} {sq sn : Nat} {rd wr : Int32} {vs ws : Nat → Int32} (h : ∀ k, k < 16 → vs k = ws k) : encR s sq sn rd wr vs = encR s sq sn rd wr ws := by
  unfold encR
  rw [flatMap_eq (f := encV wr vs) (g := encV wr ws) (fun j _ hj => by unfold encV; rw [h j (by omega)])]
theorem r_layQ {M : vM} {S : Sx} {l : List Nat} {q : Nat} (hC : Cx S) (h : WM M S) (h0 : 0 < q) (hq : q < S.1 4) (hl : l.length + 80 ≤ 2400) : F_X12_layRequest (sl M l) (nI q) = some (sl M (l ++ encQ (S.tb q))) := by
  obtain ⟨a1, a2, a3, a4⟩ := h.2.2.1 q h0 hq
  have t := hC.tb q
  rw [e_layRequest (by have := hC.nr; omega) (a1 1 (by decide)) (a1 2 (by decide)) (by omega) (by omega) hl, a1 0 (by decide), a2, a3, encR_vs (ws := (S.tb q).2.2) a4]
  rfl
theorem by8_1 {n : Nat} (h : n < 256) : by8 (nI n) = n := by8_n h
theorem r_layAcc {M : vM} {S : Sx} {l : List Nat} {b s q : Nat} {c1 c2 : Int32} (hC : Cx S) (h : WM M S) (h0 : 0 < q) (hq : q < S.1 4) (hb : b < 2 ^ 31) (hs : s < 2 ^ 31) (hl : l.length + 91 ≤ 2400) (e1 : c1 = nI b) (e2 : c2 = nI s) : F_X12_layAccepted (sl M l) c1 c2 (nI q) = some (sl M (l ++ y_pay S.V S.tb S.sta (2, b, s, q, 0))) := by
  subst e1; subst e2
  have q1 := encU_len hb
  have q2 := encU_len hs
  unfold F_X12_layAccepted
  rw [e_lay _ (by omega), Option.bind_some, e_layU hb (by rw [List.length_append]; simp only [List.length_cons, List.length_nil]; omega), Option.bind_some, e_layU hs (by rw [List.length_append, List.length_append]; simp only [List.length_cons, List.length_nil]; omega), Option.bind_some, r_layQ hC h h0 hq (by rw [List.length_append, List.length_append, List.length_append]; simp only [List.length_cons, List.length_nil]; omega), Option.bind_some]
  have : by8 2 = 2 := by decide
  rw [this]
  simp only [List.append_assoc]
  rfl
theorem r_notePromise {M : vM} {S : Sx} {r b : Nat} {R : Rp} (hC : Cx S) (h : WM M (S.set r R)) (hr : r < 9) (hJ : JR R) (hl : R.2.2.1.length < 48) (hb : b < 2 ^ 31) : tr (F_X12_notePromise M (nI r) (nI b)) (fun p => p.2 = (if (y_note (S.set r R) r (1, b, 0, 0, 0)).2 = true then (1 : Int32) else 0) ∧ WM p.1 (y_note (S.set r R) r (1, b, 0, 0, 0)).1) := by
  unfold F_X12_notePromise
  rw [l1_, sl_0, e_lay _ (by decide), Option.bind_some, e_layU hb (by decide), Option.bind_some]
  have hn : NbOk (1, b, 0, 0, 0) := ⟨(by decide : 1 ≤ 1), (by decide : 1 ≤ 5), hb, (by decide : 0 < 2 ^ 31), (by decide : 0 < 2 ^ 31)⟩
  refine tr_b2 (r_note (n := (1, b, 0, 0, 0)) (c2 := 1) (c3 := nI b) (c4 := 0) (c5 := 0) hC h hr hJ hl hn rfl rfl rfl rfl (fun e => absurd e (show ¬ 1 = 4 by decide)) (fun e => absurd e (show ¬ 1 = 5 by decide))) fun M1 v hv => ?_
  obtain ⟨e1, e2⟩ := hv
  dsimp only at e1 e2
  rw [e1]
  cases (y_note (S.set r R) r (1, b, 0, 0, 0)).2
  · exact tr_z0 (tr_some ⟨rfl, e2⟩)
  · exact tr_z1 (tr_some ⟨rfl, e2⟩)
/-! loops of the checkpoint -/
theorem q_c89 {ρ : Type} {kx : vM → Option ρ} {M : vM} {S : Sx} {r i : Nat} {R : Rp} {l2 l4 : Int32} (h : WM M (S.set r R)) (hr : r < 9) (h1 : R.1 8 ≤ i) (h2 : i ≤ R.1 7) (hi : i < 2 ^ 30) {l : List Nat} (hl : l.length + 64 ≤ 2400) : L_X12_checkpoint_89 (nI r) l2 (nI i) l4 kx fu (sl M l) 0 = kx (sl M (l ++ encVa (S.sta i).1)) := by
  rw [← nI_0]
  refine loop_app (L_X12_checkpoint_89 (nI r) l2 (nI i) l4 kx) kx M 16 4 (fun k => be4 ((S.sta i).1 k)) (fun _ => Nat.le_refl 4) (fun f l' => ?_) (fun f k l' hk' hl' => ?_) 16 0 fu l rfl (by decide) (by omega)
  · rw [L_X12_checkpoint_89]; exact if_pos (nI_le (Nat.le_refl 16) (by decide))
  · have ea : F_X12_at (sl M l') (nI r) (nI i) = some (sl M l', nI (40 * r + i % 40)) := by
      unfold F_X12_at
      rw [show (40 : Int32) * nI r = nI (40 * r) from nI_mul 40 r, show nI i - nI i / (40 : Int32) * (40 : Int32) = nI (i % 40) from nI_rem (b := 40) (by omega) (by decide), nI_add]
    rw [L_X12_checkpoint_89, if_neg (show ¬ (16 : Int32) ≤ nI k from nI_ge (b := 16) hk' (by decide)), ea, b2_, show (16 : Int32) * nI (40 * r + i % 40) = nI (16 * (40 * r + i % 40)) from nI_mul 16 _, nI_add, mGv (show _ < 5760 by omega) (by omega), Option.bind_some, sl_2 _ _ _ (by decide), WM_h h hr h1 h2 hk', e_layFour _ (by omega), Option.bind_some, show nI k + (1 : Int32) = nI (k + 1) from nI_add k 1]
theorem rec5 (S : Sx) (i : Nat) : S.rec (5, 0, 0, 0, i) = recL (5 :: encVa (S.sta i).1) := rfl
theorem rec5_len (S : Sx) (i : Nat) : (S.rec (5, 0, 0, 0, i)).length = 72 := by
  rw [rec5, recL_len, List.length_cons, encVa_len]
theorem fm_len {α : Type} {f : α → List Nat} {B : Nat} (h : ∀ k, (f k).length ≤ B) : ∀ l : List α, (l.flatMap f).length ≤ B * l.length := by
  intro l
  induction l with
  | nil => exact Nat.zero_le _
  | cons a l ih =>
    rw [List.flatMap_cons, List.length_append, List.length_cons, Nat.mul_succ]
    have := h a
    omega
theorem nI_lt1 (s : Nat) (hs : s < 2 ^ 31) : nI s - 1 < nI s := by
  by_cases e : s = 0
  · subst e; decide
  · have : nI s = nI (s - 1 + 1) := by congr 1; omega
    rw [this, nI_p1]
    exact Int32.not_le.mp (nI_ge (by omega) (by omega))
theorem q_c65 {ρ : Type} {kx : vM → Option ρ} {Q : ρ → Prop} {M : vM} {S : Sx} {r : Nat} {R : Rp} {l2 : Int32} (h : WM M (S.set r R)) (hr : r < 9) (h8 : R.1 8 ≤ R.1 7) (h7 : R.1 7 < 2 ^ 30) (h16 : R.1 7 ≤ R.1 8 + 16) {l : List Nat} (hl : l.length ≤ 206) (g : tr (kx (sl M (l ++ (List.range' (R.1 8) (R.1 7 - R.1 8)).reverse.flatMap (fun i => S.rec (5, 0, 0, 0, i))))) Q) : tr (L_X12_checkpoint_65 (nI r) l2 kx fu (sl M l) (nI (R.1 7) - 1)) Q := by
  refine tr_down (g := L_X12_checkpoint_65 (nI r) l2 kx) (fun t M' => t ≤ R.1 7 ∧ M' = sl M (l ++ (List.range' t (R.1 7 - t)).reverse.flatMap (fun i => S.rec (5, 0, 0, 0, i)))) (R.1 8) (fun f M' hP => ?_) (fun f k M' hk hP ih => ?_) (R.1 7 - R.1 8) (R.1 7) fu (sl M l) (by omega) (by show _ < 32768; omega) ⟨Nat.le_refl _, by rw [Nat.sub_self, List.range'_zero, List.reverse_nil, List.flatMap_nil, List.append_nil]⟩
  · obtain ⟨_, rfl⟩ := hP
    rw [L_X12_checkpoint_65]
    refine tr_Gr (WM_sl h) hr rfl ?_
    rw [if_pos (nI_lt1 _ (by omega))]
    exact g
  · obtain ⟨hk7, rfl⟩ := hP
    rw [L_X12_checkpoint_65]
    refine tr_Gr (WM_sl h) hr rfl ?_
    rw [if_neg (Int32.not_lt.mpr (nI_le hk (by omega)))]
    have hlen : (l ++ (List.range' (k + 1) (R.1 7 - (k + 1))).reverse.flatMap (fun i => S.rec (5, 0, 0, 0, i))).length ≤ 206 + 72 * 16 := by
      have := fm_len (B := 72) (f := fun i => S.rec (5, 0, 0, 0, i)) (fun i => Nat.le_of_eq (rec5_len S i)) (List.range' (k + 1) (R.1 7 - (k + 1))).reverse
      rw [List.length_reverse, List.length_range'] at this
      rw [List.length_append]
      have : 72 * (R.1 7 - (k + 1)) ≤ 72 * 16 := by omega
      omega
    generalize hx : l ++ (List.range' (k + 1) (R.1 7 - (k + 1))).reverse.flatMap (fun i => S.rec (5, 0, 0, 0, i)) = x at hlen ⊢
    rw [e_lay _ (by omega), Option.bind_some, q_c89 h hr hk (by omega) (by omega) (by rw [List.length_append]; simp only [List.length_cons, List.length_nil]; omega), sl_45, List.append_assoc, e_asRecord (by simp only [List.length_append, List.length_cons, List.length_nil, encVa_len]; omega), Option.bind_some, nI_m1]
    refine ih _ ⟨by omega, ?_⟩
    have e5 : by8 5 = 5 := by decide
    rw [e5, ← hx, show [5] ++ encVa (S.sta k).1 = 5 :: encVa (S.sta k).1 from rfl, ← rec5]
    have er : (List.range' k (R.1 7 - k)).reverse = (List.range' (k + 1) (R.1 7 - (k + 1))).reverse ++ [k] := by
      rw [show R.1 7 - k = R.1 7 - (k + 1) + 1 by omega, List.range'_succ, List.reverse_cons]
    rw [er, List.flatMap_append, List.append_assoc, List.flatMap_cons, List.flatMap_nil, List.append_nil]
/-- the blocks of a half -/
theorem q_c211 {ρ : Type} {S : Sx} {r hf sz : Nat} {l : List Nat} {kx80 kx88 : vM → Option ρ} {Q : ρ → Prop} (hs : SmS S) (hr : r < 9) (hh : hf ≤ 1) (hl : Bts l) (hll : l.length ≤ 2400) (hsz : sz ≤ 2400) : ∀ (d k fl : Nat) (M : vM) (R : Rp), k + d = (sz + 1) / 512 + 1 → d < fl → WM M (S.set r R) → DuOk R → ((y_blk l (y_hs hf) R (List.range' (y_fb hf + k) d)).2 = false → ∀ M', WM M' (y_goDown (S.set r (y_blk l (y_hs hf) R (List.range' (y_fb hf + k) d)).1) r) → tr (kx80 M') Q) → ((y_blk l (y_hs hf) R (List.range' (y_fb hf + k) d)).2 = true → ∀ M', kp M' M → WM M' (S.set r (y_blk l (y_hs hf) R (List.range' (y_fb hf + k) d)).1) → tr (kx88 (sl M' l)) Q) → tr (L_X12_checkpoint_211 (nI r) (nI hf) (nI sz) kx80 kx88 fl (sl M l) (nI k)) Q := by
  have ec : (nI sz + (1 : Int32)) / (512 : Int32) = nI ((sz + 1) / 512) := by
    rw [show nI sz + (1 : Int32) = nI (sz + 1) from nI_add sz 1]
    exact nI_div (b := 512) (by omega) (by decide)
  intro d
  induction d with
  | zero =>
    intro k fl M R h1 h2 h hd g0 g1
    obtain ⟨fl, rfl⟩ : ∃ f', fl = f' + 1 := ⟨fl - 1, by omega⟩
    rw [L_X12_checkpoint_211, ec, if_pos (Int32.not_le.mp (nI_ge (by omega) (by omega)))]
    exact g1 rfl M (fun _ _ _ _ => rfl) h
  | succ d ih =>
    intro k fl M R h1 h2 h hd g0 g1
    obtain ⟨fl, rfl⟩ : ∃ f', fl = f' + 1 := ⟨fl - 1, by omega⟩
    rw [L_X12_checkpoint_211, ec, if_neg (Int32.not_lt.mpr (nI_le (by omega) (by omega))), show nI k + (1 : Int32) = nI (k + 1) from nI_add k 1]
    rw [List.range'_succ, y_blk_c] at g0 g1
    refine r_firstBlock hh ?_
    refine tr_b2 (r_putBlock (b := y_fb hf + k) (f := 0) (g := 512 * k) (start := y_hs hf) hs h hr (by have := fb_le hf; omega) (by omega) (by omega) hl hll hd (by rw [hs_fb]; omega) (nI_add _ _) (by rw [show nI (512 * k) = (512 : Int32) * nI k from (nI_mul 512 k).symm, show nI 0 = (0 : Int32) from rfl, Int32.zero_sub, ← Int32.neg_mul])) fun M1 v hv => ?_
    rcases hv with ⟨c, e, h1⟩ | ⟨c, e, M2, e2, e29, h1⟩
    · dsimp only at e h1
      subst e
      rw [if_pos rfl]
      rw [if_pos c] at g0
      exact g0 rfl M1 h1
    · dsimp only at e e2
      subst e; subst e2
      rw [if_neg (by decide)]
      rw [if_neg c] at g0 g1
      rw [show y_fb hf + k + 1 = y_fb hf + (k + 1) by omega] at g0 g1
      exact ih (k + 1) fl M2 _ (by omega) (by omega) h1 (DuOk_b1 hd _ _ _) g0 (fun q M' e' => g1 q M' (e'.trans e29))
/-- writes into row 29 behind the notes -/
theorem WM_29 {M : vM} {S : Sx} {r x : Nat} {R : Rp} {v : Int32} (h : WM M (S.set r R)) (hr : r < 9) (hV : S.V ≤ 16) (hx : 100 * R.2.2.1.length ≤ x) (hx2 : x < 6400) : WM (uE M 29 (6400 * r + x) v) (S.set r R) :=
  WM_set (j := 29) (i := x) (R' := R) h hr hx2 (RR_j (WM_r h hr) (Or.inr ⟨rfl, hx⟩) hV)
theorem q_c322 {ρ : Type} {kx : vM → Option ρ} {Q : ρ → Prop} {M : vM} {S : Sx} {r : Nat} {R : Rp} (h : WM M (S.set r R)) (hr : r < 9) (hV : S.V ≤ 16) (hR : R.2.2.1 = []) (g : ∀ M', WM M' (S.set r R) → (∀ x, x < 100 → M'.2 29 (6400 * r + x) = M.2 37 x) → tr (kx M') Q) : tr (L_X12_checkpoint_322 (nI r) kx fu M 0) Q := by
  refine tr_up0 (g := L_X12_checkpoint_322 (nI r) kx) (fun k M' => WM M' (S.set r R) ∧ M'.2 37 = M.2 37 ∧ ∀ x, x < k → M'.2 29 (6400 * r + x) = M.2 37 x) 100 (by decide) (fun f M1 hP => ?_) (fun f k M1 hk hP ih => ?_) M ⟨h, rfl, fun x hx => absurd hx (Nat.not_lt_zero _)⟩
  · obtain ⟨p1, p2, p3⟩ := hP
    rw [L_X12_checkpoint_322, if_pos (show (100 : Int32) ≤ nI 100 from nI_le (Nat.le_refl 100) (by decide))]
    exact g M1 p1 p3
  · obtain ⟨p1, p2, p3⟩ := hP
    rw [L_X12_checkpoint_322, if_neg (show ¬ (100 : Int32) ≤ nI k from nI_ge (b := 100) (by omega) (by decide)), show (6400 : Int32) * nI r = nI (6400 * r) from nI_mul 6400 r, nI_add, show nI k + (1 : Int32) = nI (k + 1) from nI_add k 1]
    refine tr_G (show k < 100 from hk) (by omega) ?_
    refine tr_S (show _ < 57600 by omega) (by omega) ?_
    refine ih _ ⟨WM_29 p1 hr hV (by rw [hR]; exact Nat.zero_le _) (by omega), ?_, fun x hx => ?_⟩
    · rw [← p2]; exact funext fun y => uE_j _ _ _ (by decide)
    · by_cases e : x = k
      · subst e; rw [uE_s, p2]
      · rw [uE_i _ _ (by omega)]; exact p3 x (by omega)
theorem q_c388 {ρ : Type} {kx : vM → Option ρ} {Q : ρ → Prop} {M : vM} {S : Sx} {r i : Nat} {R : Rp} (h : WM M (S.set r R)) (hr : r < 9) (hV : S.V ≤ 16) (h1 : R.1 8 ≤ i) (h2 : i ≤ R.1 7) (hi : i < 2 ^ 30) (hl : R.2.2.1.length < 64) (g : ∀ M', WM M' (S.set r R) → (∀ x, x < 16 → M'.2 29 (6400 * r + (100 * R.2.2.1.length + x)) = (S.sta i).1 x) → tr (kx M') Q) : tr (L_X12_checkpoint_388 (nI r) (nI i) kx fu M 0) Q := by
  refine tr_up0 (g := L_X12_checkpoint_388 (nI r) (nI i) kx) (fun k M' => WM M' (S.set r R) ∧ ∀ x, x < k → M'.2 29 (6400 * r + (100 * R.2.2.1.length + x)) = (S.sta i).1 x) 16 (by decide) (fun f M1 hP => ?_) (fun f k M1 hk hP ih => ?_) M ⟨h, fun x hx => absurd hx (Nat.not_lt_zero _)⟩
  · obtain ⟨p1, p3⟩ := hP
    rw [L_X12_checkpoint_388, if_pos (show (16 : Int32) ≤ nI 16 from nI_le (Nat.le_refl 16) (by decide))]
    exact g M1 p1 p3
  · obtain ⟨p1, p3⟩ := hP
    rw [L_X12_checkpoint_388, if_neg (show ¬ (16 : Int32) ≤ nI k from nI_ge (b := 16) (by omega) (by decide))]
    refine tr_G (show r < 9 from hr) (by omega) ?_
    have e30 := (WM_r p1 hr).2.2.2.2.2.2.2.2.2.1
    rw [vw_1 rfl] at e30
    rw [e30]
    refine r_at (by omega) ?_
    rw [show (16 : Int32) * nI (40 * r + i % 40) = nI (16 * (40 * r + i % 40)) from nI_mul 16 _, nI_add, show (6400 : Int32) * nI r = nI (6400 * r) from nI_mul 6400 r, show (100 : Int32) * nI R.2.2.1.length = nI (100 * R.2.2.1.length) from nI_mul 100 _, nI_add, nI_add, show nI k + (1 : Int32) = nI (k + 1) from nI_add k 1]
    refine tr_G (show _ < 5760 by omega) (by omega) ?_
    rw [WM_h p1 hr h1 h2 hk]
    refine tr_S (show _ < 57600 by omega) (by omega) ?_
    rw [Nat.add_assoc]
    refine ih _ ⟨WM_29 p1 hr hV (by omega) (by omega), fun x hx => ?_⟩
    by_cases e : x = k
    · subst e; rw [uE_s]
    · rw [uE_i _ _ (by omega)]; exact p3 x (by omega)
