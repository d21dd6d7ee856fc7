/-! ===== bounds; the reference's notes ===== -/
def TbOk (tb : Nat → Rq) : Prop := ∀ q, (tb q).1 0 < 16 ∧ (tb q).1 1 < 2 ^ 30 ∧ (tb q).1 2 < 2 ^ 30
theorem st_b {V : Nat} {tb : Nat → Rq} {g : Nat → Nat} (h : TbOk tb) : ∀ i s, (stN V tb g i).2.1 s < 2 ^ 30 ∧ (stN V tb g i).2.2.1 s ≤ 2 := by
  intro i
  induction i with
  | zero => intro s; exact ⟨(by decide : 0 < 2 ^ 30), Nat.zero_le _⟩
  | succ i ih =>
    intro s
    show (y_app V (stN V tb g i) i (tb (g (i + 1)))).2.1 s < _ ∧ (y_app V (stN V tb g i) i (tb (g (i + 1)))).2.2.1 s ≤ 2
    unfold y_app
    refine ⟨?_, ?_⟩
    · show (if _ then va_up _ _ _ else _ : Nat → Nat) s < _
      split
      · by_cases e : s = (tb (g (i + 1))).1 0
        · rw [e, va_up_self]; exact (h _).2.1
        · rw [va_up_ne _ _ e]; exact (ih s).1
      · exact (ih s).1
    · show (if _ then va_up _ _ _ else _ : Nat → Nat) s ≤ _
      split
      · by_cases e : s = (tb (g (i + 1))).1 0
        · rw [e, va_up_self]
          unfold y_ver
          split
          · split <;> omega
          · omega
        · rw [va_up_ne _ _ e]; exact (ih s).2
      · exact (ih s).2
def Cx (S : Sx) : Prop := 3 ≤ S.N ∧ S.N ≤ 9 ∧ 1 ≤ S.V ∧ S.V ≤ 16 ∧ 1 ≤ S.L ∧ S.L ≤ 32 ∧ 2 ≤ S.T ∧ S.T ≤ 40 ∧ TbOk S.tb ∧ S.1 4 ≤ 4200 ∧ SmS S
theorem Cx.V {S : Sx} (h : Cx S) : S.V ≤ 16 := h.2.2.2.1
theorem Cx.N {S : Sx} (h : Cx S) : S.N ≤ 9 := h.2.1
theorem Cx.tb {S : Sx} (h : Cx S) : TbOk S.tb := h.2.2.2.2.2.2.2.2.1
theorem Cx.s {S : Sx} (h : Cx S) : SmS S := h.2.2.2.2.2.2.2.2.2.2
theorem Cx.nr {S : Sx} (h : Cx S) : S.1 4 ≤ 4200 := h.2.2.2.2.2.2.2.2.2.1
theorem Cx.set {S : Sx} (h : Cx S) (r : Nat) (R : Rp) : Cx (S.set r R) := h
def NbOk (n : Nt) : Prop := 1 ≤ n.1 ∧ n.1 ≤ 5 ∧ n.2.1 < 2 ^ 31 ∧ n.2.2.1 < 2 ^ 31 ∧ n.2.2.2.2 < 2 ^ 31
theorem encQ_len {q : Rq} (h1 : q.1 1 < 2 ^ 30) (h2 : q.1 2 < 2 ^ 30) : (encQ q).length ≤ 79 := encR_len (by omega) (by omega)
theorem Bts.encQ (q : Rq) : Bts (encQ q) := Bts.encR _ _ _ _ _ _
theorem encSt_len {V i : Nat} {s : Sta} (h1 : i < 2 ^ 31) (h2 : ∀ k, s.2.1 k < 2 ^ 30) (hV : V ≤ 16) : (encSt V s i).length ≤ 197 := encS_len h1 (fun k => Nat.lt_trans (h2 k) (by decide)) hV
theorem Bts.encSt (V : Nat) (s : Sta) (i : Nat) : Bts (encSt V s i) := Bts.encS _ _ _ _ _ _
theorem encVa_len (v : Nat → Int32) : (encVa v).length = 64 := by
  unfold encVa
  rw [List.length_flatMap]
  rfl
theorem Bts.encVa (v : Nat → Int32) : Bts (encVa v) := Bts.flatMap (fun k => Bts.be4 _) _
theorem pay_len {V : Nat} {tb : Nat → Rq} {g : Nat → Nat} {n : Nt} (ht : TbOk tb) (hV : V ≤ 16) (hn : NbOk n) : (y_pay V tb (stN V tb g) n).length ≤ 198 ∧ 1 ≤ (y_pay V tb (stN V tb g) n).length := by
  obtain ⟨n1, n2, n3, n4, n5⟩ := n
  obtain ⟨h1, h2, h3, h4, h5⟩ := hn
  have q1 := encU_len h3
  have q2 := encU_len h4
  have q3 := encQ_len (q := tb n4) (ht _).2.1 (ht _).2.2
  have q4 := encSt_len (V := V) (s := stN V tb g n5) h5 (fun k => (st_b ht n5 k).1) hV
  have q5 := encVa_len (stN V tb g n5).1
  unfold y_pay
  dsimp only
  dsimp only at q1 q2 q3 q4 q5
  split <;> simp only [List.length_cons, List.length_append] <;> omega
theorem Bts.pay {V : Nat} {tb : Nat → Rq} {g : Nat → Sta} {n : Nt} : Bts (y_pay V tb g n) := by
  unfold y_pay
  split
  · exact Bts.cons (by decide) (Bts.encU _)
  · exact Bts.cons (by decide) ((Bts.encU _).app ((Bts.encU _).app (Bts.encQ _)))
  · exact Bts.cons (by decide) (Bts.encQ _)
  · exact Bts.cons (by decide) (Bts.encSt _ _ _)
  · exact Bts.cons (by decide) (Bts.encVa _)
theorem rec_len {S : Sx} {n : Nt} (h : Cx S) (hn : NbOk n) : (S.rec n).length ≤ 206 := by
  have := (pay_len (g := S.lg) (tb := S.tb) h.tb h.V hn).1
  show (recL (y_pay S.V S.tb (stN S.V S.tb S.lg) n)).length ≤ 206
  rw [recL_len]
  omega
theorem Bts.rec {S : Sx} {n : Nt} (h : Cx S) (hn : NbOk n) : Bts (S.rec n) := Bts.recL Bts.pay (by
  have := (pay_len (g := S.lg) (tb := S.tb) h.tb h.V hn).1
  show (y_pay S.V S.tb (stN S.V S.tb S.lg) n).length < 65536
  omega)
/-- bounds of a replica's journal -/
def JR (R : Rp) : Prop := R.1 33 ≤ 1 ∧ R.1 31 ≤ 206 * R.2.2.1.length ∧ R.2.2.1.length ≤ 48 ∧ DuOk R
theorem blk_o (l : List Nat) (start : Nat) : ∀ (bs : List Nat) (R : Rp), (∀ f, f ≠ 34 → f ≠ 35 → (y_blk l start R bs).1.1 f = R.1 f) ∧ (y_blk l start R bs).1.2.1 = R.2.1 ∧ (y_blk l start R bs).1.2.2.1 = R.2.2.1 ∧ (DuOk R → DuOk (y_blk l start R bs).1) := by
  intro bs
  induction bs with
  | nil => intro R; exact ⟨fun _ _ _ => rfl, rfl, rfl, id⟩
  | cons b bs ih =>
    intro R
    rw [y_blk_c]
    by_cases e : R.1 35 = 0
    · rw [if_pos e]
      exact ⟨fun f _ h => u_n _ _ h, rfl, rfl, fun _ => Or.inr (u_s _ _ _)⟩
    · rw [if_neg e]
      obtain ⟨a1, a2, a3, a4⟩ := ih (y_b1 l start R b)
      exact ⟨fun f h1 h2 => (a1 f h1 h2).trans (b1_o h1 h2), a2, a3, fun h => a4 (DuOk_b1 h _ _ _)⟩
theorem note_t {S : Sx} {r : Nat} {R : Rp} {n : Nt} (h : (y_note (S.set r R) r n).2 = true) : ∃ R', (y_note (S.set r R) r n).1 = S.set r R' ∧ (∀ f, f ≠ 31 → f ≠ 34 → f ≠ 35 → R'.1 f = R.1 f) ∧ R'.1 31 = R.1 31 + (S.rec n).length ∧ R'.2.1 = R.2.1 ∧ R'.2.2.1 = R.2.2.1 ++ [n] ∧ (DuOk R → DuOk R') := by
  unfold y_note at h ⊢
  rw [set_rp] at h ⊢
  dsimp only at h ⊢
  split at h
  · rename_i c
    rw [if_pos c]
    obtain ⟨a1, a2, a3, a4⟩ := blk_o ((S.set r R).rec n) (y_hs (R.1 33) + R.1 31) (y_asc (y_hs (R.1 33) + R.1 31) ((S.set r R).rec n).length).reverse R
    refine ⟨_, set_set _ _ _ _, fun f h1 h2 h3 => (u_n _ _ h1).trans (a1 f h2 h3), (show ((y_blk ((S.set r R).rec n) (y_hs (R.1 33) + R.1 31) R (y_asc (y_hs (R.1 33) + R.1 31) ((S.set r R).rec n).length).reverse).1.u 31 (R.1 31 + ((S.set r R).rec n).length)).1 31 = R.1 31 + (S.rec n).length from u_s _ _ _), a2, rfl, fun hd => ?_⟩
    exact a4 hd
  · exact absurd (show false = true from h) (by decide)
theorem tr_if {ρ : Type} {b : Bool} {x y : Option ρ} {Q : ρ → Prop} (h0 : b = false → tr x Q) (h1 : b = true → tr y Q) : tr (if (if b = true then (1 : Int32) else 0) = 0 then x else y) Q := by
  cases b
  · exact h0 rfl
  · exact h1 rfl
def y_fb (h : Nat) : Nat := if h = 0 then 2 else 33
theorem hs_fb (h : Nat) : y_hs h = 512 * y_fb h := by
  unfold y_hs y_fb
  split <;> rfl
theorem fb_le (h : Nat) : y_fb h ≤ 33 := by
  unfold y_fb
  split <;> omega
theorem r_firstBlock {ρ : Type} {M : vM} {h : Nat} {f : vM → Int32 → Option ρ} {Q : ρ → Prop} (hh : h ≤ 1) (g : tr (f M (nI (y_fb h))) Q) : tr (b2 (F_X12_firstBlock M (nI h)) f) Q := by
  unfold F_X12_firstBlock
  have : h = 0 ∨ h = 1 := by omega
  rcases this with rfl | rfl
  · exact g
  · exact g
theorem rev_c (a d : Nat) : (List.range' a (d + 1)).reverse = (a + d) :: (List.range' a d).reverse := by
  rw [List.range'_concat, List.reverse_append, Nat.one_mul]; rfl
theorem q_note {ρ : Type} {S : Sx} {r hf f first : Nat} {l : List Nat} {l2 l3 l4 l5 l7 : Int32} {kx80 kx88 : vM → Option ρ} {Q : ρ → Prop} (hs : SmS S) (hr : r < 9) (hh : hf ≤ 1) (hf' : f < 20000) (hl : Bts l) (hll : l.length ≤ 2400) (hfi : first ≤ 60) : ∀ (d t fl : Nat) (M : vM) (R : Rp), first + d = t → t ≤ 31 → d < fl → WM M (S.set r R) → R.1 33 = hf → DuOk R → ((y_blk l (y_hs hf + f) R (List.range' (y_fb hf + first) d).reverse).2 = false → ∀ M', WM M' (y_goDown (S.set r (y_blk l (y_hs hf + f) R (List.range' (y_fb hf + first) d).reverse).1) r) → tr (kx80 M') Q) → ((y_blk l (y_hs hf + f) R (List.range' (y_fb hf + first) d).reverse).2 = true → ∀ M', kp M' M → WM M' (S.set r (y_blk l (y_hs hf + f) R (List.range' (y_fb hf + first) d).reverse).1) → tr (kx88 (sl M' l)) Q) → tr (L_X12_note_44 (nI r) l2 l3 l4 l5 (nI f) l7 (nI first) kx80 kx88 fl (sl M l) (nI t - 1)) Q := by
  intro d
  induction d with
  | zero =>
    intro t fl M R h1 h2 h3 h e33 hd g0 g1
    obtain ⟨fl, rfl⟩ : ∃ f', fl = f' + 1 := ⟨fl - 1, by omega⟩
    obtain rfl : t = first := by omega
    have c : nI t - 1 < nI t := by
      by_cases e : t = 0
      · subst e; decide
      · have : nI t = nI (t - 1 + 1) := by congr 1; omega
        rw [this, nI_p1]
        exact Int32.not_le.mp (nI_ge (by omega) (by omega))
    rw [L_X12_note_44, if_pos c]
    exact g1 rfl M (fun _ _ _ _ => rfl) h
  | succ d ih =>
    intro t fl M R h1 h2 h3 h e33 hd g0 g1
    obtain ⟨fl, rfl⟩ : ∃ f', fl = f' + 1 := ⟨fl - 1, by omega⟩
    obtain ⟨t, rfl⟩ : ∃ t', t = t' + 1 := ⟨t - 1, by omega⟩
    have ht : t = first + d := by omega
    rw [nI_p1, L_X12_note_44, if_neg (show ¬ nI t < nI first from Int32.not_lt.mpr (nI_le (by omega) (by omega))), nI_m1]
    rw [rev_c, y_blk_c] at g0 g1
    refine tr_Gr (WM_sl h) hr rfl ?_
    rw [e33]
    refine r_firstBlock hh ?_
    refine tr_b2 (r_putBlock (b := y_fb hf + t) (f := f) (g := 512 * t) (start := y_hs hf + f) hs h hr (by have := fb_le hf; omega) (by omega) (by omega) hl hll hd (by rw [hs_fb]; omega) (nI_add _ _) (by rw [show (512 : Int32) * nI t = nI (512 * t) from nI_mul 512 t])) fun M1 v hv => ?_
    rcases hv with ⟨c, e, h1⟩ | ⟨c, e, M2, e2, e29, h1⟩
    · dsimp only at e h1
      subst e
      rw [if_pos rfl]
      rw [if_pos c] at g0
      exact g0 rfl M1 h1
    · dsimp only at e e2
      subst e; subst e2
      rw [if_neg (by decide)]
      rw [if_neg c] at g0 g1
      rw [show y_fb hf + first + d = y_fb hf + t by omega] at g0 g1
      exact ih t fl M2 _ (by omega) (by omega) (by omega) h1 ((b1_o (by decide) (by decide)).trans e33) (DuOk_b1 hd _ _ _) g0 (fun q M' e' => g1 q M' (e'.trans e29))
theorem asc_fb (h f n : Nat) : y_asc (y_hs h + f) n = List.range' (y_fb h + f / 512) ((f + n + 1) / 512 + 1 - f / 512) := by
  unfold y_asc
  rw [hs_fb]
  have e1 : (512 * y_fb h + f) / 512 = y_fb h + f / 512 := by omega
  have e2 : (512 * y_fb h + f + n + 1) / 512 = y_fb h + (f + n + 1) / 512 := by omega
  rw [e1, e2]
  congr 1
  omega
theorem tr_and {α : Type} {x : Option α} {P Q : α → Prop} (h : tr x P) (g : ∀ a, x = some a → Q a) : tr x (fun a => P a ∧ Q a) := by
  obtain ⟨a, e, p⟩ := h
  exact ⟨a, e, p, g a e⟩
theorem mS_45 {M M' : vM} {j : Nat} {i v : Int32} (h : mS M j i v = some M') (hj : j ≠ 45) : M'.2 45 = M.2 45 := by
  unfold mS at h
  split at h
  · exact absurd h (by simp)
  · injection h with h
    rw [← h]
    exact funext fun y => vi_u2i _ _ (Ne.symm hj)
theorem addNote_o {M M' : vM} {a1 a2 a3 a4 a5 : Int32} (h : F_X12_addNote M a1 a2 a3 a4 a5 = some M') : M'.2 45 = M.2 45 := by
  unfold F_X12_addNote at h
  obtain ⟨_, _, h⟩ := Option.bind_eq_some_iff.mp h
  obtain ⟨M2, e2, h⟩ := Option.bind_eq_some_iff.mp h
  obtain ⟨M3, e3, h⟩ := Option.bind_eq_some_iff.mp h
  obtain ⟨M4, e4, h⟩ := Option.bind_eq_some_iff.mp h
  obtain ⟨M5, e5, h⟩ := Option.bind_eq_some_iff.mp h
  obtain ⟨_, _, h⟩ := Option.bind_eq_some_iff.mp h
  obtain ⟨M7, e7, h⟩ := Option.bind_eq_some_iff.mp h
  injection h with h
  rw [← h, mS_45 e7 (by decide), mS_45 e5 (by decide), mS_45 e4 (by decide), mS_45 e3 (by decide), mS_45 e2 (by decide)]
theorem r_note' {M : vM} {S : Sx} {r : Nat} {R : Rp} {n : Nt} {c2 c3 c4 c5 : Int32} (hC : Cx S) (h : WM M (S.set r R)) (hr : r < 9) (hJ : JR R) (hl : R.2.2.1.length < 48) (hn : NbOk n) (e2 : c2 = nI n.1) (e3 : c3 = nI n.2.1) (e4 : c4 = nI n.2.2.1) (e5 : c5 = nI n.2.2.2.1) (h4 : n.1 = 4 → imA (vw M r 29) (100 * R.2.2.1.length) S.V (S.sta n.2.2.2.2) n.2.2.2.2) (h5 : n.1 = 5 → ∀ x, x < 16 → vw M r 29 (100 * R.2.2.1.length + x) = (S.sta n.2.2.2.2).1 x) : tr (F_X12_note (sl M (y_pay S.V S.tb S.sta n)) (nI r) c2 c3 c4 c5) (fun p => p.2 = (if (y_note (S.set r R) r n).2 = true then (1 : Int32) else 0) ∧ WM p.1 (y_note (S.set r R) r n).1 ∧ ((y_note (S.set r R) r n).2 = true → p.1.2 45 = M.2 45)) := by
  obtain ⟨j1, j2, j3, j4⟩ := hJ
  have hrl := rec_len hC hn
  have hrl0 : 1 ≤ (S.rec n).length := by
    show 1 ≤ (recL (y_pay S.V S.tb S.sta n)).length
    rw [recL_len]; omega
  have hpl := (pay_len (g := S.lg) (tb := S.tb) hC.tb hC.V hn).1
  unfold F_X12_note
  have ea := e_asRecord (M := M) (p := []) (x := y_pay S.V S.tb S.sta n) (by
    show 0 + (y_pay S.V S.tb (stN S.V S.tb S.lg) n).length + 8 ≤ 2400
    omega)
  rw [List.nil_append, List.nil_append] at ea
  rw [show F_X12_asRecord (sl M (y_pay S.V S.tb S.sta n)) 0 = some (sl M (S.rec n)) from ea, Option.bind_some]
  refine tr_Gr (WM_sl h) hr rfl ?_
  rw [sl_45]
  have ef : (nI (R.1 31)) / (512 : Int32) = nI (R.1 31 / 512) := nI_div (b := 512) (by omega) (by decide)
  have el : (nI (R.1 31) + nI (S.rec n).length + 1) / (512 : Int32) = nI ((R.1 31 + (S.rec n).length + 1) / 512 + 1) - 1 := by
    rw [nI_p1, nI_add, show nI (R.1 31 + (S.rec n).length) + (1 : Int32) = nI (R.1 31 + (S.rec n).length + 1) from nI_add _ 1]
    exact nI_div (b := 512) (by omega) (by decide)
  rw [ef, el]
  have eqn : y_note (S.set r R) r n = if (y_blk (S.rec n) (y_hs (R.1 33) + R.1 31) R (List.range' (y_fb (R.1 33) + R.1 31 / 512) ((R.1 31 + (S.rec n).length + 1) / 512 + 1 - R.1 31 / 512)).reverse).2 = true then (S.set r (((y_blk (S.rec n) (y_hs (R.1 33) + R.1 31) R (List.range' (y_fb (R.1 33) + R.1 31 / 512) ((R.1 31 + (S.rec n).length + 1) / 512 + 1 - R.1 31 / 512)).reverse).1.u 31 (R.1 31 + (S.rec n).length)).n (R.2.2.1 ++ [n])), true) else (y_goDown (S.set r (y_blk (S.rec n) (y_hs (R.1 33) + R.1 31) R (List.range' (y_fb (R.1 33) + R.1 31 / 512) ((R.1 31 + (S.rec n).length + 1) / 512 + 1 - R.1 31 / 512)).reverse).1) r, false) := by
    unfold y_note
    rw [set_rp]
    dsimp only
    rw [show (S.set r R).rec n = S.rec n from rfl, asc_fb, set_set, set_set]
  have hfu : (R.1 31 + (S.rec n).length + 1) / 512 + 1 - R.1 31 / 512 < fu := by show _ < 32768; omega
  refine q_note hC.s hr j1 (by omega) (Bts.rec hC hn) (by omega) (by omega) ((R.1 31 + (S.rec n).length + 1) / 512 + 1 - R.1 31 / 512) _ fu M R (by omega) (by omega) hfu h rfl j4 (fun c M' h' => ?_) (fun c M' e29 h' => ?_)
  · rw [eqn, c]
    exact tr_z0 (tr_some ⟨rfl, h', fun e => absurd (show false = true from e) (by decide)⟩)
  · rw [eqn, c]
    obtain ⟨a1, a2, a3, a4⟩ := blk_o (S.rec n) (y_hs (R.1 33) + R.1 31) (List.range' (y_fb (R.1 33) + R.1 31 / 512) ((R.1 31 + (S.rec n).length + 1) / 512 + 1 - R.1 31 / 512)).reverse R
    refine tr_Gr (WM_sl h') hr rfl ?_
    rw [a1 31 (by decide) (by decide), nI_add]
    refine tr_S (show r < 9 from hr) (by omega) ?_
    have h1 := WM_u (j := 31) (v := R.1 31 + (S.rec n).length) (WM_sl (l := S.rec n) h') hr rfl (by decide) (by decide) (by decide)
    have ev : vw (uE (sl M' (S.rec n)) 31 r (nI (R.1 31 + (S.rec n).length))) r 29 = vw M r 29 := by
      funext x
      unfold vw
      rw [uE_j _ _ _ (by decide), sl_2 _ _ _ (by decide), e29 29 (by decide) (by decide) (by decide)]
    refine tr_bind (tr_and (r_addNote (n := n) h1 hr hC.V (by show (y_blk _ _ _ _).1.2.2.1.length < 64; rw [a3]; omega) e2 e3 e4 e5 (fun q => ?_) (fun q x hx => ?_)) (fun _ => addNote_o)) fun M2 h2 => ?_
    · rw [ev]
      show imA _ (100 * (y_blk _ _ _ _).1.2.2.1.length) _ _ _
      rw [a3]; exact h4 q
    · rw [ev]
      show vw M r 29 (100 * (y_blk _ _ _ _).1.2.2.1.length + x) = _
      rw [a3]; exact h5 q x hx
    · obtain ⟨h2, h45⟩ := h2
      refine tr_z1 (tr_some ⟨rfl, ?_, fun _ => by rw [h45, show (uE (sl M' (S.rec n)) 31 r (nI (R.1 31 + (S.rec n).length))).2 45 = M'.2 45 from funext fun y => by rw [uE_j _ _ _ (by decide), sl_2 _ _ _ (by decide)], e29 45 (by decide) (by decide) (by decide)]⟩)
      have e : ((y_blk (S.rec n) (y_hs (R.1 33) + R.1 31) R (List.range' (y_fb (R.1 33) + R.1 31 / 512) ((R.1 31 + (S.rec n).length + 1) / 512 + 1 - R.1 31 / 512)).reverse).1.u 31 (R.1 31 + (S.rec n).length)).2.2.1 = R.2.2.1 := a3
      rw [e] at h2
      exact h2
theorem r_note {M : vM} {S : Sx} {r : Nat} {R : Rp} {n : Nt} {c2 c3 c4 c5 : Int32} (hC : Cx S) (h : WM M (S.set r R)) (hr : r < 9) (hJ : JR R) (hl : R.2.2.1.length < 48) (hn : NbOk n) (e2 : c2 = nI n.1) (e3 : c3 = nI n.2.1) (e4 : c4 = nI n.2.2.1) (e5 : c5 = nI n.2.2.2.1) (h4 : n.1 = 4 → imA (vw M r 29) (100 * R.2.2.1.length) S.V (S.sta n.2.2.2.2) n.2.2.2.2) (h5 : n.1 = 5 → ∀ x, x < 16 → vw M r 29 (100 * R.2.2.1.length + x) = (S.sta n.2.2.2.2).1 x) : tr (F_X12_note (sl M (y_pay S.V S.tb S.sta n)) (nI r) c2 c3 c4 c5) (fun p => p.2 = (if (y_note (S.set r R) r n).2 = true then (1 : Int32) else 0) ∧ WM p.1 (y_note (S.set r R) r n).1) :=
  tr_imp (r_note' hC h hr hJ hl hn e2 e3 e4 e5 h4 h5) fun _ p => ⟨p.1, p.2.1⟩
