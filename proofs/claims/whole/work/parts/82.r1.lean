/-! ===== the reference against the middle machine: single places ===== -/
theorem set_rp (S : Sx) (r : Nat) (R : Rp) : (S.set r R).rp r = R := va_up_self _ _ _
theorem set_ne (S : Sx) {r k : Nat} (R : Rp) (h : k ≠ r) : (S.set r R).rp k = S.rp k := va_up_ne _ _ h
theorem set_set (S : Sx) (r : Nat) (A B : Rp) : (S.set r A).set r B = S.set r B := by
  show (S.1, S.2.1, S.2.2.1, va_up (va_up S.rp r A) r B, S.2.2.2.2) = (S.1, S.2.1, S.2.2.1, va_up S.rp r B, S.2.2.2.2)
  have : va_up (va_up S.rp r A) r B = va_up S.rp r B := by
    funext k
    by_cases e : k = r
    · subst e; rw [va_up_self, va_up_self]
    · rw [va_up_ne _ _ e, va_up_ne _ _ e, va_up_ne _ _ e]
  rw [this]
theorem set_id (S : Sx) (r : Nat) : S.set r (S.rp r) = S := by
  show (S.1, S.2.1, S.2.2.1, va_up S.rp r (S.rp r), S.2.2.2.2) = S
  have : va_up S.rp r (S.rp r) = S.rp := by
    funext k
    by_cases e : k = r
    · subst e; rw [va_up_self]
    · rw [va_up_ne _ _ e]
  rw [this]
theorem u_s (R : Rp) (f v : Nat) : (R.u f v).1 f = v := va_up_self _ _ _
theorem u_n (R : Rp) {f g : Nat} (v : Nat) (h : g ≠ f) : (R.u f v).1 g = R.1 g := va_up_ne _ _ h
theorem u_id (R : Rp) (f : Nat) : R.u f (R.1 f) = R := by
  show (va_up R.1 f (R.1 f), R.2) = R
  have : va_up R.1 f (R.1 f) = R.1 := by
    funext k
    by_cases e : k = f
    · subst e; rw [va_up_self]
    · rw [va_up_ne _ _ e]
  rw [this]
theorem RR_sc {V : Nat} {st : Nat → Sta} {lg : Nat → Nat} {w : Nat → Nat → Int32} {R : Rp} {j v : Nat} (h : RR V st lg w R) (hj : sc j = true) (h7 : j ≠ 7) (h8 : j ≠ 8) (h9 : j ≠ 9) : RR V st lg (vi_u2 w j 0 (nI v)) (R.u j v) := by
  have hn : ∀ k x, zs k ≠ 1 → vi_u2 w j 0 (nI v) k x = w k x := fun k x hk => vi_u2i _ _ (fun e => hk (by rw [e]; exact sc_1 hj))
  have hn2 : ∀ k x, sc k = false → vi_u2 w j 0 (nI v) k x = w k x := fun k x hk => vi_u2i _ _ (fun e => by rw [e, hj] at hk; exact absurd hk (by decide))
  have e7 : (R.u j v).1 7 = R.1 7 := u_n _ _ (Ne.symm h7)
  have e8 : (R.u j v).1 8 = R.1 8 := u_n _ _ (Ne.symm h8)
  have e9 : (R.u j v).1 9 = R.1 9 := u_n _ _ (Ne.symm h9)
  obtain ⟨a1, a2, a3, a4, a5, a6, a7, a8, a9, a10, a11⟩ := h
  unfold RR
  rw [e7, e8, e9]
  refine ⟨fun k hk => ?_, fun i k b1 b2 b3 => ?_, fun i b1 b2 b3 => ?_, fun i b1 b2 => ?_, fun s hs => ?_, fun s hs => ?_, fun k hk => ?_, ?_, fun k hk => ?_, ?_, fun a ha => ?_⟩
  · by_cases e : k = j
    · subst e; rw [vi_u2s, u_s]
    · rw [vi_u2i _ _ e, u_n _ _ e]; exact a1 k hk
  · rw [hn _ _ (by decide)]; exact a2 i k b1 b2 b3
  · rw [hn _ _ (by decide)]; exact a3 i b1 b2 b3
  · rw [hn _ _ (by decide)]; exact a4 i b1 b2
  · rw [hn _ _ (by decide)]; exact a5 s hs
  · rw [hn _ _ (by decide)]; exact a6 s hs
  · rw [hn _ _ (by decide)]; exact a7 k hk
  · rw [hn2 _ _ (by decide)]; exact a8
  · obtain ⟨q1, q2, q3, q4, q5, q6⟩ := a9 k hk
    have e29 : vi_u2 w j 0 (nI v) 29 = w 29 := funext fun x => hn _ _ (by decide)
    refine ⟨?_, ?_, ?_, ?_, fun e => ?_, fun e x hx => ?_⟩
    · rw [hn _ _ (by decide)]; exact q1
    · rw [hn _ _ (by decide)]; exact q2
    · rw [hn _ _ (by decide)]; exact q3
    · rw [hn _ _ (by decide)]; exact q4
    · rw [e29]; exact q5 e
    · rw [hn _ _ (by decide)]; exact q6 e x hx
  · rw [hn2 _ _ (by decide)]; exact a10
  · rw [hn _ _ (by decide)]; exact a11 a ha
theorem RT_c {A B : Nat → Nat → Int32} {tb : Nat → Rq} {n : Nat} (e : ∀ f, f < 6 → B f = A f) (h : RT A tb n) : RT B tb n := by
  intro q h0 hq
  obtain ⟨a1, a2, a3, a4⟩ := h q h0 hq
  exact ⟨fun f hf => by rw [e f (by omega)]; exact a1 f hf, by rw [e 3 (by omega)]; exact a2, by rw [e 4 (by omega)]; exact a3, fun k hk => by rw [e 5 (by omega)]; exact a4 k hk⟩
theorem RS_c {A B : Nat → Nat → Int32} {s : Nat} {x : Se} (e : ∀ f, 46 ≤ f → B f = A f) (h : RS A s x) : RS B s x := by
  obtain ⟨a1, a2, a3, a4⟩ := h
  refine ⟨fun f hf => ?_, by rw [e 50 (by omega)]; exact a2, by rw [e 51 (by omega)]; exact a3, fun k hk => by rw [e 54 (by omega)]; exact a4 k hk⟩
  have : 46 ≤ f := by
    refine Nat.le_of_not_lt fun hc => ?_
    have q : ∀ j : Fin 46, sse j.1 = false := by decide
    rw [q ⟨f, hc⟩] at hf
    exact absurd hf (by decide)
  rw [e f this]; exact a1 f hf
theorem RG_c {A B : Nat → Nat → Int32} {V i : Nat} {st : Nat → Sta} {m : Mg} (e : ∀ f, 39 ≤ f → f ≤ 41 → B f = A f) (h : RG A V st i m) : RG B V st i m := by
  obtain ⟨a1, a2, a3⟩ := h
  refine ⟨fun f hf => by rw [e 39 (by omega) (by omega)]; exact a1 f hf, by rw [e 41 (by omega) (by omega)]; exact a2, fun q => by rw [e 40 (by omega) (by omega)]; exact a3 q⟩
theorem zs_0 {j : Nat} (h : zs j ≠ 0) : 6 ≤ j ∧ j < 45 ∧ j ≠ 39 ∧ j ≠ 40 ∧ j ≠ 41 ∧ j ≠ 37 ∧ j ≠ 38 ∧ j ≠ 42 := by
  by_cases hj : j < 45
  · have : ∀ j : Fin 45, zs j.1 ≠ 0 → 6 ≤ j.1 ∧ j.1 < 45 ∧ j.1 ≠ 39 ∧ j.1 ≠ 40 ∧ j.1 ≠ 41 ∧ j.1 ≠ 37 ∧ j.1 ≠ 38 ∧ j.1 ≠ 42 := by decide
    exact this ⟨j, hj⟩ h
  · exfalso
    apply h
    unfold zs
    split <;> first | omega | rfl
theorem WM_set {M : vM} {S : Sx} {r j i : Nat} {v : Int32} {R R' : Rp} (h : WM M (S.set r R)) (hr : r < 9) (hi : i < zs j) (g : RR S.V S.sta S.lg (vi_u2 (vw M r) j i v) R') : WM (uE M j (zs j * r + i) v) (S.set r R') := by
  obtain ⟨h1, h2, h3, h4, h5, h6⟩ := h
  obtain ⟨z1, z2, z3, z4, z5, z6, z7, z8⟩ := zs_0 (j := j) (by omega)
  have en : ∀ k, k ≠ j → (uE M j (zs j * r + i) v).2 k = M.2 k := fun k hk => funext fun x => uE_j _ _ _ hk
  refine ⟨h1, h2, RT_c (fun f hf => en f (by omega)) h3, fun k hk => ?_, fun s hs => RS_c (fun f hf => en f (by omega)) (h5 s hs), fun n hn => RG_c (fun f hf hf2 => en f (by omega)) (h6 n hn)⟩
  by_cases e : k = r
  · subst e
    rw [set_rp, vw_u hi]; exact g
  · rw [vw_o hi e, set_ne _ _ e]
    have := h4 k hk
    rw [set_ne _ _ e] at this
    exact this
def jk (j : Nat) : Bool := j == 37 || j == 38 || j == 42 || j == 45
theorem WM_c {M M' : vM} {S : Sx} (h : WM M S) (e1 : ∀ f, sf f = true → M'.1 f = M.1 f) (e2 : M'.1 53 = M.1 53) (e3 : ∀ j, jk j = false → M'.2 j = M.2 j) : WM M' S := by
  obtain ⟨h1, h2, h3, h4, h5, h6⟩ := h
  have ejk : ∀ j, j ≠ 37 → j ≠ 38 → j ≠ 42 → j ≠ 45 → jk j = false := fun j q1 q2 q3 q4 => by
    unfold jk
    rw [beq_eq_false_iff_ne.mpr q1, beq_eq_false_iff_ne.mpr q2, beq_eq_false_iff_ne.mpr q3, beq_eq_false_iff_ne.mpr q4]; rfl
  have ev : ∀ r, vw M' r = vw M r := fun r => by
    funext j i
    unfold vw
    by_cases hz : i < zs j
    · rw [if_pos hz, if_pos hz]
      obtain ⟨z1, z2, z3, z4, z5, z6, z7, z8⟩ := zs_0 (j := j) (by omega)
      rw [e3 j (ejk j z6 z7 z8 (by omega))]
    · rw [if_neg hz, if_neg hz]
  refine ⟨fun f hf => by rw [e1 f hf]; exact h1 f hf, by rw [e2]; exact h2, RT_c (fun f hf => e3 f (ejk f (by omega) (by omega) (by omega) (by omega))) h3, fun r hr => by rw [ev]; exact h4 r hr, fun s hs => RS_c (fun f hf => e3 f (ejk f (by omega) (by omega) (by omega) (by omega))) (h5 s hs), fun n hn => RG_c (fun f hf hf2 => e3 f (ejk f (by omega) (by omega) (by omega) (by omega))) (h6 n hn)⟩
theorem WM_sl {M : vM} {S : Sx} {l : List Nat} (h : WM M S) : WM (sl M l) S :=
  WM_c h (fun f hf => sl_1 _ _ (fun e => by rw [e] at hf; exact absurd hf (by decide))) (sl_1 _ _ (by decide)) (fun j hj => funext fun i => sl_2 _ _ _ (fun e => by rw [e] at hj; exact absurd hj (by decide)))
theorem WM_uns {M : vM} {S : Sx} {l : List Nat} (h : WM (sl M l) S) : WM M S :=
  WM_c h (fun f hf => (sl_1 _ _ (fun e => by rw [e] at hf; exact absurd hf (by decide))).symm) (sl_1 _ _ (by decide)).symm (fun j hj => funext fun i => (sl_2 _ _ _ (fun e => by rw [e] at hj; exact absurd hj (by decide))).symm)
theorem WM_jk {M : vM} {S : Sx} {j i : Nat} {v : Int32} (h : WM M S) (hj : jk j = true) : WM (uE M j i v) S :=
  WM_c h (fun f hf => rfl) rfl (fun k hk => funext fun x => uE_j _ _ _ (fun e => by rw [e, hj] at hk; exact absurd hk (by decide)))
theorem mW_1 (M : vM) (f : Nat) (v : Int32) {g : Nat} (h : g ≠ f) : (mW M f v).1 g = M.1 g := by
  unfold mW
  exact va_up_ne _ _ h
theorem mW_2 (M : vM) (f : Nat) (v : Int32) : (mW M f v).2 = M.2 := rfl
theorem WM_w {M : vM} {S : Sx} {f : Nat} {v : Int32} (h : WM M S) (hf : sf f = false) (h53 : f ≠ 53) : WM (mW M f v) S :=
  WM_c h (fun g hg => mW_1 _ _ _ (fun e => by rw [e, hf] at hg; exact absurd hg (by decide))) (mW_1 _ _ _ (Ne.symm h53)) (fun k hk => rfl)
/-! one scalar of a replica -/
theorem WM_r {M : vM} {S : Sx} {r : Nat} {R : Rp} (h : WM M (S.set r R)) (hr : r < 9) : RR S.V S.sta S.lg (vw M r) R := by
  have := h.2.2.2.1 r hr
  rw [set_rp] at this
  exact this
theorem WM_g {M : vM} {S : Sx} {r j : Nat} {R : Rp} (h : WM M (S.set r R)) (hr : r < 9) (hj : sc j = true) : M.2 j r = nI (R.1 j) := by
  have := (WM_r h hr).1 j hj
  rw [vw_1 (sc_1 hj)] at this
  exact this
theorem WM_u {M : vM} {S : Sx} {r j v : Nat} {R : Rp} (h : WM M (S.set r R)) (hr : r < 9) (hj : sc j = true) (h7 : j ≠ 7) (h8 : j ≠ 8) (h9 : j ≠ 9) : WM (uE M j r (nI v)) (S.set r (R.u j v)) := by
  have := WM_set (j := j) (i := 0) (v := nI v) h hr (by rw [sc_1 hj]; exact Nat.zero_lt_one) (RR_sc (WM_r h hr) hj h7 h8 h9)
  rw [sc_1 hj, Nat.one_mul, Nat.add_zero] at this
  exact this
theorem sc_mL {j : Nat} (h : sc j = true) : mL j = 9 := by
  rw [zs_mL j (by rw [sc_1 h]; decide), sc_1 h]
theorem tr_Gr {ρ : Type} {M : vM} {S : Sx} {r j : Nat} {R : Rp} {f : Int32 → Option ρ} {Q : ρ → Prop} (h : WM M (S.set r R)) (hr : r < 9) (hj : sc j = true) (g : tr (f (nI (R.1 j))) Q) : tr ((mG M j (nI r)).bind f) Q :=
  tr_G (by rw [sc_mL hj]; exact hr) (by omega) (by rw [WM_g h hr hj]; exact g)
theorem tr_Sr {ρ : Type} {M : vM} {S : Sx} {r j : Nat} (v : Nat) {R : Rp} {f : vM → Option ρ} {Q : ρ → Prop} (h : WM M (S.set r R)) (hr : r < 9) (hj : sc j = true) (h7 : j ≠ 7) (h8 : j ≠ 8) (h9 : j ≠ 9) (g : ∀ M', WM M' (S.set r (R.u j v)) → tr (f M') Q) : tr ((mS M j (nI r) (nI v)).bind f) Q :=
  tr_S (by rw [sc_mL hj]; exact hr) (by omega) (g _ (WM_u h hr hj h7 h8 h9))
