/-! ===== what a replica keeps to while it works; the reference's handlers ===== -/
/-- bounds of a replica's numbers -/
def okw (S : Sx) (f v : Nat) : Prop := match f with
  | 10 => v < 65536
  | 11 => v < 65536
  | 12 => v < S.1 4
  | 13 => v < 65536
  | 19 => v ≤ 2
  | 20 => v < 65536
  | 21 => v < 512
  | 22 => v < S.1 4
  | 23 => v < S.1 4
  | 24 => v < 65536
  | 25 => v < 65536
  | 32 => v < 65536
  | 43 => v < 65536
  | 44 => v < 16
  | _ => True
def hrd (f : Nat) : Bool := match f with
  | 7 => true
  | 8 => true
  | 9 => true
  | 31 => true
  | 33 => true
  | 35 => true
  | _ => false
def OkR (S : Sx) (R : Rp) : Prop := (∀ f, okw S f (R.1 f)) ∧ JR R ∧ R.2.2.1.length < 48 ∧ QOk S R ∧ R.1 7 < 29990 ∧ R.1 8 ≤ R.1 7 ∧ R.1 7 ≤ R.1 8 + S.V ∧ R.1 9 ≤ R.1 7 ∧ R.1 7 ≤ R.1 9 + S.L
theorem OkR.b {S : Sx} {R : Rp} (h : OkR S R) : BR S R := ⟨by have := h.2.2.2.2.1; omega, h.2.2.2.2.2.1, h.2.2.2.2.2.2.1, by have : R.1 10 < 65536 := h.1 10; omega, by have : R.1 11 < 65536 := h.1 11; omega, h.1 12⟩
theorem OkR.x {S : Sx} {R : Rp} (h : OkR S R) : BX S R := ⟨h.2.2.2.2.2.2.2.1, h.2.2.2.2.2.2.2.2, h.2.2.2.2.1, by have : R.1 43 < 65536 := h.1 43; omega⟩
theorem OkR.g {S : Sx} {R : Rp} (h : OkR S R) : R.1 32 < 2 ^ 30 := by have : R.1 32 < 65536 := h.1 32; omega
theorem OkR.u {S : Sx} {R : Rp} (h : OkR S R) {f v : Nat} (hf : hrd f = false) (hv : okw S f v) : OkR S (R.u f v) := by
  have hn : ∀ g, hrd g = true → (R.u f v).1 g = R.1 g := fun g hg => u_n _ _ (fun e => by rw [e, hf] at hg; exact absurd hg (by decide))
  obtain ⟨h1, ⟨j1, j2, j3, j4⟩, h3, h4, h5, h6, h7, h8, h9⟩ := h
  refine ⟨fun g => ?_, ⟨by rw [hn 33 rfl]; exact j1, by rw [hn 31 rfl]; exact j2, j3, by unfold DuOk; rw [hn 35 rfl]; exact j4⟩, h3, h4, by rw [hn 7 rfl]; exact h5, by rw [hn 7 rfl, hn 8 rfl]; exact h6, by rw [hn 7 rfl, hn 8 rfl]; exact h7, by rw [hn 7 rfl, hn 9 rfl]; exact h8, by rw [hn 7 rfl, hn 9 rfl]; exact h9⟩
  by_cases e : g = f
  · subst e; rw [u_s]; exact hv
  · rw [u_n _ _ e]; exact h1 g
theorem OkR.z {S : Sx} {R : Rp} (h : OkR S R) : 0 < S.1 4 := by have : R.1 12 < S.1 4 := h.1 12; omega
theorem OkR.f {S : Sx} {R : Rp} (h : OkR S R) : OkR S (y_follow R) := by
  have z := h.z
  exact (((((h.u (f := 19) rfl (Nat.zero_le 2)).u (f := 20) rfl (show 0 < 65536 by decide)).u (f := 21) rfl (show 0 < 512 by decide)).u (f := 22) rfl z).u (f := 23) rfl z).u (f := 24) rfl (show 0 < 65536 by decide)
theorem OkR.q {S : Sx} {R : Rp} (h : OkR S R) {l : List Nat} (hl : QOk S (R.q l)) : OkR S (R.q l) := by
  obtain ⟨h1, h2, h3, h4, h5⟩ := h
  exact ⟨h1, h2, h3, hl, h5⟩
theorem OkR.c {S S' : Sx} {R : Rp} (h : OkR S R) (e : ∀ f, f < 12 → S'.1 f = S.1 f) : OkR S' R := by
  have e4 := e 4 (by decide)
  have e2 : S'.V = S.V := e 2 (by decide)
  have e3 : S'.L = S.L := e 3 (by decide)
  have ek : ∀ f v, okw S f v → okw S' f v := by
    intro f v hv
    unfold okw at hv ⊢
    rw [e4]; exact hv
  obtain ⟨h1, h2, h3, ⟨q1, q2⟩, h5, h6, h7, h8, h9⟩ := h
  exact ⟨fun f => ek f _ (h1 f), h2, h3, ⟨q1, fun q hq => by rw [e4]; exact q2 q hq⟩, h5, h6, by rw [e2]; exact h7, h8, by rw [e3]; exact h9⟩
/-! a promise is noted -/
theorem notePr_eq0 {S : Sx} {r b : Nat} {R : Rp} (c : (y_note (S.set r R) r (1, b, 0, 0, 0)).2 = false) : y_notePr (S.set r R) r b = ((y_note (S.set r R) r (1, b, 0, 0, 0)).1, false) := by
  unfold y_notePr
  dsimp only
  rw [if_neg (by rw [c]; decide)]
theorem notePr_eq1 {S : Sx} {r b : Nat} {R R' : Rp} (c : (y_note (S.set r R) r (1, b, 0, 0, 0)).2 = true) (e : (y_note (S.set r R) r (1, b, 0, 0, 0)).1 = S.set r R') : y_notePr (S.set r R) r b = y_ckp (S.set r (R'.u 10 b)) r := by
  unfold y_notePr
  dsimp only
  rw [if_pos c, e, set_rp, set_set]
theorem nbP {b : Nat} (hb : b < 2 ^ 31) : NbOk (1, b, 0, 0, 0) := ⟨(by decide : 1 ≤ 1), (by decide : 1 ≤ 5), hb, (by decide : 0 < 2 ^ 31), (by decide : 0 < 2 ^ 31)⟩
/-- the same numbers but those of the journal -/
theorem OkR_j {S : Sx} {R R' : Rp} (e1 : ∀ f, f ≠ 31 → f ≠ 32 → f ≠ 33 → f ≠ 34 → f ≠ 35 → R'.1 f = R.1 f) (e2 : R'.2.1 = R.2.1) (h1 : ∀ f, okw S f (R.1 f)) (h32 : R'.1 32 < 65536) (hJ : JR R') (hl : R'.2.2.1.length < 48) (h4 : QOk S R) (h5 : R.1 7 < 29990) (h6 : R.1 8 ≤ R.1 7) (h7 : R.1 7 ≤ R.1 8 + S.V) (h8 : R.1 9 ≤ R.1 7) (h9 : R.1 7 ≤ R.1 9 + S.L) : OkR S R' := by
  have f7 := e1 7 (by decide) (by decide) (by decide) (by decide) (by decide)
  have f8 := e1 8 (by decide) (by decide) (by decide) (by decide) (by decide)
  have f9 := e1 9 (by decide) (by decide) (by decide) (by decide) (by decide)
  refine ⟨fun f => ?_, hJ, hl, ⟨by rw [e2]; exact h4.1, fun q hq => h4.2 q (by rw [← e2]; exact hq)⟩, by rw [f7]; exact h5, by rw [f7, f8]; exact h6, by rw [f7, f8]; exact h7, by rw [f7, f9]; exact h8, by rw [f7, f9]; exact h9⟩
  by_cases c1 : f = 31
  · subst c1; trivial
  · by_cases c2 : f = 32
    · subst c2; exact h32
    · by_cases c3 : f = 33
      · subst c3; trivial
      · by_cases c4 : f = 34
        · subst c4; trivial
        · by_cases c5 : f = 35
          · subst c5; trivial
          · rw [e1 f c1 c2 c3 c4 c5]; exact h1 f
theorem notePr_t {S : Sx} {r b : Nat} {R : Rp} (h : (y_notePr (S.set r R) r b).2 = true) : ∃ R', (y_notePr (S.set r R) r b).1 = S.set r R' ∧ (∀ f, f ≠ 10 → f ≠ 31 → f ≠ 32 → f ≠ 33 → f ≠ 34 → f ≠ 35 → R'.1 f = R.1 f) ∧ R'.1 10 = b ∧ R'.2.1 = R.2.1 ∧ (Cx S → OkR S R → b < 65536 → R.1 32 + 1 < 65536 → OkR S R' ∧ R'.1 32 ≤ R.1 32 + 1) := by
  cases c : (y_note (S.set r R) r (1, b, 0, 0, 0)).2
  · rw [notePr_eq0 c] at h
    exact absurd (show false = true from h) (by decide)
  · obtain ⟨R', eR, f1, f2, f3, f4, f5⟩ := note_t c
    rw [notePr_eq1 c eR] at h ⊢
    obtain ⟨R2, e2, g1, g2, g3, g4⟩ := ckp_t h
    have f32 : R'.1 32 = R.1 32 := f1 32 (by decide) (by decide) (by decide)
    have k32 : R2.1 32 ≤ R'.1 32 + 1 := g3
    refine ⟨R2, e2, fun f a1 a2 a3 a4 a5 a6 => (g1 f a2 a3 a4 a5 a6).trans ((u_n _ _ a1).trans (f1 f a2 a5 a6)), (g1 10 (by decide) (by decide) (by decide) (by decide) (by decide)).trans rfl, g2.trans f3, fun hC hO hb h32 => ⟨?_, by omega⟩⟩
    obtain ⟨o1, o2, o3, o4, o5, o6, o7, o8, o9⟩ := hO
    have hJ' : JR R' := note_J o2 o3 (rec_len hC (nbP (by omega))) f1 f2 f4 f5
    have f7 : R'.1 7 = R.1 7 := f1 7 (by decide) (by decide) (by decide)
    have f8 : R'.1 8 = R.1 8 := f1 8 (by decide) (by decide) (by decide)
    have f9 : R'.1 9 = R.1 9 := f1 9 (by decide) (by decide) (by decide)
    have o1' : ∀ f, okw S f ((R'.u 10 b).1 f) := by
      intro f
      by_cases c0 : f = 10
      · subst c0; rw [u_s]; exact hb
      · rw [u_n _ _ c0]
        by_cases c1 : f = 31
        · subst c1; trivial
        · by_cases c4 : f = 34
          · subst c4; trivial
          · by_cases c5 : f = 35
            · subst c5; trivial
            · rw [f1 f c1 c4 c5]; exact o1 f
    have h10 : (R'.u 10 b).1 10 < 65536 := o1' 10
    have h11 : (R'.u 10 b).1 11 < 65536 := o1' 11
    have hB : BR S (R'.u 10 b) := ⟨by show R'.1 7 < _; omega, by show R'.1 8 ≤ R'.1 7; omega, by show R'.1 7 ≤ R'.1 8 + S.V; omega, by omega, by omega, o1' 12⟩
    obtain ⟨j1, j2⟩ := g4 hC (show JR (R'.u 10 b) from hJ') hB
    exact OkR_j g1 g2 o1' (by omega) j1 j2 ⟨by show R'.2.1.length ≤ 8; rw [f3]; exact o4.1, fun q hq => o4.2 q (by rw [← f3]; exact hq)⟩ (by show R'.1 7 < _; omega) (by show R'.1 8 ≤ R'.1 7; omega) (by show R'.1 7 ≤ R'.1 8 + S.V; omega) (by show R'.1 9 ≤ R'.1 7; omega) (by show R'.1 7 ≤ R'.1 9 + S.L; omega)
theorem q_notePr {ρ : Type} {M : vM} {S : Sx} {r b : Nat} {R : Rp} {K : vM → Option ρ} {K0 : vM → Option ρ} {Q : ρ → Prop} (hC : Cx S) (h : WM M (S.set r R)) (hr : r < 9) (hO : OkR S R) (hb : b < 65536) (g0 : (y_notePr (S.set r R) r b).2 = false → ∀ M', WM M' (y_notePr (S.set r R) r b).1 → tr (K0 M') Q) (g1 : (y_notePr (S.set r R) r b).2 = true → ∀ M', WM M' (y_notePr (S.set r R) r b).1 → tr (K M') Q) : tr (b2 (F_X12_notePromise M (nI r) (nI b)) fun M12 v13 => if v13 = 0 then (K0 M12) else ((mS M12 10 (nI r) (nI b)).bind fun M14 => b2 (F_X12_checkpoint M14 (nI r)) fun M15 v16 => if v16 = 0 then (K0 M15) else (K M15))) Q := by
  refine tr_b2 (r_notePromise hC h hr hO.2.1 hO.2.2.1 (by omega)) fun M1 v hv => ?_
  obtain ⟨e1, w1⟩ := hv
  dsimp only at e1 w1
  rw [e1]
  refine tr_if (fun c => ?_) (fun c => ?_)
  · rw [notePr_eq0 c] at g0
    exact g0 rfl M1 w1
  · obtain ⟨R', eR, f1, f2, f3, f4, f5⟩ := note_t c
    rw [notePr_eq1 c eR] at g0 g1
    rw [eR] at w1
    have f7 : R'.1 7 = R.1 7 := f1 7 (by decide) (by decide) (by decide)
    have f8 : R'.1 8 = R.1 8 := f1 8 (by decide) (by decide) (by decide)
    have f11 : R'.1 11 = R.1 11 := f1 11 (by decide) (by decide) (by decide)
    have f12 : R'.1 12 = R.1 12 := f1 12 (by decide) (by decide) (by decide)
    have f32 : R'.1 32 = R.1 32 := f1 32 (by decide) (by decide) (by decide)
    obtain ⟨b1, b2, b3, b4, b5, b6⟩ := hO.b
    have hg := hO.g
    refine tr_Sr b w1 hr rfl (by decide) (by decide) (by decide) fun M2 w2 => ?_
    have hJ' : JR R' := note_J hO.2.1 hO.2.2.1 (rec_len hC (nbP (by omega))) f1 f2 f4 f5
    refine tr_b2 (r_ckp (R := R'.u 10 b) hC w2 hr hJ' ⟨?_, ?_, ?_, ?_, ?_, ?_⟩ ?_) fun M4 v4 h4 => ?_
    · show R'.1 7 < 2 ^ 30; omega
    · show R'.1 8 ≤ R'.1 7; omega
    · show R'.1 7 ≤ R'.1 8 + S.V; omega
    · show b < 2 ^ 30; omega
    · show R'.1 11 < 2 ^ 30; omega
    · show R'.1 12 < S.1 4; omega
    · show R'.1 32 < 2 ^ 30; omega
    · obtain ⟨e4, w4⟩ := h4
      dsimp only at e4 w4
      rw [e4]
      exact tr_if (fun c2 => g0 c2 M4 w4) (fun c2 => g1 c2 M4 w4)
/-! a replica runs for the lead -/
theorem next_gt {N r m : Nat} (hr : r < N) : m < y_next N r m ∧ y_next N r m ≤ m + N ∧ y_next N r m % N = r := by
  have h1 := Nat.mod_lt m (show 0 < N by omega)
  have h2 := Nat.mod_le m N
  have hd : m - m % N = N * (m / N) := by have := Nat.div_add_mod m N; omega
  unfold y_next
  rw [hd]
  have hd2 := Nat.div_add_mod m N
  split
  · refine ⟨by omega, by omega, ?_⟩
    rw [Nat.add_mod_right, Nat.mul_add_mod, Nat.mod_eq_of_lt hr]
  · refine ⟨by omega, by omega, ?_⟩
    rw [Nat.mul_add_mod, Nat.mod_eq_of_lt hr]
theorem q_c44 {ρ : Type} {r m N : Nat} {kx : vM → Int32 → Option ρ} {Q : ρ → Prop} {M : vM} (hr : r < N) (hm : m < 65536) (hN : N ≤ 9) (e1 : M.1 1 = nI N) (g : tr (kx M (nI (y_next N r m))) Q) : ∀ (d l fl : Nat), l + d * N = y_next N r m → d < fl → tr (L_X12_campaign_44 (nI r) (nI m) kx fl M (nI l)) Q := by
  obtain ⟨n1, n2, n3⟩ := next_gt (m := m) hr
  intro d
  induction d with
  | zero =>
    intro l fl h1 h2
    obtain ⟨fl, rfl⟩ : ∃ f', fl = f' + 1 := ⟨fl - 1, by omega⟩
    have : l = y_next N r m := by omega
    subst this
    rw [L_X12_campaign_44]
    exact tr_lt (by omega) (by omega) (fun _ => g) (fun c => by omega)
  | succ d ih =>
    intro l fl h1 h2
    obtain ⟨fl, rfl⟩ : ∃ f', fl = f' + 1 := ⟨fl - 1, by omega⟩
    rw [Nat.succ_mul] at h1
    rw [L_X12_campaign_44]
    refine tr_lt (by omega) (by omega) (fun c => ?_) (fun c => ?_)
    · exfalso; omega
    · rw [e1, nI_add]
      exact ih (l + N) fl (by omega) (by omega)
theorem camp_eq0 {S : Sx} {r : Nat} {R : Rp} (c : (y_notePr (S.set r R) r (y_next S.N r (max (R.1 10) (R.1 25)))).2 = false) : y_campaign (S.set r R) r = (y_notePr (S.set r R) r (y_next S.N r (max (R.1 10) (R.1 25)))).1 := by
  unfold y_campaign
  rw [set_rp]
  dsimp only
  exact if_neg (fun e => by
    have e' : (y_notePr (S.set r R) r (y_next S.N r (max (R.1 10) (R.1 25)))).2 = true := e
    rw [c] at e'; exact absurd e' (by decide))
theorem camp_eq1 {S : Sx} {r : Nat} {R R' : Rp} (c : (y_notePr (S.set r R) r (y_next S.N r (max (R.1 10) (R.1 25)))).2 = true) (e : (y_notePr (S.set r R) r (y_next S.N r (max (R.1 10) (R.1 25)))).1 = S.set r R') : y_campaign (S.set r R) r = y_sendAll (S.set r (((((((y_follow R').u 19 1).u 20 (y_next S.N r (max (R.1 10) (R.1 25)))).u 21 (2 ^ r)).u 23 (R'.1 12)).u 24 (R'.1 11)).u 13 0)) 1 r (y_next S.N r (max (R.1 10) (R.1 25))) (R'.1 7 + 1) 0 := by
  unfold y_campaign
  rw [set_rp]
  dsimp only
  show (if (y_notePr (S.set r R) r (y_next S.N r (max (R.1 10) (R.1 25)))).2 = true then _ else _) = _
  rw [if_pos c]
  have e' : (y_notePr (S.set r R) r (y_next (S.set r R).N r (max (R.1 10) (R.1 25)))).1 = S.set r R' := e
  rw [e', set_rp, set_set]; rfl
theorem r_campaign {M : vM} {S : Sx} {r : Nat} {R : Rp} (hC : Cx S) (h : WM M (S.set r R)) (hrN : r < S.N) (hfl : S.fl.length ≤ 200) (hO : OkR S R) (hbd : max (R.1 10) (R.1 25) + 9 < 65536) : tr (F_X12_campaign M (nI r)) (fun M' => WM M' (y_campaign (S.set r R) r)) := by
  have hN := hC.N
  have hr : r < 9 := by omega
  have b10 : R.1 10 < 65536 := hO.1 10
  have b25 : R.1 25 < 65536 := hO.1 25
  have hN3 : 3 ≤ S.N := hC.1
  obtain ⟨n1, n2, n3⟩ := next_gt (m := max (R.1 10) (R.1 25)) hrN
  have e1 : M.1 1 = nI S.N := h.1 1 rfl
  unfold F_X12_campaign
  refine tr_Gr h hr rfl ?_
  refine tr_Gr h hr rfl ?_
  refine tr_jnK (fun v => v = nI (max (R.1 10) (R.1 25))) (fun v hv => ?_) (fun k hk => ?_)
  · subst hv
    refine tr_jnK (fun v => v = nI (if r = 0 then S.N else r)) (fun v hv => ?_) (fun k hk => ?_)
    · subst hv
      have hd := Nat.div_add_mod (y_next S.N r (max (R.1 10) (R.1 25))) S.N
      rw [n3] at hd
      refine q_c44 (r := r) (N := S.N) hrN (by omega) hN e1 ?_ (if r = 0 then y_next S.N r (max (R.1 10) (R.1 25)) / S.N - 1 else y_next S.N r (max (R.1 10) (R.1 25)) / S.N) _ fu ?_ ?_
      · refine q_notePr hC h hr hO (by omega) (fun c M' w => ?_) (fun c M' w => ?_)
        · rw [camp_eq0 c]
          exact tr_some w
        · obtain ⟨R', eR, f1, f2, f3, f4⟩ := notePr_t c
          rw [camp_eq1 c eR]
          rw [eR] at w
          rw [shl1 hr]
          refine tr_bind (r_follow w hr) fun M1 w1 => ?_
          refine tr_Sr 1 w1 hr rfl (by decide) (by decide) (by decide) fun M2 w2 => ?_
          refine tr_Sr _ w2 hr rfl (by decide) (by decide) (by decide) fun M3 w3 => ?_
          refine tr_Sr (2 ^ r) w3 hr rfl (by decide) (by decide) (by decide) fun M4 w4 => ?_
          refine tr_Gr w4 hr rfl ?_
          refine tr_Sr (R'.1 12) w4 hr rfl (by decide) (by decide) (by decide) fun M5 w5 => ?_
          refine tr_Gr w5 hr rfl ?_
          refine tr_Sr (R'.1 11) w5 hr rfl (by decide) (by decide) (by decide) fun M6 w6 => ?_
          refine tr_Sr 0 w6 hr rfl (by decide) (by decide) (by decide) fun M7 w7 => ?_
          refine tr_Gr w7 hr rfl ?_
          refine tr_bind (r_sendAll (kd := 1) (s := R'.1 7 + 1) (q := 0) (hC.set r _) w7 hfl hr (by omega) rfl rfl (nI_add1 _) rfl) fun M8 w8 => ?_
          exact tr_some w8
      · have hq : 0 < r ∨ 1 ≤ y_next S.N r (max (R.1 10) (R.1 25)) / S.N := by
          by_cases c : 0 < r
          · exact Or.inl c
          · refine Or.inr (Nat.pos_of_ne_zero fun c2 => ?_)
            rw [c2, Nat.mul_zero] at hd; omega
        generalize y_next S.N r (max (R.1 10) (R.1 25)) / S.N = d at hd hq ⊢
        rw [Nat.mul_comm] at hd
        split
        · rename_i c
          obtain ⟨d, rfl⟩ : ∃ d', d = d' + 1 := ⟨d - 1, by omega⟩
          rw [Nat.succ_mul] at hd
          show S.N + d * S.N = _
          omega
        · omega
      · have : y_next S.N r (max (R.1 10) (R.1 25)) / S.N ≤ y_next S.N r (max (R.1 10) (R.1 25)) / 3 := Nat.div_le_div_left hN3 (by decide)
        show _ < 32768
        split <;> omega
    · refine tr_eq (b := 0) (by omega) (by decide) (fun c => ?_) (fun c => ?_)
      · exact hk _ (by rw [if_pos c]; exact e1)
      · exact hk _ (by rw [if_neg c])
  · refine tr_le (by omega) (by omega) (fun c => ?_) (fun c => ?_)
    · exact tr_Gr h hr rfl (hk _ (by rw [Nat.max_eq_right c]))
    · exact tr_Gr h hr rfl (hk _ (by rw [Nat.max_eq_left (by omega)]))
