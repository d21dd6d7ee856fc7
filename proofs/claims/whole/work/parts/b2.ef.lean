/-! promise, vote -/
theorem Mid.promise {K G b : Nat} {g : Gh} {S : Sx} {r : Nat} {R : Rp} (h : Mid K G g S r R) (hK : K ≤ 600) (hG : G ≤ 1 + 4 * K) (hl : R.2.2.1.length < 48) (hb : R.1 10 ≤ b) (hb9 : b ≤ 9 * K) :
    ((y_notePr (S.set r R) r b).2 = true → ∃ R', (y_notePr (S.set r R) r b).1 = S.set r R' ∧ (∀ f, f ≠ 10 → f ≠ 31 → f ≠ 32 → f ≠ 33 → f ≠ 34 → f ≠ 35 → R'.1 f = R.1 f) ∧ R'.1 10 = b ∧ R'.2.1 = R.2.1 ∧ R'.2.2.1.length < 48 ∧ Mid K (G + 1) g S r R') ∧
    ((y_notePr (S.set r R) r b).2 = false → Fi K (y_notePr (S.set r R) r b).1 r) := by
  have hn : NbOk (1, b, 0, 0, 0) := ⟨show 1 ≤ 1 by decide, show 1 ≤ 5 by decide, show b < 2 ^ 31 by omega, show 0 < 2 ^ 31 by decide, show 0 < 2 ^ 31 by decide⟩
  have hw : NtW S (1, b, 0, 0, 0) := ⟨hn, ⟨show b < 2 ^ 31 by omega, fun q => (by cases q)⟩, fun q => (by rcases q with q | q <;> cases q), fun q => (by rcases q with q | q <;> cases q)⟩
  have hm : rpM S R (1, b, 0, 0, 0) := ⟨⟨show 1 ≤ 1 by decide, show 1 ≤ 5 by decide, show 0 < 2 ^ 31 by decide, fun q => (by cases q), fun q => (by cases q), fun q => (by cases q)⟩, fun q => (by cases q)⟩
  by_cases c : (y_note (S.set r R) r (1, b, 0, 0, 0)).2 = true
  · obtain ⟨R1, e1, e2, e3, e4, e5, e6⟩ := (note_D (r := r) (show Cx S from h.1.1) h.2.2.2.2.1 hl hn).1 c
    rw [notePr_eq1 c e1]
    have hLo : Lo K G S (R1.u 10 b) := by
      have l1 : Lo K G S R1 := h.2.2.2.1.d (fun f a1 _ _ a4 a5 => e2 f a1 a4 a5) e3 (by rw [e2 32 (by decide) (by decide) (by decide)]; exact h.2.2.2.1.1 32)
      exact l1.u rfl (show b ≤ 9 * K from hb9)
    have f6 : (R1.u 10 b).1 6 = R.1 6 := (u_n _ _ (by decide)).trans (e2 6 (by decide) (by decide) (by decide))
    have f7 : (R1.u 10 b).1 7 = R.1 7 := (u_n _ _ (by decide)).trans (e2 7 (by decide) (by decide) (by decide))
    have f11 : (R1.u 10 b).1 11 = R.1 11 := (u_n _ _ (by decide)).trans (e2 11 (by decide) (by decide) (by decide))
    have f12 : (R1.u 10 b).1 12 = R.1 12 := (u_n _ _ (by decide)).trans (e2 12 (by decide) (by decide) (by decide))
    have hDD : DD S (R1.u 10 b) := note_up h.2.2.2.2.1 hl e5 e4 hw hm rfl (u_n _ _ (by decide)) ((u_n _ _ (by decide)).trans (e2 32 (by decide) (by decide) (by decide))) ((u_n _ _ (by decide)).trans (e2 33 (by decide) (by decide) (by decide))) (e2 32 (by decide) (by decide) (by decide)) (e2 33 (by decide) (by decide) (by decide)) e6 ⟨f7, (u_n _ _ (by decide)).trans (e2 8 (by decide) (by decide) (by decide)), rfl, f11, f12⟩
    have hM : Mid K G g S r (R1.u 10 b) := ⟨h.1.raise h.2.1 f6 (Nat.le_of_eq f7.symm) (by rw [u_s]; exact hb), h.2.1, h.2.2.1.c f7 f11 f12, hLo, hDD, f6.trans h.2.2.2.2.2⟩
    obtain ⟨k1, k2⟩ := hM.ckp hK hG
    refine ⟨fun cc => ?_, k2⟩
    obtain ⟨R', a1, a2, a3, a4, a5⟩ := k1 cc
    refine ⟨R', a1, fun f b1 b2 b3 b4 b5 b6 => ?_, ?_, ?_, a4, a5⟩
    · rw [a2 f b2 b3 b4 b5 b6, u_n _ _ b1]; exact e2 f b2 b5 b6
    · rw [a2 10 (by decide) (by decide) (by decide) (by decide) (by decide), u_s]
    · rw [a3]; exact e3
  · have cf : (y_note (S.set r R) r (1, b, 0, 0, 0)).2 = false := Bool.eq_false_iff.mpr c
    rw [notePr_eq0 cf]
    exact ⟨fun q => (by cases q), fun _ => h.note0 hG hl hn cf⟩
theorem AcI.vote {g : Gh} {N : Nat} {pm ix : Nat → Nat} {r b q : Nat} {R R' : Rp} (hP : PI N g pm ix) (hr : r < N) (hpm : pm r ≤ b) (h7 : R'.1 7 = R.1 7) (h11 : R'.1 11 = b) (h12 : R'.1 12 = q) (hq : 0 < q) (hg : g.1 (R.1 7 + 1) b = q) : AcI (gVote g (R.1 7 + 1) b r) r R' := by
  unfold AcI
  rw [h7, h11, h12]
  refine ⟨fun _ => ⟨Or.inr ⟨rfl, rfl, rfl⟩, hg, fun b' w => ?_⟩, fun e => by omega⟩
  rcases w with w | w
  · have := (hP.1 _ _ r hr w).2.1; omega
  · omega
theorem Mid.accept {K G b q : Nat} {g : Gh} {S : Sx} {r : Nat} {R : Rp} (h : Mid K G g S r R) (hK : K ≤ 600) (hG : G ≤ 1 + 4 * K) (hl : R.2.2.1.length < 48) (hb : R.1 10 ≤ b) (hb9 : b ≤ 9 * K) (hq : 0 < q) (hqn : q < S.1 4) (hg : g.1 (R.1 7 + 1) b = q) :
    ((y_accepts (S.set r R) r b q).2 = true → ∃ R', (y_accepts (S.set r R) r b q).1 = S.set r R' ∧ (∀ f, f ≠ 10 → f ≠ 11 → f ≠ 12 → f ≠ 31 → f ≠ 32 → f ≠ 33 → f ≠ 34 → f ≠ 35 → R'.1 f = R.1 f) ∧ R'.1 10 = b ∧ R'.1 11 = b ∧ R'.1 12 = q ∧ R'.2.1 = R.2.1 ∧ R'.2.2.1.length < 48 ∧ Mid K (G + 1) (gVote g (R.1 7 + 1) b r) S r R') ∧
    ((y_accepts (S.set r R) r b q).2 = false → Fi K (y_accepts (S.set r R) r b q).1 r) := by
  obtain ⟨br1, br2, br3⟩ := h.BR hK
  have hn : NbOk (2, b, R.1 7 + 1, q, 0) := ⟨show 1 ≤ 2 by decide, show 2 ≤ 5 by decide, show b < 2 ^ 31 by omega, show R.1 7 + 1 < 2 ^ 31 by omega, show 0 < 2 ^ 31 by decide⟩
  have hw : NtW S (2, b, R.1 7 + 1, q, 0) := ⟨hn, ⟨show b < 2 ^ 31 by omega, fun _ => hq⟩, fun _ => ⟨hq, hqn⟩, fun q => (by rcases q with q | q <;> cases q)⟩
  have hm : rpM S R (2, b, R.1 7 + 1, q, 0) := ⟨⟨show 1 ≤ 2 by decide, show 2 ≤ 5 by decide, show R.1 7 + 1 < 2 ^ 31 by omega, fun q => (by cases q), fun q => (by cases q), fun q => (by cases q)⟩, fun q => (by cases q)⟩
  have hP := h.1.2.2.2.2.2.2.2.1
  have hb0 : 0 < b := (hP.2.2 (R.1 7 + 1) b (by omega)).1
  by_cases c : (y_note (S.set r R) r (2, b, R.1 7 + 1, q, 0)).2 = true
  · obtain ⟨R1, e1, e2, e3, e4, e5, e6⟩ := (note_D (r := r) (show Cx S from h.1.1) h.2.2.2.2.1 hl hn).1 c
    rw [acc_eq c e1]
    generalize hX : ((R1.u 10 b).u 11 b).u 12 q = X
    have x10 : X.1 10 = b := by rw [← hX]; rfl
    have x11 : X.1 11 = b := by rw [← hX]; rfl
    have x12 : X.1 12 = q := by rw [← hX]; rfl
    have xo : ∀ f, f ≠ 10 → f ≠ 11 → f ≠ 12 → X.1 f = R1.1 f := fun f a1 a2 a3 => by rw [← hX, u_n _ _ a3, u_n _ _ a2, u_n _ _ a1]
    have x2 : X.2 = R1.2 := by rw [← hX]; rfl
    have l1 : Lo K G S R1 := h.2.2.2.1.d (fun f a1 _ _ a4 a5 => e2 f a1 a4 a5) e3 (by rw [e2 32 (by decide) (by decide) (by decide)]; exact h.2.2.2.1.1 32)
    have hLo : Lo K G S X := by
      obtain ⟨l1, l2, l3, l4, l5, l6⟩ := l1
      refine ⟨?_, ?_, ?_, ?_, ?_, ?_⟩
      · rw [← hX]
        exact okK_u (okK_u (okK_u l1 (show b ≤ 9 * K from hb9)) (show b ≤ 9 * K from hb9)) (show q < S.1 4 from hqn)
      · unfold SfK
        rw [xo 7 (by decide) (by decide) (by decide), xo 8 (by decide) (by decide) (by decide), xo 9 (by decide) (by decide) (by decide)]; exact l2
      · unfold QOk
        rw [x2]; exact l3
      · unfold FoOk
        rw [xo 19 (by decide) (by decide) (by decide), xo 20 (by decide) (by decide) (by decide), xo 21 (by decide) (by decide) (by decide), xo 22 (by decide) (by decide) (by decide), xo 23 (by decide) (by decide) (by decide), xo 24 (by decide) (by decide) (by decide)]; exact l4
      · unfold AcOk
        rw [x11, x12]
        exact ⟨fun z => by omega, fun _ => hb0⟩
      · unfold TlOk
        rw [xo 23 (by decide) (by decide) (by decide), xo 24 (by decide) (by decide) (by decide)]; exact l6
    have f6 : X.1 6 = R.1 6 := (xo 6 (by decide) (by decide) (by decide)).trans (e2 6 (by decide) (by decide) (by decide))
    have f7 : X.1 7 = R.1 7 := (xo 7 (by decide) (by decide) (by decide)).trans (e2 7 (by decide) (by decide) (by decide))
    have er : y_rep S R (2, b, R.1 7 + 1, q, 0) = ((R.u 10 b).u 11 b).u 12 q := if_pos rfl
    have hDD : DD S X := by
      refine note_up h.2.2.2.2.1 hl e5 e4 hw hm (by rw [x2]) (xo 31 (by decide) (by decide) (by decide)) ((xo 32 (by decide) (by decide) (by decide)).trans (e2 32 (by decide) (by decide) (by decide))) ((xo 33 (by decide) (by decide) (by decide)).trans (e2 33 (by decide) (by decide) (by decide))) (e2 32 (by decide) (by decide) (by decide)) (e2 33 (by decide) (by decide) (by decide)) ?_ ?_
      · unfold DuOk
        rw [xo 35 (by decide) (by decide) (by decide)]; exact e6
      · rw [er]
        exact ⟨f7, (xo 8 (by decide) (by decide) (by decide)).trans (e2 8 (by decide) (by decide) (by decide)), x10, x11, x12⟩
    clear hX
    have hM : Mid K G (gVote g (R.1 7 + 1) b r) S r X := ⟨h.1.vote h.2.1 f6 f7 x10 hb (by omega), h.2.1, AcI.vote hP h.2.1 (by rw [pm_set, va_up_self]; exact hb) f7 x11 x12 hq hg, hLo, hDD, f6.trans h.2.2.2.2.2⟩
    obtain ⟨k1, k2⟩ := hM.ckp hK hG
    refine ⟨fun cc => ?_, k2⟩
    obtain ⟨R', a1, a2, a3, a4, a5⟩ := k1 cc
    refine ⟨R', a1, fun f b1 b2 b3 b4 b5 b6 b7 b8 => ?_, ?_, ?_, ?_, ?_, a4, a5⟩
    · rw [a2 f b4 b5 b6 b7 b8, xo f b1 b2 b3]; exact e2 f b4 b7 b8
    · rw [a2 10 (by decide) (by decide) (by decide) (by decide) (by decide), x10]
    · rw [a2 11 (by decide) (by decide) (by decide) (by decide) (by decide), x11]
    · rw [a2 12 (by decide) (by decide) (by decide) (by decide) (by decide), x12]
    · rw [a3, x2]; exact e3
  · have cf : (y_note (S.set r R) r (2, b, R.1 7 + 1, q, 0)).2 = false := Bool.eq_false_iff.mpr c
    rw [acc_eq0 cf]
    exact ⟨fun q => (by cases q), fun _ => h.note0 hG hl hn cf⟩
/-! frames -/
theorem send_set (S : Sx) (r : Nat) (R : Rp) (m : Mg) : y_send (S.set r R) m = (y_send S m).set r R := by
  unfold y_send
  show (if S.fl.length = 200 then _ else _) = _
  split <;> rfl
theorem Gw_send (S : Sx) (m : Mg) : Gw S (y_send S m) := Gw_e (fun f hf => (send_o S m).2.2.2.2.1 f (by omega) (by omega)) (send_o S m).2.1 (send_o S m).2.2.1
theorem pm_e {S S' : Sx} (h : S'.rp = S.rp) : pmS S' = pmS S := by unfold pmS; rw [h]
theorem ix_e {S S' : Sx} (h : S'.rp = S.rp) : ixS S' = ixS S := by unfold ixS; rw [h]
theorem pm_r {S S' : Sx} (h : S'.rp = S.rp) (r : Nat) (R : Rp) : pmS (S'.set r R) = pmS (S.set r R) := by rw [pm_set, pm_set, pm_e h]
theorem Mid.send {K G : Nat} {g : Gh} {S : Sx} {r : Nat} {R : Rp} {m : Mg} (h : Mid K G g S r R) (hm : MgI K g (pmS (S.set r R)) S m) : Mid K G g (y_send S m) r R := by
  obtain ⟨q1, q2, q3, q4, q5, q6⟩ := h
  obtain ⟨o1, o2, o3, o4, o5, o6⟩ := send_o S m
  have eW := Gw_send S m
  have eW' : Gw (S.set r R) ((y_send S m).set r R) := ((Gw_set' S r R).tr eW).tr (Gw_set _ _ _)
  have hc := q1
  obtain ⟨p1, p2, p3, p4, p5, p6, p7, p8, p9, p10, p11, p12⟩ := hc
  have hrp : ∀ k, ((y_send S m).set r R).rp k = (S.set r R).rp k := fun k => by
    by_cases e : k = r
    · subst e; rw [set_rp, set_rp]
    · rw [set_ne _ _ e, set_ne _ _ e, o1]
  have hrp' : ((y_send S m).set r R).rp = (S.set r R).rp := funext hrp
  have e4 : ((y_send S m).set r R).1 4 = S.1 4 := o5 4 (by decide) (by decide)
  have e100 : ((y_send S m).set r R).ll = S.ll := o5 100 (by decide) (by decide)
  refine ⟨?_, by rw [eW.1]; exact q2, q3, q4.m (Nat.le_refl _) (Nat.le_refl _) eW, q5.g eW, q6⟩
  refine q1.step (Nat.le_refl _) eW' (Cx.send (S := S) p1 m) (o6 p2) (by rw [e100]; exact p3) (by rw [e4]; exact p4) (TI.m p6 o2 e4 e100 o3 (fun s => by rw [show ((y_send S m).set r R).se = S.se from o4]; rfl)) (fun s hs => ?_) ?_ ?_ (fun k _ => hrp k) (fun _ _ _ _ _ w => w) (fun _ _ _ _ _ _ w => w) (fun x hx => ?_) (fun i i1 i2 => ?_) q2
  · rw [show ((y_send S m).set r R).se = S.se from o4]
    exact SeI.m (S := S.set r R) (p7 s hs) (Nat.le_refl _) eW' (fun k _ => by rw [hrp k]; exact ⟨rfl, Nat.le_refl _⟩)
  · rw [pm_e hrp', ix_e hrp', eW'.1]; exact p8
  · rw [pm_e hrp']; exact Ex.refl (fun _ => Nat.le_refl _)
  · rcases send_fl (S := S) hx with w | w
    · exact Or.inl w
    · subst w
      rw [pm_e hrp']
      exact Or.inr (hm.m (Nat.le_refl _) (eW.tr (Gw_set _ _ _)) (Ex.refl (fun _ => Nat.le_refl _)))
  · rw [e100] at i2
    exact absurd i2 (Nat.not_le_of_lt i1)
theorem sendL_set (kd r b s q k : Nat) (R : Rp) : ∀ (ts : List Nat) (S : Sx), y_sendL kd r b s q ts (S.set k R) = (y_sendL kd r b s q ts S).set k R := by
  intro ts
  induction ts with
  | nil => intro S; rfl
  | cons t ts ih =>
    intro S
    show y_sendL kd r b s q ts (if t = r then S.set k R else y_send (S.set k R) (y_msg kd r t b s q 0 0)) = (y_sendL kd r b s q ts (if t = r then S else y_send S (y_msg kd r t b s q 0 0))).set k R
    by_cases e : t = r
    · rw [if_pos e, if_pos e, ih]
    · rw [if_neg e, if_neg e, send_set, ih]
theorem Mid.sendL {K G : Nat} {g : Gh} {r kd b s q : Nat} {R : Rp} : ∀ (ts : List Nat) (S : Sx), Mid K G g S r R → (∀ t, t ∈ ts → t ≠ r → MgI K g (pmS (S.set r R)) S (y_msg kd r t b s q 0 0)) → Mid K G g (y_sendL kd r b s q ts S) r R ∧ Gw S (y_sendL kd r b s q ts S) ∧ (y_sendL kd r b s q ts S).rp = S.rp := by
  intro ts
  induction ts with
  | nil => intro S h _; exact ⟨h, Gw.refl S, rfl⟩
  | cons t ts ih =>
    intro S h hm
    show Mid K G g (y_sendL kd r b s q ts (if t = r then S else y_send S (y_msg kd r t b s q 0 0))) r R ∧ Gw S (y_sendL kd r b s q ts (if t = r then S else y_send S (y_msg kd r t b s q 0 0))) ∧ (y_sendL kd r b s q ts (if t = r then S else y_send S (y_msg kd r t b s q 0 0))).rp = S.rp
    by_cases e : t = r
    · rw [if_pos e]; exact ih S h (fun x hx => hm x (List.mem_cons_of_mem _ hx))
    · rw [if_neg e]
      have o1 := (send_o S (y_msg kd r t b s q 0 0)).1
      obtain ⟨a1, a2, a3⟩ := ih (y_send S (y_msg kd r t b s q 0 0)) (h.send (hm t List.mem_cons_self e)) (fun x hx hne => by
        rw [pm_r o1]
        exact (hm x (List.mem_cons_of_mem _ hx) hne).m (Nat.le_refl _) (Gw_send _ _) (Ex.refl (fun _ => Nat.le_refl _)))
      exact ⟨a1, (Gw_send _ _).tr a2, a3.trans o1⟩
theorem Mid.all {K G : Nat} {g : Gh} {S : Sx} {r kd b s q : Nat} {R : Rp} (h : Mid K G g S r R) (hm : ∀ t, t < S.N → t ≠ r → MgI K g (pmS (S.set r R)) S (y_msg kd r t b s q 0 0)) : ∃ S', y_sendAll (S.set r R) kd r b s q = S'.set r R ∧ Mid K G g S' r R ∧ Gw S S' ∧ S'.rp = S.rp := by
  obtain ⟨a1, a2, a3⟩ := Mid.sendL (List.range' 0 S.N) S h (fun t ht hne => hm t (by have := List.mem_range'_1.mp ht; omega) hne)
  exact ⟨_, sendL_set kd r b s q r R (List.range' 0 S.N) S, a1, a2, a3⟩
