/-! ===== what comes ===== -/
def Al (K G : Nat) (g : Gh) (S : Sx) (r : Nat) (R : Rp) : Prop := Mid K G g S r R ∧ R.2.2.1.length < 48 ∧ CaI S.N g (pmS (S.set r R)) R ∧ LeI S.N g (pmS (S.set r R)) R ∧ RoI S.N g r R
theorem Al.fin {K G : Nat} {g : Gh} {S : Sx} {r : Nat} {R : Rp} (h : Al K G g S r R) (hG : G ≤ 1 + 4 * K) : Fi K (S.set r R) r := h.1.fin hG h.2.1 h.2.2.1 h.2.2.2.1 h.2.2.2.2
theorem Al.send {K G : Nat} {g : Gh} {S : Sx} {r : Nat} {R : Rp} {m : Mg} (h : Al K G g S r R) (hm : MgI K g (pmS (S.set r R)) S m) : Al K G g (y_send S m) r R := by
  obtain ⟨h1, h2, h3, h4, h5⟩ := h
  have o1 := (send_o S m).1
  refine ⟨h1.send hm, h2, ?_, ?_, ?_⟩
  · rw [pm_r o1, (Gw_send S m).1]; exact h3
  · rw [pm_r o1, (Gw_send S m).1]; exact h4
  · rw [(Gw_send S m).1]; exact h5
theorem Al.soft {K G : Nat} {g : Gh} {S : Sx} {r : Nat} {R R' : Rp} (h : Al K G g S r R) (e : ∀ f, f ≠ 13 → f ≠ 25 → f ≠ 43 → f ≠ 44 → R'.1 f = R.1 f) (e2 : R'.2.2 = R.2.2) (hL : Lo K G S R') : Al K G g S r R' := by
  obtain ⟨h1, h2, h3, h4, h5⟩ := h
  have e7 := e 7 (by decide) (by decide) (by decide) (by decide)
  have e10 := e 10 (by decide) (by decide) (by decide) (by decide)
  have e19 := e 19 (by decide) (by decide) (by decide) (by decide)
  have e20 := e 20 (by decide) (by decide) (by decide) (by decide)
  have e21 := e 21 (by decide) (by decide) (by decide) (by decide)
  have e22 := e 22 (by decide) (by decide) (by decide) (by decide)
  have e23 := e 23 (by decide) (by decide) (by decide) (by decide)
  have e24 := e 24 (by decide) (by decide) (by decide) (by decide)
  refine ⟨h1.c' (fun f a b c d _ => e f a b c d) e2 hL, by rw [e2]; exact h2, ?_, ?_, ?_⟩
  · unfold CaI
    rw [pm_ss e10, e7, e19, e20, e21, e22, e23, e24]; exact h3
  · unfold LeI
    rw [pm_ss e10, e7, e19, e20, e21, e22]; exact h4
  · unfold RoI
    rw [e7, e10, e19, e20]; exact h5
theorem Al.u {K G f v : Nat} {g : Gh} {S : Sx} {r : Nat} {R : Rp} (h : Al K G g S r R) (hf : f = 13 ∨ f = 25 ∨ f = 43 ∨ f = 44) (hv : okK K G S f v) : Al K G g S r (R.u f v) :=
  h.soft (fun x a b c d => u_n _ _ (by omega)) rfl (h.1.2.2.2.1.u (by rcases hf with rfl | rfl | rfl | rfl <;> rfl) hv)
theorem Mid.fol {K G : Nat} {g : Gh} {S : Sx} {r : Nat} {R : Rp} (h : Mid K G g S r R) : Mid K G g S r (y_follow R) := h.c' (fun _ _ _ _ _ b => fol_o b) rfl (h.2.2.2.1.fol h.1.2.2.2.2.1)
theorem Mid.al0 {K G : Nat} {g : Gh} {S : Sx} {r : Nat} {R : Rp} (h : Mid K G g S r R) (hl : R.2.2.1.length < 48) (h0 : R.1 19 = 0) : Al K G g S r R := ⟨h, hl, fun q => by omega, fun q => by omega, fun q => absurd h0 q⟩
theorem Al.fol {K G : Nat} {g : Gh} {S : Sx} {r : Nat} {R : Rp} (h : Al K G g S r R) : Al K G g S r (y_follow R) := h.1.fol.al0 h.2.1 rfl
theorem Al.above {K G b : Nat} {g : Gh} {S : Sx} {r : Nat} {R : Rp} (h : Al K G g S r R) : Al K G g S r (y_above R b) := by
  unfold y_above
  split
  · exact h.fol
  · exact h
theorem sendP_set (r t i k : Nat) (R : Rp) : ∀ (ts : List Nat) (S : Sx), y_sendP r t i ts (S.set k R) = (y_sendP r t i ts S).set k R := by
  intro ts
  induction ts with
  | nil => intro S; rfl
  | cons x ts ih =>
    intro S
    show y_sendP r t i ts (y_send (S.set k R) (y_msg 8 r t 0 i 0 0 x)) = (y_sendP r t i ts (y_send S (y_msg 8 r t 0 i 0 0 x))).set k R
    rw [send_set, ih]
theorem Al.sendP {K G : Nat} {g : Gh} {r t i : Nat} {R : Rp} : ∀ (ts : List Nat) (S : Sx), Al K G g S r R → t < S.N → i ≤ S.ll → (∀ k, k ∈ ts → k < y_many S i) → Al K G g (y_sendP r t i ts S) r R := by
  intro ts
  induction ts with
  | nil => intro S h _ _ _; exact h
  | cons x ts ih =>
    intro S h ht hi hk
    have hv := h.1.okv
    have eW := Gw_send S (y_msg 8 r t 0 i 0 0 x)
    refine ih (y_send S (y_msg 8 r t 0 i 0 0 x)) (h.send ?_) (by rw [eW.1]; exact ht) (Nat.le_trans hi eW.2.2.2.2.1) (fun k hk' => by rw [many_g eW hi]; exact hk k (List.mem_cons_of_mem _ hk'))
    refine ⟨⟨show 1 ≤ 8 by decide, show 8 ≤ 10 by decide, h.1.2.1, ht, Nat.zero_le (9 * K), show i ≤ S.ll + 1 by omega, hv.2.2.1, Nat.zero_le (9 * K), SpM0 rfl, fun z => ?_, fun z => ?_, fun _ => ⟨hi, hk x List.mem_cons_self⟩⟩, fun z => ?_, fun z => ?_, fun z => ?_, fun z => ?_⟩
    · exact absurd (show (8 : Nat) = 3 ∨ (8 : Nat) = 5 ∨ (8 : Nat) = 9 from z) (by decide)
    · exact absurd (show (8 : Nat) = 2 from z) (by decide)
    · exact absurd (show (8 : Nat) = 2 from z) (by decide)
    · exact absurd (show (8 : Nat) = 3 from z) (by decide)
    · exact absurd (show (8 : Nat) = 4 from z) (by decide)
    · exact absurd (show (8 : Nat) = 5 from z) (by decide)
theorem Al.help {K G : Nat} {g : Gh} {S : Sx} {r t s : Nat} {R : Rp} (h : Al K G g S r R) (hG : G ≤ 1 + 4 * K) (ht : t < S.N) : Fi K (y_help (S.set r R) r t s) r := by
  have hv := h.1.okv
  unfold y_help
  rw [set_rp]
  by_cases c : R.1 9 < s ∧ s ≤ R.1 7
  · rw [if_pos c, send_set]
    have hc := h.1.1.2.2.2.2.2.2.2.2.2.1 s (by omega) (show s ≤ S.ll by omega)
    have hq := h.1.1.2.2.2.2.2.1.2.2.2.2 s (by omega) (show s ≤ S.ll by omega)
    refine (h.send (m := y_msg 5 r t 0 s (S.lg s) 0 0) ?_).fin hG
    refine ⟨⟨show 1 ≤ 5 by decide, show 5 ≤ 10 by decide, h.1.2.1, ht, Nat.zero_le (9 * K), show s ≤ S.ll + 1 by omega, hq.2, Nat.zero_le (9 * K), SpM0 rfl, fun _ => hq.1, fun z => ?_, fun z => ?_⟩, fun z => ?_, fun z => ?_, fun z => ?_, fun _ => hc⟩
    · exact absurd (show (5 : Nat) = 2 from z) (by decide)
    · exact absurd (show (5 : Nat) = 8 from z) (by decide)
    · exact absurd (show (5 : Nat) = 2 from z) (by decide)
    · exact absurd (show (5 : Nat) = 3 from z) (by decide)
    · exact absurd (show (5 : Nat) = 4 from z) (by decide)
  · rw [if_neg c, many_g (Gw_set S r R) hv.1, sendP_set]
    exact (Al.sendP _ S h ht hv.1 (fun k hk => by have := List.mem_range'_1.mp hk; omega)).fin hG
theorem Al.say {K G : Nat} {g : Gh} {S : Sx} {kd r t b s q : Nat} {R : Rp} (h : Al K G g S r R) (hG : G ≤ 1 + 4 * K) (h1 : kd = 1 ∨ kd = 6 ∨ kd = 7 ∨ kd = 9 ∨ kd = 10) (ht : t < S.N) (hb : b ≤ 9 * K) (hs : s ≤ S.ll + 1) (hq : q < S.1 4) (h9 : kd = 9 → 0 < q) : Fi K (y_send (S.set r R) (y_msg kd r t b s q 0 0)) r := by
  rw [send_set]
  exact (h.send (MgI_1 h1 h.1.2.1 ht hb hs hq h9)).fin hG
theorem Al.sayAll {K G : Nat} {g : Gh} {S : Sx} {kd r b s q : Nat} {R : Rp} (h : Al K G g S r R) (hG : G ≤ 1 + 4 * K) (hm : ∀ t, t < S.N → t ≠ r → MgI K g (pmS (S.set r R)) S (y_msg kd r t b s q 0 0)) : Fi K (y_sendAll (S.set r R) kd r b s q) r := by
  obtain ⟨S', x1, x2, x3, x4⟩ := h.1.all hm
  rw [x1]
  refine x2.fin hG h.2.1 ?_ ?_ ?_
  · rw [pm_r x4, x3.1]; exact h.2.2.1
  · rw [pm_r x4, x3.1]; exact h.2.2.2.1
  · rw [x3.1]; exact h.2.2.2.2
/-- a promise -/
theorem Mid.prm {K G : Nat} {g : Gh} {S : Sx} {r t b s : Nat} {R : Rp} (h : Mid K G g S r R) (h0 : R.1 19 = 0) (hG : G ≤ 1 + 4 * K) (hl : R.2.2.1.length < 48) (ht : t < S.N) (e10 : R.1 10 = b) (hs : R.1 7 < s) (hsl : s ≤ S.ll + 1) : Fi K (y_send (S.set r R) (y_pr2 r t b s R)) r := by
  have hv := h.okv
  rw [send_set]
  refine ((h.al0 hl h0).send ?_).fin hG
  have hP := h.1.2.2.2.2.2.2.2.1
  have hpm : pmS (S.set r R) r = b := by rw [pm_set, va_up_self]; exact e10
  have hno : ∀ s' b', R.1 7 + 1 < s' → ¬ g.2 s' b' r := fun s' b' hs' w => by
    have := (hP.1 s' b' r h.2.1 w).2.2
    rw [ix_set, va_up_self] at this
    omega
  unfold y_pr2
  by_cases c : s = R.1 7 + 1 ∧ 0 < R.1 12
  · rw [if_pos c]
    obtain ⟨a1, a2, a3⟩ := h.2.2.1.1 c.2
    refine ⟨⟨show 1 ≤ 2 by decide, show 2 ≤ 10 by decide, h.2.1, ht, show b ≤ 9 * K by omega, hsl, hv.2.2.2.2.2.1, hv.2.2.2.2.1, SpM0 rfl, fun z => ?_, fun _ _ => h.2.2.2.1.2.2.2.2.1.2 c.2, fun z => ?_⟩, fun _ => ⟨⟨?_, fun b' hb' => ⟨fun s' hs' => ?_, fun z => ?_⟩⟩, fun _ => ?_⟩, fun z => ?_, fun z => ?_, fun z => ?_⟩
    · exact absurd (show (2 : Nat) = 3 ∨ (2 : Nat) = 5 ∨ (2 : Nat) = 9 from z) (by decide)
    · exact absurd (show (2 : Nat) = 8 from z) (by decide)
    · show b ≤ pmS (S.set r R) r
      rw [hpm]; exact Nat.le_refl _
    · have hs2 : s < s' := hs'
      exact hno s' b' (by omega)
    · have z' : R.1 12 = 0 ∨ R.1 11 < b' := z
      show ¬ g.2 s b' r
      rw [c.1]
      intro w
      have := a3 b' w
      omega
    · show g.1 s (R.1 11) = R.1 12
      rw [c.1]; exact a2
    · exact absurd (show (2 : Nat) = 3 from z) (by decide)
    · exact absurd (show (2 : Nat) = 4 from z) (by decide)
    · exact absurd (show (2 : Nat) = 5 from z) (by decide)
  · rw [if_neg c]
    refine ⟨⟨show 1 ≤ 2 by decide, show 2 ≤ 10 by decide, h.2.1, ht, show b ≤ 9 * K by omega, hsl, hv.2.2.1, Nat.zero_le (9 * K), SpM0 rfl, fun z => ?_, fun _ z => ?_, fun z => ?_⟩, fun _ => ⟨⟨?_, fun b' hb' => ⟨fun s' hs' => ?_, fun z => ?_⟩⟩, fun z => ?_⟩, fun z => ?_, fun z => ?_, fun z => ?_⟩
    · exact absurd (show (2 : Nat) = 3 ∨ (2 : Nat) = 5 ∨ (2 : Nat) = 9 from z) (by decide)
    · exact absurd (show (0 : Nat) < 0 from z) (by decide)
    · exact absurd (show (2 : Nat) = 8 from z) (by decide)
    · show b ≤ pmS (S.set r R) r
      rw [hpm]; exact Nat.le_refl _
    · have hs2 : s < s' := hs'
      exact hno s' b' (by omega)
    · show ¬ g.2 s b' r
      by_cases cs : s = R.1 7 + 1
      · rw [cs]
        exact h.2.2.1.2 (by omega) b'
      · exact hno s b' (by omega)
    · exact absurd (show (0 : Nat) < 0 from z) (by decide)
    · exact absurd (show (2 : Nat) = 3 from z) (by decide)
    · exact absurd (show (2 : Nat) = 4 from z) (by decide)
    · exact absurd (show (2 : Nat) = 5 from z) (by decide)
theorem Al.prepared {K G : Nat} {g : Gh} {S : Sx} {r t b s : Nat} {R : Rp} (h : Al K G g S r R) (hK : K ≤ 600) (hG : G + 1 ≤ 1 + 4 * K) (ht : t < S.N) (hb : b ≤ 9 * K) (hsl : s ≤ S.ll + 1) : Fi K (y_prepared (S.set r R) r t b s) r := by
  have hv := h.1.okv
  by_cases c : s ≤ R.1 7
  · rw [prep_0 c]; exact h.help (by omega) ht
  by_cases c2 : b < R.1 10
  · rw [prep_1 c c2]
    exact h.say (by omega) (by decide) ht (by omega) (by omega) hv.2.2.1 (fun z => by cases z)
  rw [prep_2 c c2]
  by_cases c3 : R.1 10 < b
  · have e : y_pr1 (S.set r R) r b = y_notePr (S.set r R) r b := by unfold y_pr1; rw [set_rp, if_pos c3]
    rw [e]
    obtain ⟨p1, p2⟩ := h.1.promise (b := b) hK (by omega) h.2.1 (by omega) hb
    by_cases cc : (y_notePr (S.set r R) r b).2 = true
    · obtain ⟨R', e1, e2, e3, e4, e5, hM⟩ := p1 cc
      rw [if_pos cc, e1, set_set, set_rp]
      exact hM.fol.prm rfl hG e5 ht e3 (by have := e2 7 (by decide) (by decide) (by decide) (by decide) (by decide) (by decide); show R'.1 7 < s; omega) hsl
    · rw [if_neg cc]
      exact p2 (Bool.eq_false_iff.mpr cc)
  · have e : y_pr1 (S.set r R) r b = (S.set r R, true) := by unfold y_pr1; rw [set_rp, if_neg c3]
    rw [e]
    show Fi K (if true = true then _ else _) r
    rw [if_pos rfl, set_set, set_rp]
    exact h.1.fol.prm rfl (by omega) h.2.1 ht (show R.1 10 = b by omega) (show R.1 7 < s by omega) hsl
