/-! ===== the class against the middle machine: single places ===== -/
theorem uI_s (c : vC) (f i : Nat) (v : Int32) : cI (uI c f i v) f i = v := vi_u2s _ _ _ _
theorem uI_o (c : vC) {f i g j : Nat} (v : Int32) (h : ¬ (g = f ∧ j = i)) : cI (uI c f i v) g j = cI c g j := vi_u2v _ _ _ _ h
theorem uI_f (c : vC) {f i g : Nat} (j : Nat) (v : Int32) (h : g ≠ f) : cI (uI c f i v) g j = cI c g j := vi_u2v _ _ _ _ (fun q => h q.1)
theorem uP_s (c : vC) (f i : Nat) (v : Option Nat) : cP (uP c f i v) f i = v := vi_u2s _ _ _ _
theorem uP_f (c : vC) {f i g : Nat} (j : Nat) (v : Option Nat) (h : g ≠ f) : cP (uP c f i v) g j = cP c g j := vi_u2v _ _ _ _ (fun q => h q.1)
theorem rpf_8 {f : Nat} (h : rpf f = true) : 200 ≤ f ∧ ¬ (800 ≤ f ∧ f < 900) ∧ f ≠ 805 := by
  unfold rpf at h
  simp only [Bool.or_eq_true, Bool.and_eq_true, decide_eq_true_eq] at h
  omega
theorem zc_I {c : vC} {r f : Nat} {v : Int32} (h : rpf f = true) : zc r (uI c f r v) c := by
  have h8 := rpf_8 h
  exact ⟨ze_s rfl rfl rfl rfl (fun g a b => funext fun j => uI_f _ _ _ (by omega)) rfl, fun g i _ _ n => uI_o _ _ (fun q => n ⟨q.2, by rw [q.1]; exact h⟩), fun _ _ _ _ => rfl, fun _ _ _ _ => rfl, fun _ _ => rfl, fun _ _ _ => rfl⟩
theorem zc_P {c : vC} {r f : Nat} {v : Option Nat} (h : rpf f = true) : zc r (uP c f r v) c := by
  have h8 := rpf_8 h
  exact ⟨ze_s rfl rfl rfl rfl (fun g a b => rfl) (funext fun j => uP_f _ _ _ (by omega)), fun g i _ _ n => rfl, fun g i _ n => vi_u2v _ _ _ _ (fun q => n ⟨q.2, by rw [q.1]; exact h⟩), fun _ _ _ _ => rfl, fun _ _ => rfl, fun _ _ _ => rfl⟩
theorem zc_R {c : vC} {r f j : Nat} {v : Int32} (h : rpf f = true) : zc r (uR c f r j v) c :=
  ⟨ze_s rfl rfl rfl rfl (fun g a b => rfl) rfl, fun g i _ _ n => rfl, fun g i _ n => rfl, fun g i _ n => vi_u2v _ _ _ _ (fun q => n ⟨q.2, by rw [q.1]; exact h⟩), fun _ _ => rfl, fun _ _ _ => rfl⟩
theorem zc_Q {c : vC} {r f j : Nat} {v : Option Nat} (h : rpf f = true) : zc r (uQ c f r j v) c :=
  ⟨ze_s rfl rfl rfl rfl (fun g a b => rfl) rfl, fun g i _ _ n => rfl, fun g i _ n => rfl, fun g i _ n => rfl, fun _ _ => rfl, fun g i n => vi_u2v _ _ _ _ (fun q => n ⟨q.2, by rw [q.1]; exact h⟩)⟩
theorem zc_J {c : vC} {r : Nat} {J : Nat → Int64} : zc r (sJc c r J) c :=
  ⟨ze_s rfl rfl rfl rfl (fun g a b => rfl) rfl, fun g i _ _ n => rfl, fun g i _ n => rfl, fun g i _ n => rfl, fun i hi => sJc_Jo _ _ hi, fun _ _ _ => rfl⟩
theorem zc_B {c : vC} {r i : Nat} {l : List Nat} : zc r (sB c i l) c :=
  ⟨ze_s rfl rfl rfl rfl (fun g a b => funext fun j => sB_I _ _ _ _ (by omega)) rfl, fun g i h _ n => sB_I _ _ _ _ (by omega), fun g i _ n => rfl, fun g i h n => funext fun j => sB_R _ _ _ _ _ h, fun i hi => rfl, fun _ _ _ => rfl⟩
theorem zc_2 {c : vC} {r f i : Nat} {v : Int32} (h : f < 100) : zc r (uI c f i v) c :=
  ⟨ze_s rfl rfl rfl rfl (fun g a b => funext fun j => uI_f _ _ _ (by omega)) rfl, fun g i _ _ n => uI_f _ _ _ (by omega), fun _ _ _ _ => rfl, fun _ _ _ _ => rfl, fun _ _ => rfl, fun _ _ _ => rfl⟩
/-- nothing that counts -/
theorem WC_n {mm : Kp} {c c' : vC} {S : Sx} (h : WC mm c S) (z : zc S.N c' c) : WC mm c' S := by
  have h' : WC mm c (S.set S.N (S.rp S.N)) := by rw [set_id]; exact h
  have := WC_zc (R' := S.rp S.N) h' z (fun q => absurd q (Nat.lt_irrefl _)) (fun q => absurd q (Nat.lt_irrefl _))
  rw [set_id] at this; exact this
theorem WC_B {mm : Kp} {c : vC} {S : Sx} {i : Nat} {l : List Nat} (h : WC mm c S) : WC mm (sB c i l) S := WC_n h zc_B
theorem WC_2 {mm : Kp} {c : vC} {S : Sx} {f i : Nat} {v : Int32} (h : WC mm c S) (hf : f < 100) : WC mm (uI c f i v) S := WC_n h (zc_2 hf)
theorem WC_a {mm : Kp} {c : vC} {S : Sx} {r : Nat} {R : Rp} (h : WC mm c (S.set r R)) (hr : r < S.N) : AlA c S r R ∧ (R.1 6 = 1 → RpA c S r R) := by
  have := h.2.2.2.2 r hr
  rw [set_rp] at this; exact this
theorem WC_i {mm : Kp} {c : vC} {S : Sx} {r f g : Nat} {R : Rp} (h : WC mm c (S.set r R)) (hr : r < S.N) (h6 : R.1 6 = 1) (hf : sci f = some g) : cI c f r = nI (R.1 g) := ((WC_a h hr).2 h6).1 f g hf
theorem WC_p {mm : Kp} {c : vC} {S : Sx} {r f g : Nat} {R : Rp} (h : WC mm c (S.set r R)) (hr : r < S.N) (h6 : R.1 6 = 1) (hf : pci f = some g) : RqO c S.tb (cP c f r) (R.1 g) := ((WC_a h hr).2 h6).2.1 f g hf
theorem WC_700 {mm : Kp} {c : vC} {S : Sx} {r : Nat} {R : Rp} (h : WC mm c (S.set r R)) (hr : r < S.N) : cI c 700 r = nI r := (WC_a h hr).1.1.2.2.1
theorem WC_701 {mm : Kp} {c : vC} {S : Sx} {r : Nat} {R : Rp} (h : WC mm c (S.set r R)) (hr : r < S.N) : cI c 701 r = nI S.N := (WC_a h hr).1.1.2.2.2.1
theorem WC_702 {mm : Kp} {c : vC} {S : Sx} {r : Nat} {R : Rp} (h : WC mm c (S.set r R)) (hr : r < S.N) : cI c 702 r = nI S.T := (WC_a h hr).1.1.2.2.2.2
theorem WC_st {mm : Kp} {c : vC} {S : Sx} {r : Nat} {R : Rp} (h : WC mm c (S.set r R)) (hr : r < S.N) (h6 : R.1 6 = 1) : StA c S r R := ((WC_a h hr).2 h6).2.2.2.2.2.2
theorem WC_ix {mm : Kp} {c : vC} {S : Sx} {r : Nat} {R : Rp} (h : WC mm c (S.set r R)) (hr : r < S.N) (h6 : R.1 6 = 1) : cI c 1007 r = nI (R.1 7) := (WC_st h hr h6).1
theorem WC_qu {mm : Kp} {c : vC} {S : Sx} {r : Nat} {R : Rp} (h : WC mm c (S.set r R)) (hr : r < S.N) (h6 : R.1 6 = 1) : QuA c S r R := ((WC_a h hr).2 h6).2.2.2.2.1
theorem WC_pi {mm : Kp} {c : vC} {S : Sx} {r : Nat} {R : Rp} (h : WC mm c (S.set r R)) (hr : r < S.N) (h6 : R.1 6 = 1) : PiA c S r R := ((WC_a h hr).2 h6).2.2.2.2.2.1
theorem sci_r {f g : Nat} (h : sci f = some g) : rpf f = true ∧ f ≠ 714 ∧ f ≠ 206 ∧ f ≠ 601 ∧ ¬ (500 ≤ f ∧ f < 600) ∧ ¬ (1000 ≤ f ∧ f < 1100) ∧ (g = 10 ∨ g = 25 ∨ g = 13 ∨ g = 19 ∨ g = 20 ∨ g = 21 ∨ g = 24 ∨ g = 32 ∨ g = 33 ∨ g = 31) ∧ f ≠ 700 ∧ f ≠ 701 ∧ f ≠ 702 ∧ sca f = none := by
  unfold sci at h
  split at h <;> first | (injection h with h; subst h; decide) | exact absurd h (by simp)
theorem sci_inj {f f' g : Nat} (h : sci f = some g) (h' : sci f' = some g) : f = f' := by
  unfold sci at h h'
  split at h <;> split at h' <;> first | rfl | (injection h with h; injection h' with h'; omega) | (cases h'; done) | (cases h; done)
theorem pci_r {f g : Nat} (h : pci f = some g) : rpf f = true ∧ (g = 22 ∨ g = 23 ∨ g = 12) ∧ f ≠ 805 := by
  unfold pci at h
  split at h <;> first | (injection h with h; subst h; decide) | exact absurd h (by simp)
theorem pci_inj {f f' g : Nat} (h : pci f = some g) (h' : pci f' = some g) : f = f' := by
  unfold pci at h h'
  split at h <;> split at h' <;> first | rfl | (injection h with h; injection h' with h'; omega) | (cases h'; done) | (cases h; done)
theorem sca_r {f g : Nat} (h : sca f = some g) : g = 6 ∨ g = 34 ∨ g = 35 := by
  unfold sca at h
  split at h <;> first | (injection h with h; subst h; decide) | exact absurd h (by simp)
/-- one number of a replica -/
theorem WC_I {mm : Kp} {c : vC} {S : Sx} {r f g v : Nat} {R : Rp} (h : WC mm c (S.set r R)) (hf : sci f = some g) : WC mm (uI c f r (nI v)) (S.set r (R.u g v)) := by
  obtain ⟨s1, s2, s3, s4, s5, s6, s7, s8, s9, s10, s11⟩ := sci_r hf
  have eo : ∀ k, k ≠ f → cI (uI c f r (nI v)) k r = cI c k r := fun k hk => uI_f _ _ _ hk
  refine WC_zc h (zc_I s1) (fun hr => ?_) (fun hr h6 => ?_)
  · obtain ⟨⟨a1, a2, a3, a4, a5⟩, b, d⟩ := (WC_a h hr).1
    refine ⟨⟨by rw [eo _ (by omega)]; exact a1, by rw [eo _ (by omega)]; exact a2, by rw [eo _ (by omega)]; exact a3, by rw [eo _ (by omega)]; exact a4, by rw [eo _ (by omega)]; exact a5⟩, fun k j hk => ?_, d⟩
    have : k ≠ f := fun e => by rw [e, s11] at hk; cases hk
    rw [eo k this, u_n _ _ (by have := sca_r hk; omega)]
    exact b k j hk
  · have h6' : R.1 6 = 1 := by rw [u_n _ _ (by omega)] at h6; exact h6
    obtain ⟨w1, w2, w3, w4, w5, w6, w7⟩ := (WC_a h hr).2 h6'
    refine ⟨fun k j hk => ?_, fun k j hk => ?_, fun x => ?_, ?_, w5.c (zc_I (r := r) s1).1 (eo _ (by omega)) rfl rfl rfl, w6.c (fun k k1 k2 => eo _ (by omega)) rfl (u_n _ _ (by omega)) (u_n _ _ (by omega)) rfl, w7.c (zc_I (r := r) s1).1 (fun k k1 k2 => eo _ (by omega)) (fun _ _ _ => rfl) rfl (u_n _ _ (by omega)) (u_n _ _ (by omega)) (u_n _ _ (by omega))⟩
    · by_cases e : k = f
      · subst e
        rw [hf] at hk
        injection hk with hk
        subst hk
        rw [uI_s, u_s]
      · have : j ≠ g := fun q => e (sci_inj (by rw [q] at hk; exact hk) hf)
        rw [eo k e, u_n _ _ this]; exact w1 k j hk
    · rw [u_n _ _ (by have := (pci_r hk).2.1; omega)]
      exact (w2 k j hk).c (zc_I (r := r) s1).1
    · rw [u_n _ _ (by omega)] at x ⊢
      rw [eo _ (by omega)]; exact w3 x
    · rw [eo _ (by omega)]; exact w4
theorem tr_uI {ρ : Type} {mm : Kp} {c : vC} {S : Sx} {r f g : Nat} (v : Nat) {R : Rp} {K : vC → Option ρ} {Q : ρ → Prop} (h : WC mm c (S.set r R)) (hf : sci f = some g) (k : ∀ c', WC mm c' (S.set r (R.u g v)) → tr (K c') Q) : tr (lt1 (uI c f r (nI v)) K) Q := tr_l1 (k _ (WC_I h hf))
/-- one request of a replica's office -/
theorem WC_P {mm : Kp} {c : vC} {S : Sx} {r f g q : Nat} {o : Option Nat} {R : Rp} (h : WC mm c (S.set r R)) (hf : pci f = some g) (hg : g ≠ 12) (ho : RqO c S.tb o q) : WC mm (uP c f r o) (S.set r (R.u g q)) := by
  obtain ⟨s1, s2, s3⟩ := pci_r hf
  refine WC_zc h (zc_P s1) (fun hr => ?_) (fun hr h6 => ?_)
  · obtain ⟨a, b, d⟩ := (WC_a h hr).1
    refine ⟨a, fun k j hk => ?_, d⟩
    rw [u_n _ _ (by have := sca_r hk; omega)]
    exact b k j hk
  · have h6' : R.1 6 = 1 := by rw [u_n _ _ (by omega)] at h6; exact h6
    obtain ⟨w1, w2, w3, w4, w5, w6, w7⟩ := (WC_a h hr).2 h6'
    have z := (zc_P (c := c) (v := o) (r := r) s1).1
    refine ⟨fun k j hk => ?_, fun k j hk => ?_, fun x => ?_, w4, w5.c z rfl rfl rfl rfl, w6.c (fun _ _ _ => rfl) rfl (u_n _ _ (by omega)) (u_n _ _ (by omega)) rfl, w7.c z (fun _ _ _ => rfl) (fun _ _ _ => rfl) rfl (u_n _ _ (by omega)) (u_n _ _ (by omega)) (u_n _ _ (by omega))⟩
    · rw [u_n _ _ (by have := (sci_r hk).2.2.2.2.2.2.1; omega)]; exact w1 k j hk
    · by_cases e : k = f
      · subst e
        rw [hf] at hk
        injection hk with hk
        subst hk
        rw [uP_s, u_s]
        exact ho.c z
      · have : j ≠ g := fun q => e (pci_inj (by rw [q] at hk; exact hk) hf)
        rw [uP_f _ _ _ e, u_n _ _ this]; exact (w2 k j hk).c z
    · rw [u_n _ _ (by omega)] at x ⊢
      exact w3 x
/-- what was accepted -/
theorem WC_acc {mm : Kp} {c : vC} {S : Sx} {r b q : Nat} {o : Option Nat} {R : Rp} (h : WC mm c (S.set r R)) (ho : RqO c S.tb o q) : WC mm (uI (uP c 713 r o) 714 r (nI b)) (S.set r ((R.u 11 b).u 12 q)) := by
  have z : zc r (uI (uP c 713 r o) 714 r (nI b)) c := (zc_I rfl).tr (zc_P rfl)
  have eo : ∀ k, k ≠ 714 → cI (uI (uP c 713 r o) 714 r (nI b)) k r = cI c k r := fun k hk => uI_f _ _ _ hk
  refine WC_zc h z (fun hr => ?_) (fun hr h6 => ?_)
  · obtain ⟨⟨a1, a2, a3, a4, a5⟩, b', d⟩ := (WC_a h hr).1
    refine ⟨⟨by rw [eo _ (by decide)]; exact a1, by rw [eo _ (by decide)]; exact a2, by rw [eo _ (by decide)]; exact a3, by rw [eo _ (by decide)]; exact a4, by rw [eo _ (by decide)]; exact a5⟩, fun k j hk => ?_, d⟩
    have := sca_r hk
    rw [eo k (fun e => by rw [e] at hk; cases hk), u_n _ _ (by omega), u_n _ _ (by omega)]
    exact b' k j hk
  · have h6' : R.1 6 = 1 := h6
    obtain ⟨w1, w2, w3, w4, w5, w6, w7⟩ := (WC_a h hr).2 h6'
    refine ⟨fun k j hk => ?_, fun k j hk => ?_, fun x => ?_, ?_, w5.c z.1 (eo _ (by decide)) rfl rfl rfl, w6.c (fun k k1 k2 => eo _ (by omega)) rfl rfl rfl rfl, w7.c z.1 (fun k k1 k2 => eo _ (by omega)) (fun _ _ _ => rfl) rfl rfl rfl rfl⟩
    · have := (sci_r hk).2.2.2.2.2.2.1
      rw [eo k (sci_r hk).2.1, u_n _ _ (by omega), u_n _ _ (by omega)]; exact w1 k j hk
    · by_cases e : k = 713
      · subst e
        injection hk with hk
        subst hk
        show RqO (uI (uP c 713 r o) 714 r (nI b)) S.tb (cP (uP c 713 r o) 713 r) q
        rw [uP_s]
        exact ho.c z.1
      · have : j ≠ 12 := fun q => e (pci_inj (by rw [q] at hk; exact hk) rfl)
        have j2 := (pci_r hk).2.1
        show RqO _ _ (cP (uP c 713 r o) k r) _
        rw [uP_f _ _ _ e, u_n _ _ this, u_n _ _ (by omega)]; exact (w2 k j hk).c z.1
    · rw [uI_s]; rfl
    · rw [eo _ (by decide)]; exact w4
theorem WC_acc0 {mm : Kp} {c : vC} {S : Sx} {r : Nat} {R : Rp} (h : WC mm c (S.set r R)) : WC mm (uP c 713 r none) (S.set r ((R.u 11 0).u 12 0)) := by
  have z : zc r (uP c 713 r none) c := zc_P rfl
  refine WC_zc h z (fun hr => ?_) (fun hr h6 => ?_)
  · obtain ⟨a, b', d⟩ := (WC_a h hr).1
    refine ⟨a, fun k j hk => ?_, d⟩
    have := sca_r hk
    rw [u_n _ _ (by omega), u_n _ _ (by omega)]
    exact b' k j hk
  · have h6' : R.1 6 = 1 := h6
    obtain ⟨w1, w2, w3, w4, w5, w6, w7⟩ := (WC_a h hr).2 h6'
    refine ⟨fun k j hk => ?_, fun k j hk => ?_, fun x => absurd (show 0 < 0 from x) (Nat.lt_irrefl 0), w4, w5.c z.1 rfl rfl rfl rfl, w6.c (fun _ _ _ => rfl) rfl rfl rfl rfl, w7.c z.1 (fun _ _ _ => rfl) (fun _ _ _ => rfl) rfl rfl rfl rfl⟩
    · have := (sci_r hk).2.2.2.2.2.2.1
      rw [u_n _ _ (by omega), u_n _ _ (by omega)]; exact w1 k j hk
    · by_cases e : k = 713
      · subst e
        injection hk with hk
        subst hk
        rw [uP_s]
        exact RqO.none _ _
      · have : j ≠ 12 := fun q => e (pci_inj (by rw [q] at hk; exact hk) rfl)
        have j2 := (pci_r hk).2.1
        rw [uP_f _ _ _ e, u_n _ _ this, u_n _ _ (by omega)]; exact (w2 k j hk).c z.1
theorem u_comm (R : Rp) {f g : Nat} (a b : Nat) (h : f ≠ g) : (R.u f a).u g b = (R.u g b).u f a := by
  have : va_up (va_up R.1 f a) g b = va_up (va_up R.1 g b) f a := by
    funext x
    by_cases e : x = g
    · subst e; rw [va_up_self, va_up_ne _ _ (Ne.symm h), va_up_self]
    · by_cases e2 : x = f
      · subst e2; rw [va_up_ne _ _ e, va_up_self, va_up_self]
      · rw [va_up_ne _ _ e, va_up_ne _ _ e2, va_up_ne _ _ e2, va_up_ne _ _ e]
  show (va_up (va_up R.1 f a) g b, R.2) = (va_up (va_up R.1 g b) f a, R.2)
  rw [this]
theorem c_dropP {mm : Kp} {N : Nat} {c : vC} {S : Sx} {r : Nat} {R : Rp} (h : WC mm c (S.set r R)) : tr (F_X4_dropProposed N c r) (fun c' => WC mm c' (S.set r ((R.u 21 0).u 22 0))) := by
  unfold F_X4_dropProposed
  refine tr_l1 ?_
  have h1 := WC_P (q := 0) h (show pci 403 = some 22 from rfl) (by decide) (RqO.none _ _)
  refine tr_uI 0 h1 rfl fun c2 h2 => ?_
  rw [u_comm _ _ _ (by decide)] at h2
  exact tr_some h2
theorem c_follow {mm : Kp} {N : Nat} {c : vC} {S : Sx} {r : Nat} {R : Rp} (h : WC mm c (S.set r R)) : tr (F_X4_follow N c r) (fun c' => WC mm c' (S.set r (y_follow R))) := by
  unfold F_X4_follow
  refine tr_uI 0 h rfl fun c1 h1 => ?_
  refine tr_uI 0 h1 rfl fun c2 h2 => ?_
  refine tr_bind (c_dropP h2) fun c3 h3 => ?_
  refine tr_l1 ?_
  have h4 := WC_P (q := 0) h3 (show pci 404 = some 23 from rfl) (by decide) (RqO.none _ _)
  refine tr_uI 0 h4 rfl fun c5 h5 => ?_
  exact tr_some h5
/-! sessions -/
def zq (s : Nat) (c' c : vC) : Prop := ze c' c ∧ (∀ f i, 100 ≤ f → ¬ (800 ≤ f ∧ f < 900) → ¬ (i = s ∧ 900 ≤ f ∧ f < 1000) → cI c' f i = cI c f i) ∧ (∀ f i, f ≠ 805 → ¬ (i = s ∧ f = 908) → cP c' f i = cP c f i) ∧ (∀ f i, f ≠ 0 → ¬ (i = s ∧ f = 900) → cR c' f i = cR c f i) ∧ (∀ i, cJ c' i = cJ c i) ∧ ∀ f i, cQ c' f i = cQ c f i
theorem WC_se {mm : Kp} {c c' : vC} {S : Sx} {s : Nat} {g : Nat → Se} (h : WC mm c S) (z : zq s c' c) (hg : ∀ k, k < 16 → k ≠ s → g k = S.se k) (h' : s < 16 → SeA c' S.tb s (g s)) : WC mm c' (S.sets g) := by
  obtain ⟨h1, h2, h3, h4, h5⟩ := h
  obtain ⟨z1, z2, z3, z4, z5, z6⟩ := z
  have eI : ∀ f i, 100 ≤ f → ¬ (800 ≤ f ∧ f < 900) → ¬ (900 ≤ f ∧ f < 1000) → cI c' f i = cI c f i := fun f i a b d => z2 f i a b (fun q => d q.2)
  refine ⟨z1.2.2 h1, ?_, ?_, fun k hk => ?_, fun k hk => ?_⟩
  · rw [eI 1100 0 (by decide) (by decide) (by decide), eI 1101 0 (by decide) (by decide) (by decide), eI 1102 0 (by decide) (by decide) (by decide)]; exact h2
  · obtain ⟨hd, a1, a2, a3, a4, p, t, b1, b2, b3, b4, b5, b6, b7⟩ := h3
    refine ⟨⟨fun k m e => ⟨(z3 301 0 (by decide) (by omega)).trans (hd.1 k m e).1, (hd.1 k m e).2.c z1 (fun f f1 f2 => eI f _ f1 (by omega) (by omega)) (z3 105 _ (by decide) (by omega)) (z3 107 _ (by decide) (by omega))⟩, fun a q e => (hd.2 a q e).c z1⟩, (eI 303 0 (by decide) (by decide) (by decide)).trans a1, (eI 304 0 (by decide) (by decide) (by decide)).trans a2, (eI 305 0 (by decide) (by decide) (by decide)).trans a3, (eI 306 0 (by decide) (by decide) (by decide)).trans a4, p, t, fun i hi => ?_, (z3 301 0 (by decide) (by omega)).trans b2, b3, b4, b5, b6, fun i hi => ?_⟩
    · rw [z6 300 0]; exact b1 i hi
    · exact (b7 i hi).c z1 (fun f f1 f2 => eI f _ f1 (by omega) (by omega)) (z3 105 _ (by decide) (by omega)) (z3 107 _ (by decide) (by omega))
  · show SeA c' S.tb k (g k)
    by_cases e : k = s
    · subst e; exact h' hk
    · rw [hg k hk e]
      exact (h4 k hk).c z1 (fun f f1 f2 => z2 f k (by omega) (by omega) (fun q => e q.1)) (z3 908 k (by decide) (fun q => e q.1)) (z4 900 k (by decide) (fun q => e q.1))
  · obtain ⟨⟨q1, q2, q3⟩, q4⟩ := h5 k hk
    have sr : ∀ f g, sci f = some g → 100 ≤ f ∧ ¬ (800 ≤ f ∧ f < 900) ∧ ¬ (900 ≤ f ∧ f < 1000) := fun f g hf => by
      unfold sci at hf
      split at hf <;> first | decide | exact absurd hf (by simp)
    have sr2 : ∀ f g, sca f = some g → 100 ≤ f ∧ ¬ (800 ≤ f ∧ f < 900) ∧ ¬ (900 ≤ f ∧ f < 1000) := fun f g hf => by
      unfold sca at hf
      split at hf <;> first | decide | exact absurd hf (by simp)
    refine ⟨⟨?_, fun f g hf => ?_, fun a ha => ?_⟩, fun q => ?_⟩
    · rw [eI 1000 k (by decide) (by decide) (by decide), eI 1001 k (by decide) (by decide) (by decide), eI 700 k (by decide) (by decide) (by decide), eI 701 k (by decide) (by decide) (by decide), eI 702 k (by decide) (by decide) (by decide)]; exact q1
    · rw [eI f k (sr2 f g hf).1 (sr2 f g hf).2.1 (sr2 f g hf).2.2]; exact q2 f g hf
    · rw [z5 k]; exact q3 a ha
    · obtain ⟨w1, w2, w3, w4, w5, w6, w7⟩ := q4 q
      refine ⟨fun f g hf => ?_, fun f g hf => ?_, fun x => ?_, ?_, w5.c z1 (eI 601 k (by decide) (by decide) (by decide)) (z6 600 k) rfl rfl, w6.c (fun f f1 f2 => eI f k (by omega) (by omega) (by omega)) (z4 500 k (by decide) (by omega)) rfl rfl rfl, ?_⟩
      · rw [eI f k (sr f g hf).1 (sr f g hf).2.1 (sr f g hf).2.2]; exact w1 f g hf
      · have hp := pci_r hf
        have : f ≠ 908 := fun e => by rw [e] at hf; cases hf
        rw [z3 f k hp.2.2 (fun q => this q.2)]; exact (w2 f g hf).c z1
      · rw [eI 714 k (by decide) (by decide) (by decide)]; exact w3 x
      · rw [eI 206 k (by decide) (by decide) (by decide)]; exact w4
      · exact w7.c z1 (fun f f1 f2 => eI f k (by omega) (by omega) (by omega)) (fun f f1 f2 => z4 f k (by omega) (by omega)) (z6 1006 k) rfl rfl rfl
theorem zq_I {c : vC} {s f : Nat} {v : Int32} (h : 900 ≤ f ∧ f < 1000) : zq s (uI c f s v) c :=
  ⟨ze_s rfl rfl rfl rfl (fun g a b => funext fun j => uI_f _ _ _ (by omega)) rfl, fun g i _ _ n => uI_o _ _ (fun q => n ⟨q.2, by omega⟩), fun _ _ _ _ => rfl, fun _ _ _ _ => rfl, fun _ => rfl, fun _ _ => rfl⟩
theorem zq.tr {s : Nat} {a b c : vC} (h : zq s a b) (g : zq s b c) : zq s a c := by
  obtain ⟨h1, h2, h3, h4, h5, h6⟩ := h
  obtain ⟨g1, g2, g3, g4, g5, g6⟩ := g
  exact ⟨h1.tr g1, fun f i a b c => (h2 f i a b c).trans (g2 f i a b c), fun f i a b => (h3 f i a b).trans (g3 f i a b), fun f i a b => (h4 f i a b).trans (g4 f i a b), fun i => (h5 i).trans (g5 i), fun f i => (h6 f i).trans (g6 f i)⟩
/-- a session ends -/
theorem WC_end {mm : Kp} {c : vC} {S : Sx} {s v : Nat} {g : Nat → Se} (h : WC mm c S) (hv : v = 3 ∨ v = 4) (hg : ∀ k, k < 16 → g k = if k = s then (va_up (S.se s).1 46 v, (S.se s).2) else S.se k) : WC mm (uI (uI c 901 s (nI v)) 903 s (-1)) (S.sets g) := by
  refine WC_se h ((zq_I (by decide)).tr (zq_I (by decide))) (fun k hk e => by rw [hg k hk, if_neg e]) (fun hs => ?_)
  rw [hg s hs, if_pos rfl]
  obtain ⟨a1, a2, a3, a4, a5, a6, a7, a8, a9⟩ := h.2.2.2.1 s hs
  have eo : ∀ f, f ≠ 901 → f ≠ 903 → cI (uI (uI c 901 s (nI v)) 903 s (-1)) f s = cI c f s := fun f x y => by rw [uI_f _ _ _ y, uI_f _ _ _ x]
  refine ⟨?_, (eo 902 (by decide) (by decide)).trans a2, ?_, (eo 904 (by decide) (by decide)).trans a4, (eo 905 (by decide) (by decide)).trans a5, (eo 906 (by decide) (by decide)).trans a6, (eo 907 (by decide) (by decide)).trans a7, fun e => ?_, a9⟩
  · rw [uI_f _ _ _ (by decide), uI_s]; rfl
  · rw [uI_s]
    have e46 : va_up (S.se s).1 46 v 46 = v := va_up_self _ _ _
    show (-1 : Int32) = if va_up (S.se s).1 46 v 46 = 1 ∨ va_up (S.se s).1 46 v 46 = 2 then _ else -1
    rw [e46, if_neg (by omega)]
  · have e46 : va_up (S.se s).1 46 v 46 = v := va_up_self _ _ _
    have : va_up (S.se s).1 46 v 46 = 2 := e
    omega
theorem c_end {mm : Kp} {N : Nat} {c : vC} {S : Sx} {s v : Nat} {g : Nat → Se} (h : WC mm c S) (hv : v = 3 ∨ v = 4) (hg : ∀ k, k < 16 → g k = if k = s then (va_up (S.se s).1 46 v, (S.se s).2) else S.se k) : tr (F_X9_end N c s (nI v)) (fun c' => WC mm c' (S.sets g)) := by
  unfold F_X9_end
  exact tr_l1 (tr_l1 (tr_some (WC_end h hv hg)))
theorem ix_n {m k : Nat} (h : k < m) (hm : m < 2 ^ 31) : ix m (nI k) = some k := by
  unfold ix
  rw [nIt (by omega), if_neg (fun q => q.elim (nIn (by omega)) (fun q => by omega))]
theorem q_gdC {mm : Kp} {N : Nat} {S : Sx} {r : Nat} (hr : r < 9) : ∀ (d k fl : Nat) (c : vC) (S : Sx) (g : Nat → Se), (∀ s, s < 16 → (S.se s).1 46 < 2 ^ 31 ∧ (S.se s).1 48 < 2 ^ 31) → k + d = 16 → d < fl → WC mm c S → cI c 700 r = nI r → (∀ s, s < 16 → g s = if k ≤ s then y_ses4 S r s else S.se s) → tr (L_X7_goDown_7 N r (fun c' => some c') fl c (nI k)) (fun c' => WC mm c' (S.sets g)) := by
  intro d
  induction d with
  | zero =>
    intro k fl c S g hb h1 h2 h e7 hg
    obtain ⟨fl, rfl⟩ : ∃ f', fl = f' + 1 := ⟨fl - 1, by omega⟩
    obtain rfl : k = 16 := by omega
    rw [L_X7_goDown_7, if_pos (show (16 : Int32) ≤ nI 16 from nI_le (Nat.le_refl 16) (by decide))]
    refine tr_some ?_
    obtain ⟨a1, a2, a3, a4, a5⟩ := h
    refine ⟨a1, a2, a3, fun s hs => ?_, a5⟩
    show SeA c S.tb s (g s)
    rw [hg s hs, if_neg (by omega)]
    exact a4 s hs
  | succ d ih =>
    intro k fl c S g hb h1 h2 h e7 hg
    obtain ⟨fl, rfl⟩ : ∃ f', fl = f' + 1 := ⟨fl - 1, by omega⟩
    have hk : k < 16 := by omega
    have b46 := (hb k hk).1
    have b48 := (hb k hk).2
    obtain ⟨s1, s2, s3, s4, s5, s6, s7, s8, s9⟩ := h.2.2.2.1 k hk
    rw [L_X7_goDown_7, if_neg (show ¬ (16 : Int32) ≤ nI k from nI_ge (b := 16) (by omega) (by decide)), show nI k + (1 : Int32) = nI (k + 1) from nI_add k 1, ix_n hk (by decide), Option.bind_some, s1]
    have keep : (S.se k).1 46 ≠ 1 ∨ (S.se k).1 48 ≠ r → tr (L_X7_goDown_7 N r (fun c' => some c') fl c (nI (k + 1))) (fun c' => WC mm c' (S.sets g)) := by
      intro hc
      refine ih (k + 1) fl c S g hb (by omega) (by omega) h e7 fun s hs => ?_
      rw [hg s hs]
      by_cases e : s = k
      · subst e
        rw [if_pos (by omega), if_neg (by omega)]
        unfold y_ses4
        rw [if_neg (by omega)]
      · by_cases e2 : k ≤ s
        · rw [if_pos e2, if_pos (by omega)]
        · rw [if_neg e2, if_neg (by omega)]
    refine tr_eq (b := 1) (by omega) (by decide) (fun c1 => ?_) (fun c1 => keep (Or.inl c1))
    rw [Option.bind_some, s3, if_pos (Or.inl c1), e7]
    refine tr_eq (by omega) (by omega) (fun c2 => ?_) (fun c2 => keep (Or.inr c2))
    rw [Option.bind_some]
    unfold F_X9_end
    refine tr_bind (P := fun c' => c' = uI (uI c 901 k (nI 4)) 903 k (-1)) (tr_l1 (tr_l1 (tr_some rfl))) fun c' hc' => ?_
    subst hc'
    have h' := WC_end (s := k) (v := 4) (g := fun x => if x = k then (va_up (S.se k).1 46 4, (S.se k).2) else S.se x) h (Or.inr rfl) (fun x _ => rfl)
    refine ih (k + 1) fl _ (S.sets (fun x => if x = k then (va_up (S.se k).1 46 4, (S.se k).2) else S.se x)) g (fun s hs => ?_) (by omega) (by omega) h' (by rw [uI_f _ _ _ (by decide), uI_f _ _ _ (by decide)]; exact e7) fun s hs => ?_
    · show ((if s = k then (va_up (S.se k).1 46 4, (S.se k).2) else S.se s) : Se).1 46 < 2 ^ 31 ∧ ((if s = k then (va_up (S.se k).1 46 4, (S.se k).2) else S.se s) : Se).1 48 < 2 ^ 31
      by_cases e : s = k
      · subst e
        rw [if_pos rfl]
        exact ⟨by show va_up (S.se s).1 46 4 46 < _; rw [va_up_self]; decide, by show va_up (S.se s).1 46 4 48 < _; rw [va_up_ne _ _ (by decide)]; exact (hb s hs).2⟩
      · rw [if_neg e]; exact hb s hs
    · rw [hg s hs]
      by_cases e : s = k
      · subst e
        rw [if_pos (Nat.le_refl _), if_neg (show ¬ s + 1 ≤ s by omega)]
        unfold y_ses4
        rw [if_pos ⟨c1, c2⟩]
        exact (if_pos rfl).symm
      · have e1 : (S.sets (fun x => if x = k then (va_up (S.se k).1 46 4, (S.se k).2) else S.se x)).se s = S.se s := if_neg e
        have e3 : y_ses4 (S.sets (fun x => if x = k then (va_up (S.se k).1 46 4, (S.se k).2) else S.se x)) r s = y_ses4 S r s := by
          unfold y_ses4
          rw [e1]
        rw [e1, e3]
        by_cases e2 : k ≤ s
        · rw [if_pos e2, if_pos (show k + 1 ≤ s by omega)]
        · rw [if_neg e2, if_neg (show ¬ k + 1 ≤ s by omega)]
theorem c_goDown {mm : Kp} {N : Nat} {c : vC} {S : Sx} {r : Nat} {R : Rp} (hs : SmS S) (h : WC mm c (S.set r R)) (hr : r < 9) (hN : r < S.N) : tr (F_X7_goDown N c r) (fun c' => WC mm c' (y_goDown (S.set r R) r)) := by
  unfold F_X7_goDown
  refine tr_z0 (tr_l1 ?_)
  have e : (S.set r ((y_follow (R.u 6 0)).q [])).sets (y_ses4 S r) = y_goDown (S.set r R) r := by
    unfold y_goDown
    rw [set_rp, set_set]; rfl
  rw [← e]
  have h1 : WC mm (uI c 711 r 0) (S.set r ((y_follow (R.u 6 0)).q [])) := by
    have eo : ∀ k, k ≠ 711 → cI (uI c 711 r 0) k r = cI c k r := fun k hk => uI_f _ _ _ hk
    refine WC_zc h (zc_I rfl) (fun hr => ?_) (fun hr h6 => absurd (show 0 = 1 from h6) (by decide))
    obtain ⟨⟨a1, a2, a3, a4, a5⟩, b, d⟩ := (WC_a h hr).1
    refine ⟨⟨by rw [eo _ (by decide)]; exact a1, by rw [eo _ (by decide)]; exact a2, by rw [eo _ (by decide)]; exact a3, by rw [eo _ (by decide)]; exact a4, by rw [eo _ (by decide)]; exact a5⟩, fun k j hk => ?_, d⟩
    by_cases e : k = 711
    · subst e
      injection hk with hk
      subst hk
      rw [uI_s]; rfl
    · rw [eo k e, b k j hk]
      have hj := sca_r hk
      have : j ≠ 6 := fun q => by
        subst q
        unfold sca at hk
        split at hk <;> first | exact e rfl | exact absurd hk (by decide)
      rcases hj with rfl | rfl | rfl
      · exact absurd rfl this
      · rfl
      · rfl
  exact q_gdC (S := S) hr 16 0 fu _ (S.set r ((y_follow (R.u 6 0)).q [])) (y_ses4 S r) (fun s hs' => ⟨(hs s hs').1, (hs s hs').2.1⟩) rfl (by decide) h1 (WC_700 h1 hN) fun s _ => (if_pos (Nat.zero_le _)).symm
