theorem no_1 : nI y_no = -1 := by decide
theorem sb_0 : sb_b 0 = 0 := by decide
theorem wm_0 {M : vM} {N V L T : Nat} (hN : N ≤ 9) (h : MIn M N (nI V) (nI L) (nI T)) : WM M (y_s0 N V L T) := by
  obtain ⟨⟨h1, h2, h3, h4, h11⟩, hz, h49, h6, h35, h32, h34, h36, ho⟩ := h
  have vz : ∀ r j x, j < 55 → j ≠ 6 → j ≠ 35 → j ≠ 32 → j ≠ 36 → j ≠ 38 → j ≠ 34 → j ≠ 49 → vw M r j x = 0 := fun r j x a b c d e f g k => by
    unfold vw
    split
    · exact ho j a b c d e f g k _
    · rfl
  refine ⟨fun f hf => ?_, hz 53 (by decide) (by decide) (by decide) (by decide) (by decide) (by decide), fun q a b => ?_, fun r hr => ?_, fun s hs => ?_, fun i hi => absurd hi (Nat.not_lt_zero _)⟩
  · have hf' : f = 1 ∨ f = 2 ∨ f = 3 ∨ f = 4 ∨ f = 11 ∨ f = 54 ∨ f = 55 ∨ f = 56 := by
      unfold sf at hf
      split at hf <;> first | decide | exact absurd hf (by decide)
    rcases hf' with rfl | rfl | rfl | rfl | rfl | rfl | rfl | rfl
    · exact h1
    · exact h2
    · exact h3
    · exact h4
    · exact h11
    · exact hz 54 (by decide) (by decide) (by decide) (by decide) (by decide) (by decide)
    · exact hz 55 (by decide) (by decide) (by decide) (by decide) (by decide) (by decide)
    · exact hz 56 (by decide) (by decide) (by decide) (by decide) (by decide) (by decide)
  · have b' : q < 1 := b
    omega
  · show RR V (y_s0 N V L T).sta (fun _ => 0) (vw M r) (y_rp0 N r)
    have hsta : ∀ k, ((y_s0 N V L T).sta 0).1 k = 0 := fun k => rfl
    have hsc : ∀ j, sc j = true → vw M r j 0 = nI ((y_rp0 N r).1 j) := fun j hj => by
      rw [vw_1 (sc_1 hj)]
      by_cases c : r < N
      · obtain ⟨o6, o32, o35, _⟩ := rp0_o c
        by_cases e6 : j = 6
        · subst e6; rw [o6, h6, if_pos c]; rfl
        by_cases e32 : j = 32
        · subst e32; rw [o32, h32, if_pos c]; rfl
        by_cases e35 : j = 35
        · subst e35; rw [o35, h35, if_pos c, no_1]
        rw [rp0_f c e6 e32 e35]
        by_cases e34 : j = 34
        · subst e34; rw [h34]; rfl
        have hj2 : j < 55 ∧ j ≠ 36 ∧ j ≠ 38 ∧ j ≠ 49 := by
          unfold sc at hj
          split at hj <;> first | decide | exact absurd hj (by decide)
        exact ho j hj2.1 e6 e35 e32 hj2.2.1 hj2.2.2.1 e34 hj2.2.2.2 r
      · rw [rp0_d c]
        show M.2 j r = 0
        by_cases e6 : j = 6
        · subst e6; rw [h6, if_neg c]
        by_cases e32 : j = 32
        · subst e32; rw [h32, if_neg c]
        by_cases e35 : j = 35
        · subst e35; rw [h35, if_neg c]
        by_cases e34 : j = 34
        · subst e34; rw [h34]
        have hj2 : j < 55 ∧ j ≠ 36 ∧ j ≠ 38 ∧ j ≠ 49 := by
          unfold sc at hj
          split at hj <;> first | decide | exact absurd hj (by decide)
        exact ho j hj2.1 e6 e35 e32 hj2.2.1 hj2.2.2.1 e34 hj2.2.2.2 r
    have hlist : (y_rp0 N r).2.1 = [] ∧ (y_rp0 N r).2.2.1 = [] ∧ (y_rp0 N r).1 7 = 0 ∧ (y_rp0 N r).1 8 = 0 ∧ (y_rp0 N r).1 9 = 0 ∧ ∀ a, a < 32768 → vw M r 36 a = sb_b ((y_rp0 N r).2.2.2 a) := by
      have hv : ∀ a, a < 32768 → vw M r 36 a = if r < N ∧ 512 ≤ a ∧ a < 1024 then sb_b (byA (headL 1 0) (a - 512)) else 0 := fun a ha => by
        rw [vw_a (show a < 32768 from ha), show zs 36 = 32768 from rfl, h36, show (32768 * r + a) / 32768 = r by omega, show (32768 * r + a) % 32768 = a by omega]
      by_cases c : r < N
      · obtain ⟨_, _, _, oq, on, od⟩ := rp0_o c
        refine ⟨oq, on, rp0_f c (by decide) (by decide) (by decide), rp0_f c (by decide) (by decide) (by decide), rp0_f c (by decide) (by decide) (by decide), fun a ha => ?_⟩
        rw [hv a ha, od]
        show _ = sb_b (if 512 ≤ a ∧ a < 1024 then byA (headL 1 0) (a - 512) else 0)
        by_cases d : 512 ≤ a ∧ a < 1024
        · rw [if_pos ⟨c, d⟩, if_pos d]
        · rw [if_neg (fun q => d q.2), if_neg d, sb_0]
      · rw [rp0_d c]
        refine ⟨rfl, rfl, rfl, rfl, rfl, fun a ha => ?_⟩
        rw [hv a ha, if_neg (fun q => c q.1)]
        exact sb_0.symm
    obtain ⟨lq, ln, l7, l8, l9, ld⟩ := hlist
    refine ⟨hsc, fun i k a b hk => ?_, fun i a b d => ?_, fun i a b => ?_, fun s hs => ?_, fun s hs => ?_, fun k hk => ?_, ?_, fun k hk => ?_, ?_, ld⟩
    · rw [vz r 14 _ (by decide) (by decide) (by decide) (by decide) (by decide) (by decide) (by decide) (by decide), show i = 0 by omega]
      exact (hsta k).symm
    · omega
    · omega
    · rw [vz r 17 _ (by decide) (by decide) (by decide) (by decide) (by decide) (by decide) (by decide) (by decide), l7]; rfl
    · rw [vz r 18 _ (by decide) (by decide) (by decide) (by decide) (by decide) (by decide) (by decide) (by decide), l7]; rfl
    · rw [lq] at hk; exact absurd hk (Nat.not_lt_zero _)
    · rw [vz r 27 _ (by decide) (by decide) (by decide) (by decide) (by decide) (by decide) (by decide) (by decide), lq]; rfl
    · rw [ln] at hk; exact absurd hk (Nat.not_lt_zero _)
    · rw [vz r 30 _ (by decide) (by decide) (by decide) (by decide) (by decide) (by decide) (by decide) (by decide), ln]; rfl
  · show RS M.2 s y_se0
    refine ⟨fun f hf => ?_, ho 50 (by decide) (by decide) (by decide) (by decide) (by decide) (by decide) (by decide) (by decide) s, ho 51 (by decide) (by decide) (by decide) (by decide) (by decide) (by decide) (by decide) (by decide) s, fun k hk => ho 54 (by decide) (by decide) (by decide) (by decide) (by decide) (by decide) (by decide) (by decide) _⟩
    by_cases e : f = 49
    · subst e
      rw [h49, if_pos hs]
      exact no_1.symm
    · have e0 : y_se0.1 f = 0 := if_neg e
      have hf2 : f < 55 ∧ f ≠ 6 ∧ f ≠ 35 ∧ f ≠ 32 ∧ f ≠ 36 ∧ f ≠ 38 ∧ f ≠ 34 := by
        unfold sse at hf
        split at hf <;> first | decide | exact absurd hf (by decide)
      rw [e0]
      exact ho f hf2.1 hf2.2.1 hf2.2.2.1 hf2.2.2.2.1 hf2.2.2.2.2.1 hf2.2.2.2.2.2.1 hf2.2.2.2.2.2.2 e s
theorem wc_0 {c : vC} {N V L T : Nat} (hN : N ≤ 9) (h : CI c N (nI V) (nI L) (nI T)) : WC K0 c (y_s0 N V L T) := by
  obtain ⟨⟨v1, v2, v3⟩, hs, hr, hf, ⟨n1, n2, n3, n4, n5, n6⟩, _, hk⟩ := h
  refine ⟨fun a _ => hk a, ⟨v1, v2, v3⟩, ⟨show HdA K0 c _ from ⟨fun k m e => (by cases e), fun a q e => (by cases e)⟩, n1, n2, n3, n4, fun j => 2 + j, 0, fun i hi => ⟨n6 i, show 2 + i < 202 by omega, show 2 + i ≠ 1 by omega⟩, n5, by decide, by decide, fun i j _ _ e => by
    have e' : 2 + i = 2 + j := e
    omega, fun i _ e => by
    have e' : 2 + i = 0 := e
    omega, fun i hi => absurd hi (Nat.not_lt_zero _)⟩, fun s hs' => ?_, fun r hr' => ?_⟩
  · obtain ⟨q1, q2, q3, q4, q5, q6, q7, q8, q9⟩ := hs s hs'
    show SeA c _ s y_se0
    refine ⟨q1, q2, ?_, ?_, q5, q6, q7, fun e => absurd (show (0 : Nat) = 2 from e) (by decide), fun k _ => q9 k⟩
    · rw [q3]
      exact (if_neg (show ¬ (y_se0.1 46 = 1 ∨ y_se0.1 46 = 2) by decide)).symm
    · rw [q4]; exact no_1.symm
  · have hr'' : r < N := hr'
    obtain ⟨⟨a1, a2, a3, a4, a5, a6, a7, a8, a9, a10⟩, ⟨j1, j2, j3, j4, j5, j6, j7, j8, j9⟩, ⟨k1, k2, k3, k4, k5, k6, k7, k8, k9⟩, ⟨u1, u2⟩, ⟨p1, p2, p3, p4⟩, ⟨t1, t2, t3, t4, t5, t6⟩⟩ := hr r hr''
    obtain ⟨o6, o32, o35, oq, on, od⟩ := rp0_o hr''
    have of := fun {f : Nat} => rp0_f hr'' (f := f)
    show AlA c (y_s0 N V L T) r (y_rp0 N r) ∧ ((y_rp0 N r).1 6 = 1 → RpA c (y_s0 N V L T) r (y_rp0 N r))
    generalize y_rp0 N r = R at o6 o32 o35 oq on od of
    have z : ∀ f, f ≠ 6 → f ≠ 32 → f ≠ 35 → R.1 f = 0 := fun f a b d => of a b d
    refine ⟨⟨⟨a1, a2, k1, k2, k3⟩, fun f g hf => ?_, fun a ha => ?_⟩, fun _ => ⟨fun f g hf => ?_, fun f g hf => ?_, fun q => ?_, ?_, ⟨?_, fun i hi => ?_⟩, ⟨?_, ?_, fun q => ?_⟩, ?_, ?_, ?_, fun s hs' => ?_, fun s hs' => ?_, fun v hv => ?_, fun i k x1 x2 x3 => ?_, fun i x1 x2 => ?_⟩⟩
    · unfold sca at hf
      split at hf
      · injection hf with hf; subst hf; rw [o6]; exact k4
      · injection hf with hf; subst hf; rw [z 34 (by decide) (by decide) (by decide)]; exact j3
      · injection hf with hf; subst hf; rw [o35, no_1]; exact j4
      · cases hf
    · have := j9 a ha
      unfold plD at this
      unfold dk
      rw [this, od]; rfl
    · unfold sci at hf
      split at hf
      · injection hf with hf; subst hf; rw [z 10 (by decide) (by decide) (by decide)]; exact k5
      · injection hf with hf; subst hf; rw [z 25 (by decide) (by decide) (by decide)]; exact k8
      · injection hf with hf; subst hf; rw [z 13 (by decide) (by decide) (by decide)]; exact k9
      · injection hf with hf; subst hf; rw [z 19 (by decide) (by decide) (by decide)]; exact t1
      · injection hf with hf; subst hf; rw [z 20 (by decide) (by decide) (by decide)]; exact t2
      · injection hf with hf; subst hf; rw [z 21 (by decide) (by decide) (by decide)]; exact t3
      · injection hf with hf; subst hf; rw [z 24 (by decide) (by decide) (by decide)]; exact t6
      · injection hf with hf; subst hf; rw [o32]; exact j7
      · injection hf with hf; subst hf; rw [z 33 (by decide) (by decide) (by decide)]; exact j8
      · injection hf with hf; subst hf; rw [z 31 (by decide) (by decide) (by decide)]; exact j6
      · cases hf
    · unfold pci at hf
      split at hf
      · injection hf with hf; subst hf; rw [z 22 (by decide) (by decide) (by decide), t4]; exact RqO.none _ _
      · injection hf with hf; subst hf; rw [z 23 (by decide) (by decide) (by decide), t5]; exact RqO.none _ _
      · injection hf with hf; subst hf; rw [z 12 (by decide) (by decide) (by decide), k6]; exact RqO.none _ _
      · cases hf
    · have := z 12 (by decide) (by decide) (by decide)
      omega
    · rw [on]; exact j5
    · rw [oq]; exact u1
    · rw [oq] at hi; exact absurd hi (Nat.not_lt_zero _)
    · rw [if_pos (z 43 (by decide) (by decide) (by decide))]; exact p1
    · rw [z 44 (by decide) (by decide) (by decide)]; exact p2
    · have := z 43 (by decide) (by decide) (by decide)
      omega
    · rw [z 7 (by decide) (by decide) (by decide)]; exact a3
    · rw [z 8 (by decide) (by decide) (by decide)]; exact a4
    · rw [z 7 (by decide) (by decide) (by decide), z 9 (by decide) (by decide) (by decide)]; exact a5
    · rw [z 7 (by decide) (by decide) (by decide)]; exact a6 s
    · rw [z 7 (by decide) (by decide) (by decide)]; exact a7 s
    · rw [z 7 (by decide) (by decide) (by decide), a8 v]
      exact (if_pos (Nat.zero_le v)).symm
    · have e7 := z 7 (by decide) (by decide) (by decide)
      rw [show i = 0 by omega]
      exact a9 _
    · have e7 := z 7 (by decide) (by decide) (by decide)
      omega
