theorem Al.wait {K G : Nat} {g : Gh} {S : Sx} {r q : Nat} {R : Rp} (h : Al K G g S r R) (hG : G ≤ 1 + 4 * K) (hq : 0 < q) (hqn : q < S.1 4) : Fi K (y_wait (S.set r R) r q) r := by
  unfold y_wait
  rw [set_rp]
  by_cases c : q ∈ R.2.1 ∨ 8 ≤ R.2.1.length
  · rw [if_pos c]; exact h.fin hG
  · rw [if_neg c, set_set]
    have hQ := h.1.2.2.2.1.2.2.1
    refine (h.soft (R' := R.q (R.2.1 ++ [q])) (fun _ _ _ _ _ => rfl) rfl (h.1.2.2.2.1.q ⟨?_, fun x hx => ?_⟩)).fin hG
    · rw [List.length_append]
      show R.2.1.length + 1 ≤ 8
      omega
    · rcases List.mem_append.mp hx with z | z
      · exact hQ.2 x z
      · rw [List.mem_singleton.mp z]; exact ⟨hq, hqn⟩
theorem Al.gotForward {K G : Nat} {g : Gh} {S : Sx} {r q : Nat} {R : Rp} (h : Al K G g S r R) (hG : G ≤ 1 + 4 * K) (hq : 0 < q) (hqn : q < S.1 4) : Fi K (y_gotForward (S.set r R) r q) r := by
  unfold y_gotForward
  split
  · exact h.fin hG
  · exact h.wait hG hq hqn
theorem Al.gotBeat {K G : Nat} {g : Gh} {S : Sx} {r t b s : Nat} {R : Rp} (h : Al K G g S r R) (hG : G ≤ 1 + 4 * K) (ht : t < S.N) : Fi K (y_gotBeat (S.set r R) r t b s) r := by
  have hv := h.1.okv
  by_cases c : b < R.1 10
  · rw [gb_0 c]
    exact h.say hG (by decide) ht (by omega) (by omega) hv.2.2.1 (fun z => by cases z)
  · rw [gb_1 c]
    have hA : Al K G g S r (y_above (R.u 13 0) b) := (h.u (Or.inl rfl) (Nat.zero_le K)).above
    split
    · exact hA.say hG (by decide) ht (Nat.zero_le _) (by omega) hv.2.2.1 (fun z => by cases z)
    · split
      · exact hA.help hG ht
      · exact hA.fin hG
theorem Al.gotState {K G : Nat} {g : Gh} {S : Sx} {r s k : Nat} {R : Rp} (h : Al K G g S r R) (hK : K ≤ 600) (hG : G + 1 ≤ 1 + 4 * K) (hs : s ≤ S.ll) (hk : k < y_many S s) : Fi K (y_gotState (S.set r R) r s k) r := by
  have hv := h.1.okv
  have hk4 : k < 4 := by
    have : (S.enc s).length ≤ 197 := enc_len h.1.1.1 (by omega)
    unfold y_many at hk
    omega
  by_cases c : s ≤ R.1 7 ∨ s < R.1 43
  · rw [gs_0 c]; exact h.fin (by omega)
  have hA : Al K G g S r (y_gs1 R s k) := (h.u (f := 43) (v := s) (Or.inr (Or.inr (Or.inl rfl))) hs).u (f := 44) (v := y_gs R s k) (Or.inr (Or.inr (Or.inr rfl))) (gs_lt (h.1.2.2.2.1.1 44) hk4)
  by_cases c2 : y_gs R s k = 2 ^ y_many S s - 1
  · have hn : NbOk (4, 0, 0, 0, s) := ⟨show 1 ≤ 4 by decide, show 4 ≤ 5 by decide, show 0 < 2 ^ 31 by decide, show 0 < 2 ^ 31 by decide, show s < 2 ^ 31 by omega⟩
    have hw : NtW S (4, 0, 0, 0, s) := ⟨hn, ⟨show 0 < 2 ^ 31 by decide, fun z => (by cases z)⟩, fun z => (by rcases z with z | z <;> cases z), fun _ => hs⟩
    by_cases c3 : (y_note (S.set r (y_gs1 R s k)) r (4, 0, 0, 0, s)).2 = true
    · obtain ⟨R1, e1, e2, e3, e4, e5, e6⟩ := (note_D (r := r) (show Cx S from h.1.1.1) hA.1.2.2.2.2.1 hA.2.1 hn).1 c3
      have eR : ∀ f, f ≠ 31 → f ≠ 34 → f ≠ 35 → f ≠ 43 → f ≠ 44 → R1.1 f = R.1 f := fun f a b d e e' => (e2 f a b d).trans (by unfold y_gs1; rw [u_n _ _ e', u_n _ _ e])
      generalize hX : ((rst R1 s).u 11 0).u 12 0 = X
      have xo : ∀ f, f < 7 ∨ f = 10 ∨ 12 < f → X.1 f = R1.1 f := fun f a => by
        rw [← hX]
        unfold rst
        rw [u_n _ _ (by omega), u_n _ _ (by omega), u_n _ _ (by omega), u_n _ _ (by omega), u_n _ _ (by omega)]
      have x7 : X.1 7 = s := by rw [← hX]; rfl
      have x8 : X.1 8 = s := by rw [← hX]; rfl
      have x9 : X.1 9 = s := by rw [← hX]; rfl
      have x11 : X.1 11 = 0 := by rw [← hX]; rfl
      have x12 : X.1 12 = 0 := by rw [← hX]; rfl
      have x2 : X.2 = R1.2 := by rw [← hX]; rfl
      have g7 : (y_gs1 R s k).1 7 = R.1 7 := rfl
      have g6 : (y_gs1 R s k).1 6 = R.1 6 := rfl
      have g10 : (y_gs1 R s k).1 10 = R.1 10 := rfl
      have LoX : Lo K G S X := by
        obtain ⟨l1, l2, l3, l4, l5, l6⟩ := hA.1.2.2.2.1.d (R' := R1) (G' := G) (fun f a _ _ b d => e2 f a b d) e3 (by rw [e2 32 (by decide) (by decide) (by decide)]; exact hA.1.2.2.2.1.1 32)
        refine ⟨?_, ?_, ?_, ?_, ⟨fun _ => x11, fun z => by omega⟩, ?_⟩
        · rw [← hX]
          exact okK_u (okK_u (okK_u (okK_u (okK_u l1 (show s ≤ S.ll from hs)) True.intro) True.intro) (Nat.zero_le (9 * K))) hv.2.2.1
        · unfold SfK
          rw [x7, x8, x9]; omega
        · unfold QOk
          rw [x2]; exact l3
        · unfold FoOk
          rw [xo 19 (by decide), xo 20 (by decide), xo 21 (by decide), xo 22 (by decide), xo 23 (by decide), xo 24 (by decide)]; exact l4
        · unfold TlOk
          rw [xo 23 (by decide), xo 24 (by decide)]; exact l6
      have hm : rpM S (y_gs1 R s k) (4, 0, 0, 0, s) := ⟨⟨show 1 ≤ 4 by decide, show 4 ≤ 5 by decide, show 0 < 2 ^ 31 by decide, fun z => (by cases z), fun _ => show s < 29990 by omega, fun z => (by cases z)⟩, fun z => (by cases z)⟩
      have er : y_rep S (y_gs1 R s k) (4, 0, 0, 0, s) = ((rst (y_gs1 R s k) s).u 11 0).u 12 0 := rfl
      have hDD : DD S X := by
        refine note_up hA.1.2.2.2.2.1 hA.2.1 e5 e4 hw hm (by rw [x2]) (xo 31 (by decide)) ((xo 32 (by decide)).trans (e2 32 (by decide) (by decide) (by decide))) ((xo 33 (by decide)).trans (e2 33 (by decide) (by decide) (by decide))) (e2 32 (by decide) (by decide) (by decide)) (e2 33 (by decide) (by decide) (by decide)) ?_ ?_
        · unfold DuOk
          rw [xo 35 (by decide)]; exact e6
        · rw [er]
          exact ⟨x7, x8, (xo 10 (by decide)).trans (e2 10 (by decide) (by decide) (by decide)), x11, x12⟩
      have f6 : X.1 6 = (y_gs1 R s k).1 6 := (xo 6 (by decide)).trans (e2 6 (by decide) (by decide) (by decide))
      have f10 : X.1 10 = (y_gs1 R s k).1 10 := (xo 10 (by decide)).trans (e2 10 (by decide) (by decide) (by decide))
      have hAc : AcI g r X := by
        refine ⟨fun z => by omega, fun _ b w => ?_⟩
        have := (h.1.1.2.2.2.2.2.2.2.1.1 _ _ r h.1.2.1 w).2.2
        rw [ix_set, va_up_self, x7] at this
        omega
      have hM : Mid K G g S r X := ⟨hA.1.1.raise h.1.2.1 f6 (by rw [x7, g7]; omega) (Nat.le_of_eq f10.symm), h.1.2.1, hAc, LoX, hDD, f6.trans (g6.trans h.1.2.2.2.2.2)⟩
      obtain ⟨k1, k2⟩ := hM.ckp hK (by omega)
      by_cases cc : (y_ckp (S.set r X) r).2 = true
      · obtain ⟨R3, a1, a2, a3, a4, a5⟩ := k1 cc
        rw [gs_4 c c2 c3 e1 (by rw [hX]; exact cc) (by rw [hX]; exact a1)]
        have hM4 : Mid K (G + 1) g S r ((y_follow R3).u 13 0) := a5.fol.c' (fun f a _ _ _ _ => u_n _ _ a) rfl (a5.fol.2.2.2.1.u rfl (Nat.zero_le K))
        obtain ⟨S', R', y1, y2, y3, y4, y5, y6⟩ := hM4.tell
        rw [y1]
        refine y4.fin0 hG ?_ ?_
        · rw [y3]; exact a4
        · rw [y2 19 (by decide) (by decide)]; rfl
      · have cf : (y_ckp (S.set r X) r).2 = false := Bool.eq_false_iff.mpr cc
        rw [gs_3 c c2 c3 e1 (by rw [hX]; exact cf), hX]
        exact k2 cf
    · have cf : (y_note (S.set r (y_gs1 R s k)) r (4, 0, 0, 0, s)).2 = false := Bool.eq_false_iff.mpr c3
      rw [gs_2 c c2 cf]
      exact hA.1.note0 (by omega) hA.2.1 hn cf
  · rw [gs_1 c c2]; exact hA.fin (by omega)
theorem Al.tick {K G : Nat} {g : Gh} {S : Sx} {r : Nat} {R : Rp} (h : Al K G g S r R) (hK : K ≤ 600) (hG : G + 1 ≤ 1 + 4 * K) (h13 : R.1 13 + 1 ≤ K) (hb : max (R.1 10) (R.1 25) + 9 ≤ 9 * K) : Fi K (y_tick (S.set r R) r) r := by
  have hv := h.1.okv
  have hA : Al K G g S r (R.u 13 (R.1 13 + 1)) := h.u (Or.inl rfl) h13
  generalize hX : R.u 13 (R.1 13 + 1) = X at hA
  have x1 : ∀ f, f ≠ 13 → X.1 f = R.1 f := fun f a => by rw [← hX, u_n _ _ a]
  have x2 : X.2 = R.2 := by rw [← hX]; rfl
  have hv' := hA.1.okv
  have hA0 : Al K G g S r (X.u 13 0) := hA.u (Or.inl rfl) (Nat.zero_le K)
  have hbX : max (X.1 10) (X.1 25) + 9 ≤ 9 * K := by rw [x1 10 (by decide), x1 25 (by decide)]; exact hb
  by_cases c : X.1 19 = 2 ∧ 0 < X.1 22
  · rw [tk_1 hX.symm c]
    split
    · obtain ⟨b1, b2, b3⟩ := hA.2.2.2.1 c.1
      refine hA0.sayAll (by omega) (fun t ht _ => ?_)
      refine ⟨⟨show 1 ≤ 3 by decide, show 3 ≤ 10 by decide, h.1.2.1, ht, hv'.2.2.2.2.2.2.2.1, show X.1 7 + 1 ≤ S.ll + 1 by omega, hv'.2.2.2.2.2.2.2.2.1, Nat.zero_le (9 * K), SpM0 rfl, fun _ => c.2, fun z => ?_, fun z => ?_⟩, fun z => ?_, fun _ => ⟨c.2, (b3 c.2).1⟩, fun z => ?_, fun z => ?_⟩
      · exact absurd (show (3 : Nat) = 2 from z) (by decide)
      · exact absurd (show (3 : Nat) = 8 from z) (by decide)
      · exact absurd (show (3 : Nat) = 2 from z) (by decide)
      · exact absurd (show (3 : Nat) = 4 from z) (by decide)
      · exact absurd (show (3 : Nat) = 5 from z) (by decide)
    · exact hA.fin (by omega)
  by_cases c2 : X.1 19 = 2
  · rw [tk_2 hX.symm c c2]
    have h22 : X.1 22 = 0 := by omega
    obtain ⟨u1, u2⟩ := hA.1.propose hK hG hA.2.1 c2 hA.2.2.2.2 (hA.2.2.2.1.ld c2 h22)
    split
    · rename_i cp; exact u1 cp
    · split
      · exact hA0.sayAll (by omega) (fun t ht _ => MgI_1 (by decide) h.1.2.1 ht hv'.2.2.2.2.2.2.2.1 (by omega) hv.2.2.1 (fun z => by cases z))
      · exact hA.fin (by omega)
  by_cases c3 : X.1 19 = 1
  · rw [tk_3 hX.symm c3]
    split
    · exact hA.1.campaign hK hG hA.2.1 hbX
    · exact hA.fin (by omega)
  rw [tk_4 hX.symm c3 c2]
  split
  · rename_i cl
    split
    · exact hA.1.campaign hK hG hA.2.1 hbX
    · split
      · have hq : X.2.1.headD 0 ∈ X.2.1 := by
          cases hl : X.2.1 with
          | nil => rw [hl] at cl; exact absurd cl (by decide)
          | cons a l => exact List.mem_cons_self
        have hq' := hA.1.2.2.2.1.2.2.1.2 _ hq
        exact hA.say (by omega) (by decide) (Nat.mod_lt _ (by omega)) (Nat.zero_le _) (Nat.zero_le _) hq'.2 (fun _ => hq'.1)
      · exact hA.fin (by omega)
  · split
    · exact hA0.say (by omega) (by decide) (Nat.mod_lt _ (by omega)) (Nat.zero_le _) (by omega) hv.2.2.1 (fun z => by cases z)
    · exact hA.fin (by omega)
theorem Al.comes {K G : Nat} {g : Gh} {S : Sx} {m : Mg} {R : Rp} (h : Al K G g S (m 2) R) (hK : K ≤ 600) (hG : G + 2 ≤ 1 + 4 * K) (h7K : S.ll + 1 ≤ K) (hm : MgI K g (pmS (S.set (m 2) R)) S m) : Fi K (y_comes (S.set (m 2) R) m) (m 2) := by
  obtain ⟨⟨m1, m2, m3, m4, m5, m6, m7, m8, m9, m10, m11, m12⟩, k2, k3, k4, k5⟩ := hm
  have es : y_seen (S.set (m 2) R) m = S.set (m 2) (R.u 25 (max (m 3) (R.1 25))) := by
    unfold y_seen
    rw [set_rp, set_set]
  have hA : Al K G g S (m 2) (R.u 25 (max (m 3) (R.1 25))) := h.u (Or.inr (Or.inl rfl)) (show max (m 3) (R.1 25) ≤ 9 * K by have := h.1.okv; omega)
  have ep : pmS (S.set (m 2) (R.u 25 (max (m 3) (R.1 25)))) = pmS (S.set (m 2) R) := pm_ss rfl
  generalize R.u 25 (max (m 3) (R.1 25)) = X at es hA ep
  have hv := hA.1.okv
  have hk : m 0 = 1 ∨ m 0 = 2 ∨ m 0 = 3 ∨ m 0 = 4 ∨ m 0 = 5 ∨ m 0 = 6 ∨ m 0 = 7 ∨ m 0 = 8 ∨ m 0 = 9 ∨ m 0 = 10 := by omega
  rcases hk with e | e | e | e | e | e | e | e | e | e
  · rw [come_1 e, es]; exact hA.prepared hK (by omega) m3 m5 m6
  · rw [come_2 e, es]
    exact hA.gotPromise hK (by omega) m3 m7 m8 (m11 e) (by rw [ep]; exact (k2 e).1) (k2 e).2
  · rw [come_3 e, es]; exact hA.gotAccept hK (by omega) m3 m5 m7 (k3 e).1 (k3 e).2
  · rw [come_4 e, es]; exact hA.gotAccepted hK hG h7K m3 (k4 e)
  · rw [come_5 e, es, set_rp]
    split
    · rename_i c
      exact hA.chosen hK (by omega) h7K m7 (by rw [← c]; exact k5 e)
    · split
      · exact hA.say (by omega) (by decide) m3 (Nat.zero_le _) (by omega) hv.2.2.1 (fun z => by cases z)
      · exact hA.fin (by omega)
  · rw [come_6 e, es, set_rp]
    split
    · exact hA.help (by omega) m3
    · exact hA.fin (by omega)
  · rw [come_7 e, es, set_rp, set_set]; exact hA.above.fin (by omega)
  · rw [come_8 e, es]; exact hA.gotState hK (by omega) (m12 e).1 (m12 e).2
  · rw [come_9 e, es]; exact hA.gotForward (by omega) (m10 (Or.inr (Or.inr e))) m7
  · rw [come_10 e, es]; exact hA.gotBeat (by omega) m3
