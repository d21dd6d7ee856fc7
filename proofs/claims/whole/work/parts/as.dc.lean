/-! ===== looks; crash, turn, tick ===== -/
def y_gi (S : Sx) : Nat → Nat → Nat → Nat
  | 0, _, a => a
  | d + 1, k, a => y_gi S d (k + 1) (if (S.rp k).1 6 = 0 then a else max a ((S.rp k).1 7))
def y_ws (S : Sx) : Nat → Nat → Nat → Nat
  | 0, _, a => a
  | d + 1, k, a => y_ws S d (k + 1) (if (S.se k).1 46 = 2 then a + 1 else a)
theorem q_look9 {ρ : Type} {a1 : Int32} {M : vM} {S : Sx} {kx : vM → Int32 → Option ρ} {Q : ρ → Prop} (h : WM M S) (hB : Bs S) (h7 : ∀ r, r < S.N → (S.rp r).1 7 < 2 ^ 30) : ∀ (d k a fl : Nat), k + d = S.N → d < fl → a < 2 ^ 30 → tr (kx M (nI (y_gi S d k a))) Q → tr (L_X12_lookAt_9 a1 kx fl M (nI a) (nI k)) Q := by
  have hN := hB.n
  have e1 : M.1 1 = nI S.N := h.1 1 rfl
  intro d
  induction d with
  | zero =>
    intro k a fl h1 h2 h3 g
    obtain ⟨fl, rfl⟩ : ∃ f', fl = f' + 1 := ⟨fl - 1, by omega⟩
    rw [L_X12_lookAt_9, e1, if_pos (nI_le (by omega) (by omega))]; exact g
  | succ d ih =>
    intro k a fl h1 h2 h3 g
    obtain ⟨fl, rfl⟩ : ∃ f', fl = f' + 1 := ⟨fl - 1, by omega⟩
    have hk : k < S.N := by omega
    have b7 := h7 k hk
    have b6 := hB.2.1 k hk
    rw [L_X12_lookAt_9, e1, if_neg (nI_ge hk (by omega)), nI_add1]
    refine tr_Gr' h (by omega) (by decide) ?_
    refine tr_eq (b := 0) (by omega) (by decide) (fun c1 => ?_) (fun c1 => ?_)
    · refine ih (k + 1) a fl (by omega) (by omega) h3 ?_
      rw [y_gi, if_pos c1] at g; exact g
    · rw [y_gi, if_neg c1] at g
      refine tr_Gr' h (by omega) (by decide) ?_
      refine tr_le (by omega) (by omega) (fun c2 => ?_) (fun c2 => ?_)
      · rw [Nat.max_eq_left c2] at g
        exact ih (k + 1) a fl (by omega) (by omega) h3 g
      · rw [Nat.max_eq_right (by omega)] at g
        refine tr_Gr' h (by omega) (by decide) ?_
        exact ih (k + 1) _ fl (by omega) (by omega) b7 g
theorem q_look58 {ρ : Type} {a1 l9 : Int32} {M : vM} {S : Sx} {kx : vM → Int32 → Option ρ} {Q : ρ → Prop} (h : WM M S) (hB : Bs S) : ∀ (d k a fl : Nat), k + d = 16 → d < fl → tr (kx M (nI (y_ws S d k a))) Q → tr (L_X12_lookAt_58 a1 l9 kx fl M (nI a) (nI k)) Q := by
  intro d
  induction d with
  | zero =>
    intro k a fl h1 h2 g
    obtain ⟨fl, rfl⟩ : ∃ f', fl = f' + 1 := ⟨fl - 1, by omega⟩
    rw [L_X12_lookAt_58, if_pos (show (16 : Int32) ≤ nI k from nI_le (a := 16) (by omega) (by omega))]; exact g
  | succ d ih =>
    intro k a fl h1 h2 g
    obtain ⟨fl, rfl⟩ : ∃ f', fl = f' + 1 := ⟨fl - 1, by omega⟩
    have hk : k < 16 := by omega
    have b := hB.i hk
    rw [L_X12_lookAt_58, if_neg (show ¬ (16 : Int32) ≤ nI k from nI_ge (b := 16) hk (by decide)), show nI k + (1 : Int32) = nI (k + 1) from nI_add k 1]
    refine tr_Gs h hk (by decide) ?_
    refine tr_eq (b := 2) (by omega) (by decide) (fun c1 => ?_) (fun c1 => ?_)
    · rw [y_ws, if_pos c1] at g
      rw [nI_add1]
      exact ih (k + 1) _ fl (by omega) (by omega) g
    · rw [y_ws, if_neg c1] at g
      rw [show nI a + (0 : Int32) = nI a from Int32.add_zero _]
      exact ih (k + 1) _ fl (by omega) (by omega) g
theorem q_gi {ρ : Type} {mm : Kp} {c : vC} {S : Sx} {kx : vC → Int32 → Option ρ} {Q : ρ → Prop} (h : WC mm c S) (hB : Bs S) (h7 : ∀ r, r < S.N → (S.rp r).1 7 < 2 ^ 30) : ∀ (d k a fl : Nat), k + d = S.N → d < fl → a < 2 ^ 30 → tr (kx c (nI (y_gi S d k a))) Q → tr (L_X11_greatestIndex_4 S.N kx fl c (nI a) (nI k)) Q := by
  have hN := hB.n
  intro d
  induction d with
  | zero =>
    intro k a fl h1 h2 h3 g
    obtain ⟨fl, rfl⟩ : ∃ f', fl = f' + 1 := ⟨fl - 1, by omega⟩
    rw [L_X11_greatestIndex_4, if_pos (show Int32.ofNat S.N ≤ nI k from nI_le (by omega) (by omega))]; exact g
  | succ d ih =>
    intro k a fl h1 h2 h3 g
    obtain ⟨fl, rfl⟩ : ∃ f', fl = f' + 1 := ⟨fl - 1, by omega⟩
    have hk : k < S.N := by omega
    have b7 := h7 k hk
    have b6 := hB.2.1 k hk
    have e6 := (h.2.2.2.2 k hk).1.2.1 711 6 rfl
    rw [L_X11_greatestIndex_4, if_neg (show ¬ Int32.ofNat S.N ≤ nI k from nI_ge hk (by omega)), nI_add1, ix_n hk (by omega), Option.bind_some, e6]
    refine tr_eq (b := 0) (by omega) (by decide) (fun c1 => ?_) (fun c1 => ?_)
    · rw [y_gi, if_pos c1] at g
      exact ih (k + 1) a fl (by omega) (by omega) h3 g
    · rw [y_gi, if_neg c1] at g
      rw [Option.bind_some, WC_7 h hk (by omega), mx_n (by omega) (by omega)]
      exact ih (k + 1) _ fl (by omega) (by omega) (by omega) g
theorem q_ws {ρ : Type} {mm : Kp} {N : Nat} {c : vC} {S : Sx} {kx : vC → Int32 → Option ρ} {Q : ρ → Prop} (h : WC mm c S) (hB : Bs S) : ∀ (d k a fl : Nat), k + d = 16 → d < fl → tr (kx c (nI (y_ws S d k a))) Q → tr (L_X11_waitingSessions_4 N kx fl c (nI a) (nI k)) Q := by
  intro d
  induction d with
  | zero =>
    intro k a fl h1 h2 g
    obtain ⟨fl, rfl⟩ : ∃ f', fl = f' + 1 := ⟨fl - 1, by omega⟩
    rw [L_X11_waitingSessions_4, if_pos (show (16 : Int32) ≤ nI k from nI_le (a := 16) (by omega) (by omega))]; exact g
  | succ d ih =>
    intro k a fl h1 h2 g
    obtain ⟨fl, rfl⟩ : ∃ f', fl = f' + 1 := ⟨fl - 1, by omega⟩
    have hk : k < 16 := by omega
    have b := hB.i hk
    obtain ⟨s1, _⟩ := h.2.2.2.1 k hk
    rw [L_X11_waitingSessions_4, if_neg (show ¬ (16 : Int32) ≤ nI k from nI_ge (b := 16) hk (by decide)), show nI k + (1 : Int32) = nI (k + 1) from nI_add k 1, ix_n hk (by decide), Option.bind_some, s1]
    refine tr_eq (b := 2) (by omega) (by decide) (fun c1 => ?_) (fun c1 => ?_)
    · rw [y_ws, if_pos c1] at g
      rw [nI_add1]
      exact ih (k + 1) _ fl (by omega) (by omega) g
    · rw [y_ws, if_neg c1] at g
      exact ih (k + 1) _ fl (by omega) (by omega) g
theorem s_look {c : vC} {M : vM} {S : Sx} (hW : WC K0 c S) (hM : WM M S) (hB : Bs S) (h7 : ∀ r, r < S.N → (S.rp r).1 7 < 2 ^ 30) (a1 : Int32) : Sim (F_X11_lookAt S.N c a1) (F_X12_lookAt M a1) S := by
  have h0 : WM (mW M 0 0) S := WM_0 hM
  have hN := hB.n
  obtain ⟨w1, ⟨w2, w3, w4⟩, ⟨_, n1, n2, n3, n4, _⟩, _, _⟩ := id hW
  have mf : ∀ f, sf f = true → (mW M 0 0).1 f = nI (S.1 f) := h0.1
  unfold F_X11_lookAt
  have ref : ∀ v, tr (if a1 = 0 then (some ((mW M 0 0), ((mW M 0 0).1 1))) else if a1 = 1 then (some ((mW M 0 0), ((mW M 0 0).1 2))) else if a1 = 2 then (some ((mW M 0 0), ((mW M 0 0).1 3))) else if a1 = 3 then (some ((mW M 0 0), ((mW M 0 0).1 53))) else if a1 = 4 then (some ((mW M 0 0), ((mW M 0 0).1 54))) else if a1 = 5 then (some ((mW M 0 0), ((mW M 0 0).1 55))) else if a1 = 6 then (some ((mW M 0 0), nI (y_gi S S.N 0 0))) else if a1 = 7 then (some ((mW M 0 0), nI (y_ws S 16 0 0))) else if a1 = 8 then (some ((mW M 0 0), ((mW M 0 0).1 11))) else if a1 = 9 then (some ((mW M 0 0), ((mW M 0 0).1 56))) else (some ((mW M 0 0), (-1 : Int32)))) (fun p => p.2 = v ∧ WM p.1 S) → tr (F_X12_lookAt M a1) (fun p => p.2 = v ∧ WM p.1 S) := by
    intro v hv
    unfold F_X12_lookAt
    refine tr_l1 ?_
    refine q_look9 h0 hB h7 S.N 0 0 fu (by omega) (by show _ < 32768; omega) (by decide) ?_
    exact q_look58 h0 hB 16 0 0 fu rfl (by decide) hv
  by_cases c0 : a1 = 0
  · refine ⟨nI S.N, ?_, ref _ ?_⟩
    · rw [if_pos c0]; exact tr_some ⟨rfl, hW⟩
    · rw [if_pos c0]; exact tr_some ⟨mf 1 rfl, h0⟩
  by_cases c1 : a1 = 1
  · refine ⟨nI S.V, ?_, ref _ ?_⟩
    · rw [if_neg c0, if_pos c1]; exact tr_some ⟨w2, hW⟩
    · rw [if_neg c0, if_pos c1]; exact tr_some ⟨mf 2 rfl, h0⟩
  by_cases c2 : a1 = 2
  · refine ⟨nI S.L, ?_, ref _ ?_⟩
    · rw [if_neg c0, if_neg c1, if_pos c2]; exact tr_some ⟨w3, hW⟩
    · rw [if_neg c0, if_neg c1, if_pos c2]; exact tr_some ⟨mf 3 rfl, h0⟩
  by_cases c3 : a1 = 3
  · refine ⟨nI S.fl.length, ?_, ref _ ?_⟩
    · rw [if_neg c0, if_neg c1, if_neg c2, if_pos c3]; exact tr_some ⟨n1, hW⟩
    · rw [if_neg c0, if_neg c1, if_neg c2, if_pos c3]; exact tr_some ⟨h0.2.1, h0⟩
  by_cases c4 : a1 = 4
  · refine ⟨nI (S.1 54), ?_, ref _ ?_⟩
    · rw [if_neg c0, if_neg c1, if_neg c2, if_neg c3, if_pos c4]; exact tr_some ⟨n2, hW⟩
    · rw [if_neg c0, if_neg c1, if_neg c2, if_neg c3, if_pos c4]; exact tr_some ⟨mf 54 rfl, h0⟩
  by_cases c5 : a1 = 5
  · refine ⟨nI (S.1 55), ?_, ref _ ?_⟩
    · rw [if_neg c0, if_neg c1, if_neg c2, if_neg c3, if_neg c4, if_pos c5]; exact tr_some ⟨n3, hW⟩
    · rw [if_neg c0, if_neg c1, if_neg c2, if_neg c3, if_neg c4, if_pos c5]; exact tr_some ⟨mf 55 rfl, h0⟩
  by_cases c6 : a1 = 6
  · refine ⟨nI (y_gi S S.N 0 0), ?_, ref _ ?_⟩
    · rw [if_neg c0, if_neg c1, if_neg c2, if_neg c3, if_neg c4, if_neg c5, if_pos c6]
      unfold F_X11_greatestIndex
      refine tr_b2 (P := fun p => p.2 = nI (y_gi S S.N 0 0) ∧ WC K0 p.1 S) ?_ (fun c' v hv => tr_some hv)
      exact q_gi hW hB h7 S.N 0 0 fu (by omega) (by show _ < 32768; omega) (by decide) (tr_some ⟨rfl, hW⟩)
    · rw [if_neg c0, if_neg c1, if_neg c2, if_neg c3, if_neg c4, if_neg c5, if_pos c6]; exact tr_some ⟨rfl, h0⟩
  by_cases c7 : a1 = 7
  · refine ⟨nI (y_ws S 16 0 0), ?_, ref _ ?_⟩
    · rw [if_neg c0, if_neg c1, if_neg c2, if_neg c3, if_neg c4, if_neg c5, if_neg c6, if_pos c7]
      unfold F_X11_waitingSessions
      refine tr_b2 (P := fun p => p.2 = nI (y_ws S 16 0 0) ∧ WC K0 p.1 S) ?_ (fun c' v hv => tr_some hv)
      exact q_ws hW hB 16 0 0 fu rfl (by decide) (tr_some ⟨rfl, hW⟩)
    · rw [if_neg c0, if_neg c1, if_neg c2, if_neg c3, if_neg c4, if_neg c5, if_neg c6, if_pos c7]; exact tr_some ⟨rfl, h0⟩
  by_cases c8 : a1 = 8
  · refine ⟨nI S.T, ?_, ref _ ?_⟩
    · rw [if_neg c0, if_neg c1, if_neg c2, if_neg c3, if_neg c4, if_neg c5, if_neg c6, if_neg c7, if_pos c8]; exact tr_some ⟨w4, hW⟩
    · rw [if_neg c0, if_neg c1, if_neg c2, if_neg c3, if_neg c4, if_neg c5, if_neg c6, if_neg c7, if_pos c8]; exact tr_some ⟨mf 11 rfl, h0⟩
  by_cases c9 : a1 = 9
  · refine ⟨nI (S.1 56), ?_, ref _ ?_⟩
    · rw [if_neg c0, if_neg c1, if_neg c2, if_neg c3, if_neg c4, if_neg c5, if_neg c6, if_neg c7, if_neg c8, if_pos c9]; exact tr_some ⟨n4, hW⟩
    · rw [if_neg c0, if_neg c1, if_neg c2, if_neg c3, if_neg c4, if_neg c5, if_neg c6, if_neg c7, if_neg c8, if_pos c9]; exact tr_some ⟨mf 56 rfl, h0⟩
  · refine ⟨-1, ?_, ref _ ?_⟩
    · rw [if_neg c0, if_neg c1, if_neg c2, if_neg c3, if_neg c4, if_neg c5, if_neg c6, if_neg c7, if_neg c8, if_neg c9]; exact tr_some ⟨rfl, hW⟩
    · rw [if_neg c0, if_neg c1, if_neg c2, if_neg c3, if_neg c4, if_neg c5, if_neg c6, if_neg c7, if_neg c8, if_neg c9]; exact tr_some ⟨rfl, h0⟩
/-! crash after -/
def y_due (S : Sx) (r v : Nat) : Sx := S.set r ((S.rp r).u 35 v)
theorem WC_due {mm : Kp} {c : vC} {S : Sx} {r v : Nat} (h : WC mm c S) : WC mm (uI c 205 r (nI v)) (y_due S r v) := by
  have h' : WC mm c (S.set r (S.rp r)) := by rw [set_id]; exact h
  have eo : ∀ k, k ≠ 205 → cI (uI c 205 r (nI v)) k r = cI c k r := fun k hk => uI_f _ _ _ hk
  have z : zc r (uI c 205 r (nI v)) c := zc_I rfl
  refine WC_zc h' z (fun hr => ?_) (fun hr h6 => ?_)
  · obtain ⟨⟨a1, a2, a3, a4, a5⟩, b, d⟩ := (WC_a h' hr).1
    refine ⟨⟨by rw [eo _ (by decide)]; exact a1, by rw [eo _ (by decide)]; exact a2, by rw [eo _ (by decide)]; exact a3, by rw [eo _ (by decide)]; exact a4, by rw [eo _ (by decide)]; exact a5⟩, fun k j hk => ?_, d⟩
    by_cases e : k = 205
    · subst e
      injection hk with hk
      subst hk
      rw [uI_s, u_s]
    · have hj := sca_r hk
      have : j ≠ 35 := fun q => by
        subst q
        unfold sca at hk
        split at hk <;> first | exact e rfl | exact absurd hk (by decide)
      rw [eo k e, u_n _ _ this]; exact b k j hk
  · obtain ⟨x1, x2, x3, x4, x5, x6, x7⟩ := (WC_a h' hr).2 h6
    refine ⟨fun k j hk => ?_, fun k j hk => ?_, fun x => ?_, ?_, x5.c z.1 (eo _ (by decide)) rfl rfl rfl, x6.c (fun k _ _ => eo _ (by omega)) rfl rfl rfl rfl, x7.c z.1 (fun k _ _ => eo _ (by omega)) (fun _ _ _ => rfl) rfl rfl rfl rfl⟩
    · have q := sci_r hk
      have : k ≠ 205 := fun e => by subst e; cases hk
      rw [eo k this, u_n _ _ (by omega)]; exact x1 k j hk
    · have q := pci_r hk
      rw [u_n _ _ (by omega)]; exact (x2 k j hk).c z.1
    · rw [eo _ (by decide)]; exact x3 x
    · rw [eo _ (by decide)]; exact x4
theorem s_crash {c : vC} {M : vM} {S : Sx} (hW : WC K0 c S) (hM : WM M S) (hB : Bs S) (a1 a2 : Int32) : ∃ S', Sim (F_X11_crashAfter S.N c a1 a2) (F_X12_crashAfter M a1 a2) S' ∧ (S' = S ∨ ∃ r v, r < S.N ∧ (S.rp r).1 6 = 1 ∧ (v ≤ 1000 ∨ v = y_no) ∧ S' = y_due S r v) := by
  have hN := hB.n
  have h0 : WM (mW M 0 0) S := WM_0 hM
  unfold F_X11_crashAfter F_X12_crashAfter
  rcases ars (n := S.N) (by omega) a1 with hb | ⟨r, hr, rfl⟩
  · refine ⟨S, ⟨0, ?_, ?_⟩, Or.inl rfl⟩
    · rw [e_upX hb, b2_, oc_n]
      exact tr_z0 (tr_some ⟨rfl, hW⟩)
    · refine tr_l1 ?_
      rw [r_isUp0 h0 hb, b2_, if_pos rfl]
      exact tr_z0 (tr_some ⟨rfl, h0⟩)
  by_cases h6 : (S.rp r).1 6 = 0
  · refine ⟨S, ⟨0, ?_, ?_⟩, Or.inl rfl⟩
    · rw [e_up0 hW hr (by omega) h6, b2_, oc_n]
      exact tr_z0 (tr_some ⟨rfl, hW⟩)
    · refine tr_l1 ?_
      rw [r_isUp h0 hN hr (by omega), b2_, if_pos h6, if_pos rfl]
      exact tr_z0 (tr_some ⟨rfl, h0⟩)
  have h6' := hB.u hr h6
  have h0' : WM (mW M 0 0) (S.set r (S.rp r)) := by rw [set_id]; exact h0
  by_cases c1 : a2 ≤ 1000
  · by_cases c2 : 0 ≤ a2
    · have hn : ¬ a2 < 0 := Int32.not_lt.mpr c2
      obtain ⟨k, hk, rfl⟩ := nI_of hn
      have hk2 : k ≤ 1000 := by
        by_cases q : k ≤ 1000
        · exact q
        · exact absurd c1 (show ¬ nI k ≤ nI 1000 from nI_ge (by omega) (by omega))
      refine ⟨y_due S r k, ⟨1, ?_, ?_⟩, Or.inr ⟨r, k, hr, h6', Or.inl hk2, rfl⟩⟩
      · rw [e_up hW hr (by omega) h6', b2_, oc_s, gd_ hr, if_pos c1, if_pos c2]
        exact tr_l1 (tr_z1 (tr_some ⟨rfl, WC_due hW⟩))
      · refine tr_l1 ?_
        rw [r_isUp h0 hN hr (by omega), b2_, if_neg h6, if_neg (by decide), if_pos c1, if_pos c2]
        refine tr_Sr k h0' (by omega) (by decide) (by decide) (by decide) (by decide) fun M1 w1 => ?_
        exact tr_z1 (tr_some ⟨rfl, w1⟩)
    · refine ⟨y_due S r y_no, ⟨1, ?_, ?_⟩, Or.inr ⟨r, y_no, hr, h6', Or.inr rfl, rfl⟩⟩
      · rw [e_up hW hr (by omega) h6', b2_, oc_s, gd_ hr, if_pos c1, if_neg c2]
        refine tr_l1 (tr_z1 (tr_some ⟨rfl, ?_⟩))
        exact WC_due (v := y_no) hW
      · refine tr_l1 ?_
        rw [r_isUp h0 hN hr (by omega), b2_, if_neg h6, if_neg (by decide), if_pos c1, if_neg c2]
        refine tr_Sr y_no h0' (by omega) (by decide) (by decide) (by decide) (by decide) fun M1 w1 => ?_
        exact tr_z1 (tr_some ⟨rfl, w1⟩)
  · refine ⟨S, ⟨0, ?_, ?_⟩, Or.inl rfl⟩
    · rw [e_up hW hr (by omega) h6', b2_, oc_s, gd_ hr, if_neg c1]
      exact tr_z0 (tr_some ⟨rfl, hW⟩)
    · refine tr_l1 ?_
      rw [r_isUp h0 hN hr (by omega), b2_, if_neg h6, if_neg (by decide), if_neg c1]
      exact tr_z0 (tr_some ⟨rfl, h0⟩)
