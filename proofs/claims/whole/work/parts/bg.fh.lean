theorem q_dl {ρ : Type} {i : Nat} {l3 l4 l5 l6 l7 l8 l9 l10 : Int32} {kx : vM → Option ρ} {Q : ρ → Prop} (hi : i < 200) : ∀ (d k fl : Nat) (M : vM), k + d = 100 → d < fl → (∀ M', M'.1 = M.1 → (∀ j, j ≠ 45 → M'.2 j = M.2 j) → (∀ x, x < k → M'.2 45 x = M.2 45 x) → (∀ x, k ≤ x → x < 100 → M'.2 45 x = M.2 40 (100 * i + x)) → tr (kx M') Q) → tr (L_X12_deliverAt_114 (nI i) l3 l4 l5 l6 l7 l8 l9 l10 kx fl M (nI k)) Q := by
  intro d
  induction d with
  | zero =>
    intro k fl M h1 h2 g
    obtain ⟨fl, rfl⟩ : ∃ f', fl = f' + 1 := ⟨fl - 1, by omega⟩
    rw [L_X12_deliverAt_114, if_pos (show (100 : Int32) ≤ nI k from nI_le (a := 100) (by omega) (by omega))]
    exact g M rfl (fun _ _ => rfl) (fun _ _ => rfl) (fun x a b => by omega)
  | succ d ih =>
    intro k fl M h1 h2 g
    obtain ⟨fl, rfl⟩ : ∃ f', fl = f' + 1 := ⟨fl - 1, by omega⟩
    rw [L_X12_deliverAt_114, if_neg (show ¬ (100 : Int32) ≤ nI k from nI_ge (b := 100) (by omega) (by decide)), show (100 : Int32) * nI i + nI k = nI (100 * i + k) by rw [show (100 : Int32) = nI 100 from rfl, nI_mul, nI_add], nI_add1]
    refine tr_G (show 100 * i + k < 20100 by omega) (by omega) ?_
    refine tr_S (show k < 100 by omega) (by omega) ?_
    refine ih (k + 1) fl _ (by omega) (by omega) fun M' w1 w2 w3 w4 => g M' w1 (fun j hj => ?_) (fun x hx => ?_) (fun x a b => ?_)
    · rw [w2 j hj]
      funext x
      exact uE_j _ _ _ hj
    · rw [w3 x (by omega)]; exact uE_i _ _ (by omega)
    · by_cases e : x = k
      · subst e
        rw [w3 x (by omega), uE_s]
      · rw [w4 x (by omega) b]; exact uE_j _ _ _ (by decide)
theorem WM_45 {M M' : vM} {S : Sx} (h : WM M S) (h1 : ∀ f, f ≠ 58 → M'.1 f = M.1 f) (h2 : ∀ j, j ≠ 45 → M'.2 j = M.2 j) : WM M' S := by
  have := WM_fl (l := S.fl) h (fun f hf => h1 f (fun q => by subst q; cases hf)) (by rw [h1 53 (by decide)]; exact h.2.1) (fun j _ _ _ q => h2 j q) (fun i hi => RG_c (fun f f1 f2 => h2 f (by omega)) (h.2.2.2.2.2 i hi))
  exact this
theorem s_deliver {K : Nat} {c : vC} {M : vM} {S : Sx} (hW : WC K0 c S) (hM : WM M S) (hI : IvS K S) (hK : K < 600) (a1 : Int32) : ∃ S', Sim (F_X11_deliverAt S.N c a1) (F_X12_deliverAt M a1) S' ∧ IvS (K + 1) S' ∧ S'.1 1 = S.1 1 := by
  obtain ⟨hB, hfl, hTW, _⟩ := iv_bs hI hK
  have hN := hB.n
  have h0 : WM (mW M 0 0) S := WM_0 hM
  have e53 : (mW M 0 0).1 53 = nI S.fl.length := h0.2.1
  rcases ars (n := S.fl.length) (by omega) a1 with hb | ⟨i, hi, rfl⟩
  · refine ⟨S, ⟨-1, ?_, ?_⟩, iv_up hI (Nat.le_succ K), rfl⟩
    · unfold F_X11_deliverAt F_X3_take
      rw [e_look0 hW hb, b2_, oc_n, b2_, oc_n]
      exact tr_some ⟨rfl, hW⟩
    · unfold F_X12_deliverAt
      refine tr_l1 ?_
      by_cases c1 : a1 < 0
      · rw [if_pos c1]; exact tr_some ⟨rfl, h0⟩
      · rw [if_neg c1, e53, if_neg (fun q => by
          have := hb.resolve_left c1
          exact absurd q (Int32.not_lt.mpr this))]
        exact tr_some ⟨rfl, h0⟩
  obtain ⟨g, hg⟩ := hI
  have hmem : S.fl.getD i mgD ∈ S.fl := getD_memM hi
  have hmI := hg.2.2.2.2.2.2.2.2.1 _ hmem
  have hR := h0.2.2.2.2.2 i hi
  have hcl := c_take (N := S.N) hW hfl hi
  generalize S.fl.getD i mgD = m at hmem hmI hR hcl
  have hm7 : m 7 < 65536 := hmI.1.2.2.2.2.2.2.2.2.1.1
  have hg1 : Cn K g (S.setf (S.fl.eraseIdx i)) 9 := by
    refine cn_net hg (fun _ _ _ _ => rfl) rfl rfl rfl rfl ?_ (fun x hx => ?_)
    · show (S.fl.eraseIdx i).length ≤ 200
      rw [er_len hi]; omega
    · have hx' : x ∈ S.fl := List.mem_of_mem_eraseIdx hx
      exact ⟨x, hx', fun _ _ => rfl, (hg.2.2.2.2.2.2.2.2.1 x hx').1.2.2.2.2.2.2.2.2.1⟩
  have hI1 : IvS K (S.setf (S.fl.eraseIdx i)) := ⟨g, hg1⟩
  have hm1 : MgI K g (pmS (S.setf (S.fl.eraseIdx i))) (S.setf (S.fl.eraseIdx i)) m := hmI.m (Nat.le_refl K) (Gw_e (fun _ _ => rfl) rfl rfl) (Ex.refl (fun _ => Nat.le_refl _))
  have hB1 := iv_bs hI1 hK
  have hfl1 := hB1.2.1
  -- the reference up to the removed frame
  have href : ∀ (S2 : Sx) (v : Int32), (∀ M18, WM M18 (S.setf (S.fl.eraseIdx i)) → (m 0 = 8 → M18.1 58 = nI (m 8) ∧ imA (M18.2 45) 0 S.V (S.sta (m 4)) (m 4)) → tr (if (if m 7 = 0 then (0 : Int32) else 1) = 0 then ((mG M18 6 (nI (m 2))).bind fun v19 => if v19 = 0 then (some (M18, nI (m 0))) else ((F_X12_comes M18 (nI (m 0)) (nI (m 1)) (nI (m 2)) (nI (m 3)) (nI (m 4)) (nI (m 5)) (nI (m 6))).bind fun M20 => some (M20, nI (m 0)))) else (lt1 (mW M18 56 (((M18.1 56) + (1 : Int32)))) fun M22 => some (M22, (0 : Int32)))) (fun p => p.2 = v ∧ WM p.1 S2)) → tr (F_X12_deliverAt M (nI i)) (fun p => p.2 = v ∧ WM p.1 S2) := fun S2 v hh => by
    obtain ⟨p1, p2, p3⟩ := hR
    unfold F_X12_deliverAt
    refine tr_l1 ?_
    rw [if_neg (nIn (by omega)), e53, if_pos (nI_lt hi (by omega))]
    have e8 : ∀ f, (8 : Int32) * nI i + nI f = nI (8 * i + f) := fun f => by rw [show (8 : Int32) = nI 8 from rfl, nI_mul, nI_add]
    have p0 := p1 0 (by decide)
    rw [Nat.add_zero] at p0
    rw [show (8 : Int32) * nI i = nI (8 * i) from nI_mul 8 i]
    refine tr_G (show 8 * i < 1608 by omega) (by omega) ?_
    rw [p0, show nI (8 * i) + (1 : Int32) = nI (8 * i + 1) from nI_add _ 1]
    refine tr_G (show 8 * i + 1 < 1608 by omega) (by omega) ?_
    rw [p1 1 (by decide), show nI (8 * i) + (2 : Int32) = nI (8 * i + 2) from nI_add _ 2]
    refine tr_G (show 8 * i + 2 < 1608 by omega) (by omega) ?_
    rw [p1 2 (by decide), show nI (8 * i) + (3 : Int32) = nI (8 * i + 3) from nI_add _ 3]
    refine tr_G (show 8 * i + 3 < 1608 by omega) (by omega) ?_
    rw [p1 3 (by decide), show nI (8 * i) + (4 : Int32) = nI (8 * i + 4) from nI_add _ 4]
    refine tr_G (show 8 * i + 4 < 1608 by omega) (by omega) ?_
    rw [p1 4 (by decide), show nI (8 * i) + (5 : Int32) = nI (8 * i + 5) from nI_add _ 5]
    refine tr_G (show 8 * i + 5 < 1608 by omega) (by omega) ?_
    rw [p1 5 (by decide), show nI (8 * i) + (6 : Int32) = nI (8 * i + 6) from nI_add _ 6]
    refine tr_G (show 8 * i + 6 < 1608 by omega) (by omega) ?_
    rw [p1 6 (by decide), show nI (8 * i) + (7 : Int32) = nI (8 * i + 7) from nI_add _ 7]
    refine tr_G (show 8 * i + 7 < 1608 by omega) (by omega) ?_
    rw [p1 7 (by decide)]
    refine tr_jn ?_
    have key : ∀ s0 : Int32, s0 = (if m 7 = 0 then (0 : Int32) else 1) → tr (L_X12_deliverAt_114 (nI i) (nI (m 0)) (nI (m 1)) (nI (m 2)) (nI (m 3)) (nI (m 4)) (nI (m 5)) (nI (m 6)) s0 (fun (M15 : vM)  => (mG M15 41 (nI i)).bind fun v16 => lt1 (mW M15 58 (v16)) fun M17 => (F_X12_remove M17 (nI i)).bind fun M18 => if s0 = 0 then ((mG M18 6 (nI (m 2))).bind fun v19 => if v19 = 0 then (some (M18, nI (m 0))) else ((F_X12_comes M18 (nI (m 0)) (nI (m 1)) (nI (m 2)) (nI (m 3)) (nI (m 4)) (nI (m 5)) (nI (m 6))).bind fun M20 => some (M20, nI (m 0)))) else (lt1 (mW M18 56 (((M18.1 56) + (1 : Int32)))) fun M22 => some (M22, (0 : Int32)))) fu (mW M 0 0) 0) (fun p => p.2 = v ∧ WM p.1 S2) := fun s0 es0 => by
      refine q_dl (i := i) (by omega) 100 0 fu (mW M 0 0) (by omega) (show 100 < 32768 by decide) fun M15 y1 y2 y3 y4 => ?_
      refine tr_G (show i < 201 by omega) (by omega) ?_
      rw [l1_]
      have k41 : M15.2 41 i = if m 0 = 8 then nI (m 8) else -1 := by rw [y2 41 (by decide)]; exact p2
      have w17 : WM (mW M15 58 (M15.2 41 i)) S := WM_45 h0 (fun f hf => by rw [mW_1 _ _ _ hf, y1]) (fun j hj => by rw [mW_2, y2 j hj])
      have f58 : (mW M15 58 (M15.2 41 i)).1 58 = M15.2 41 i := mW_s _ _ _
      have f45 : (mW M15 58 (M15.2 41 i)).2 45 = M15.2 45 := by rw [mW_2]
      generalize mW M15 58 (M15.2 41 i) = M17 at w17 f58 f45 ⊢
      refine tr_bind (r_remove hB.1 w17 hfl hi) fun M18 q => ?_
      obtain ⟨w18, g45, g58⟩ := q
      rw [es0]
      refine hh M18 w18 (fun e => ⟨by rw [g58, f58, k41, if_pos e], ?_⟩)
      rw [g45, f45]
      have := imA_sh (f := M15.2 45) (a := 0) (p3 e) hB.1.V (fun x hx => by rw [Nat.zero_add, y4 x (by omega) hx])
      exact this
    by_cases c7 : m 7 = 0
    · rw [c7, if_pos (show nI 0 ≤ (0 : Int32) from Int32.le_refl _)]
      exact key 0 (by rw [if_pos c7])
    · rw [if_neg (show ¬ nI (m 7) ≤ (0 : Int32) from nI_ge (a := 0) (by omega) (by omega))]
      exact key 1 (by rw [if_neg c7])
  by_cases c7 : m 7 = 0
  · by_cases c6 : (S.rp (m 2)).1 6 = 0
    · refine ⟨S.setf (S.fl.eraseIdx i), ⟨nI (m 0), ?_, ?_⟩, iv_up hI1 (Nat.le_succ K), rfl⟩
      · unfold F_X11_deliverAt
        refine tr_b2 hcl fun c1 v q => ?_
        obtain ⟨k, e, hk, w⟩ := q
        have e' : v = some k := e
        obtain ⟨f1, f2, f3, f4, f5, f6, f7⟩ := WC_fr w rfl
        have f100 : cI c1 100 k = nI (m 0) := f1 0 (by decide)
        have f102 : cI c1 102 k = nI (m 2) := f1 2 (by decide)
        rw [e', oc_s, gd_ hk]
        unfold F_X1_isSpoilt
        rw [f6 c7, if_pos rfl, zb0, b2_, if_pos rfl, f102]
        rw [show F_X11_upNumber S.N c1 (nI (m 2)) = some (c1, none) from e_up0 (S := S.setf (S.fl.eraseIdx i)) w (show m 2 < S.N from hmI.1.2.2.2.1) (show S.N < 2 ^ 31 by omega) c6, b2_, oc_n]
        exact tr_some ⟨f100, WC_drop w⟩
      · refine href _ _ (fun M18 w18 _ => ?_)
        rw [if_pos (by rw [if_pos c7])]
        refine tr_Gr' (r := m 2) (j := 6) w18 (by have := hmI.1.2.2.2.1; omega) rfl ?_
        rw [show ((S.setf (S.fl.eraseIdx i)).rp (m 2)).1 6 = 0 from c6, if_pos (show nI 0 = (0 : Int32) from rfl)]
        exact tr_some ⟨rfl, w18⟩
    · have c6' : (S.rp (m 2)).1 6 = 1 := hB.u hmI.1.2.2.2.1 c6
      have hok := iv_ok hI1 hK (show m 2 < S.N from hmI.1.2.2.2.1) c6'
      obtain ⟨o1, o2, o3, o4, o5, o6, o7, o8, o9, o10⟩ := hok
      obtain ⟨m1, m2', m3, m4, m5⟩ := iv_msg hg1 hm1 hK
      have hlg := iv_lg hI1
      refine ⟨y_comes (S.setf (S.fl.eraseIdx i)) m, ⟨nI (m 0), ?_, ?_⟩, iv_comes ⟨g, hg1, hm1⟩ hK c6', n_comes _ _⟩
      · unfold F_X11_deliverAt
        refine tr_b2 hcl fun c1 v q => ?_
        obtain ⟨k, e, hk, w⟩ := q
        have e' : v = some k := e
        obtain ⟨f1, f2, f3, f4, f5, f6, f7⟩ := WC_fr w rfl
        have f100 : cI c1 100 k = nI (m 0) := f1 0 (by decide)
        have f102 : cI c1 102 k = nI (m 2) := f1 2 (by decide)
        rw [e', oc_s, gd_ hk]
        unfold F_X1_isSpoilt
        rw [f6 c7, if_pos rfl, zb0, b2_, if_pos rfl, f102]
        rw [show F_X11_upNumber S.N c1 (nI (m 2)) = some (c1, some (m 2)) from e_up (S := S.setf (S.fl.eraseIdx i)) w (show m 2 < S.N from hmI.1.2.2.2.1) (show S.N < 2 ^ 31 by omega) c6', b2_, oc_s, gd_ (show m 2 < S.N from hmI.1.2.2.2.1)]
        have hL : LgC (some (k, m), []) (S.setf (S.fl.eraseIdx i)) := ⟨hlg.2.1, hlg.2.2.1, fun k' m' e8 z8 => by
          injection e8 with e8
          injection e8 with _ e8
          subst e8
          exact (hm1.1.2.2.2.2.2.2.2.2.2.2.2 z8).1⟩
        refine tr_bind (c_receive (N := S.N) hB1.1.1 hB1.2.2.1 w rfl c6' hfl1 o1 o2 o4 o5 m1 m2' hL hB1.2.2.2.2.2.2.2 o8 o9 (fun s z1 z2 => (hB1.2.2.2.2.2.2.1 (m 2) s hmI.1.2.2.2.1 z1 z2).1) m3 m4 m5) fun c2 w2 => ?_
        exact tr_some ⟨f100, WC_drop w2⟩
      · refine href _ _ (fun M18 w18 h8 => ?_)
        rw [if_pos (by rw [if_pos c7])]
        refine tr_Gr' (r := m 2) (j := 6) w18 (by have := hmI.1.2.2.2.1; omega) rfl ?_
        rw [show ((S.setf (S.fl.eraseIdx i)).rp (m 2)).1 6 = 1 from c6', if_neg (show ¬ nI 1 = (0 : Int32) by decide)]
        refine tr_bind (r_comes hB1.1.1 w18 hfl1 o1 m1 hlg.1 h8 o8 o9 m4 m5) fun M20 w20 => ?_
        exact tr_some ⟨rfl, w20⟩
  · refine ⟨(S.setf (S.fl.eraseIdx i)).u 56 (S.1 56 + 1), ⟨0, ?_, ?_⟩, iv_up ?_ (Nat.le_succ K), va_up_ne S.1 (k := 56) (j := 1) (S.1 56 + 1) (by decide)⟩
    · unfold F_X11_deliverAt
      refine tr_b2 hcl fun c1 v q => ?_
      obtain ⟨k, e, hk, w⟩ := q
      have e' : v = some k := e
      obtain ⟨f1, f2, f3, f4, f5, f6, f7⟩ := WC_fr w rfl
      rw [e', oc_s, gd_ hk]
      unfold F_X1_isSpoilt
      rw [(f7 (by omega)).1, if_neg (show ¬ nI ((m 7 - 1) / 8) = (-1 : Int32) from fun q => by
        have hh := nIn (n := (m 7 - 1) / 8) (by omega)
        rw [q] at hh
        exact absurd (by decide : (-1 : Int32) < 0) hh), zb1, b2_, if_neg (by decide), l1_]
      obtain ⟨hd, a1, a2, a3, a4, p, t, hp⟩ := w.2.2.1
      obtain ⟨b1, b2, b3, b4, b5, b6, b7⟩ := hp
      rw [a4, nI_add1]
      have zz := zw_I (c := c1) (f := 306) (i := 0) (v := nI ((S.setf (S.fl.eraseIdx i)).1 56 + 1)) (Or.inr (by decide))
      have i6 : cI (uI c1 306 0 (nI ((S.setf (S.fl.eraseIdx i)).1 56 + 1))) 306 0 = nI ((S.setf (S.fl.eraseIdx i)).1 56 + 1) := uI_s _ _ _ _
      have io : ∀ f x, f ≠ 306 → cI (uI c1 306 0 (nI ((S.setf (S.fl.eraseIdx i)).1 56 + 1))) f x = cI c1 f x := fun f x hf => uI_f _ _ _ hf
      have ip : ∀ f x, cP (uI c1 306 0 (nI ((S.setf (S.fl.eraseIdx i)).1 56 + 1))) f x = cP c1 f x := fun f x => uI_P _ _ _ _ _ _
      have iq : cQ (uI c1 306 0 (nI ((S.setf (S.fl.eraseIdx i)).1 56 + 1))) = cQ c1 := (iw_K c1 306 0 (nI ((S.setf (S.fl.eraseIdx i)).1 56 + 1))).2.2.2.2.2.2
      generalize uI c1 306 0 (nI ((S.setf (S.fl.eraseIdx i)).1 56 + 1)) = c2 at zz i6 io ip iq ⊢
      have e56 : ((S.setf (S.fl.eraseIdx i)).u 56 (S.1 56 + 1)).1 56 = S.1 56 + 1 := va_up_self S.1 56 (S.1 56 + 1)
      have eo : ∀ f, f ≠ 56 → ((S.setf (S.fl.eraseIdx i)).u 56 (S.1 56 + 1)).1 f = S.1 f := fun f hf => va_up_ne _ _ hf
      have est : ((S.setf (S.fl.eraseIdx i)).u 56 (S.1 56 + 1)).sta = S.sta := by
        funext j
        show stN (((S.setf (S.fl.eraseIdx i)).u 56 (S.1 56 + 1)).1 2) S.tb S.lg j = stN (S.1 2) S.tb S.lg j
        rw [eo 2 (by decide)]
      refine tr_some ⟨rfl, WC_nw w zz (fun f hf => eo f (by omega)) rfl rfl rfl rfl ⟨show HdA K0 c2 _ from ⟨fun k m e => (by cases e), fun a q e => (by cases e)⟩, ?_, ?_, ?_, ?_, p, t, fun j hj => by rw [iq]; exact b1 j hj, by rw [ip]; exact b2, b3, b4, b5, b6, fun j hj => ?_⟩⟩
      · rw [io 303 0 (by decide)]; exact a1
      · rw [io 304 0 (by decide), eo 54 (by decide)]; exact a2
      · rw [io 305 0 (by decide), eo 55 (by decide)]; exact a3
      · rw [i6, e56]; rfl
      · rw [est, show ((S.setf (S.fl.eraseIdx i)).u 56 (S.1 56 + 1)).V = S.V from eo 2 (by decide)]
        exact (b7 j hj).c zz.1 (fun f f1 f2 => io f _ (by omega)) (ip _ _) (ip _ _)
    · refine href _ _ (fun M18 w18 _ => ?_)
      rw [if_neg (by rw [if_neg c7]; decide), l1_, w18.1 56 rfl, nI_add1]
      exact tr_some ⟨rfl, WM_f w18 (Or.inr (Or.inr rfl))⟩
    · refine iv_net hI1 (fun f a b d => va_up_ne _ _ d) rfl rfl rfl rfl hfl1 (fun x hx => ?_)
      have := hg1.2.2.2.2.2.2.2.2.1 x hx
      exact ⟨x, hx, fun _ _ => rfl, this.1.2.2.2.2.2.2.2.2.1⟩
