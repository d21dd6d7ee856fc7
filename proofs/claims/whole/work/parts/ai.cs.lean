/-! ===== the class gathers pieces, takes a state over, receives ===== -/
theorem WC_pi' {mm : Kp} {c c' : vC} {S : Sx} {r : Nat} {R R' : Rp} (h : WC mm c (S.set r R)) (z : zc r c' c) (eI : ∀ k, ¬ (500 ≤ k ∧ k < 600) → cI c' k r = cI c k r) (eP : cP c' = cP c) (eR : ∀ f, f ≠ 500 → f ≠ 0 → cR c' f r = cR c f r) (eQ : cQ c' = cQ c) (eJ : cJ c' = cJ c) (f1 : ∀ f, f ≠ 43 → f ≠ 44 → R'.1 f = R.1 f) (f2 : R'.2 = R.2) (g : r < S.N → R'.1 6 = 1 → PiA c' S r R') : WC mm c' (S.set r R') := by
  refine WC_zc h z (fun hr => ?_) (fun hr h6 => ?_)
  · obtain ⟨⟨a1, a2, a3, a4, a5⟩, b, d⟩ := (WC_a h hr).1
    refine ⟨⟨by rw [eI _ (by decide)]; exact a1, by rw [eI _ (by decide)]; exact a2, by rw [eI _ (by decide)]; exact a3, by rw [eI _ (by decide)]; exact a4, by rw [eI _ (by decide)]; exact a5⟩, fun k j hk => ?_, fun a ha => by rw [eJ, f2]; exact d a ha⟩
    have hj := sca_r hk
    have hk' : k = 711 ∨ k = 204 ∨ k = 205 := by
      unfold sca at hk
      split at hk <;> first | decide | (cases hk; done)
    rw [eI k (by omega), f1 j (by omega) (by omega)]; exact b k j hk
  · have h6' : R.1 6 = 1 := by rw [← f1 6 (by decide) (by decide)]; exact h6
    obtain ⟨w1, w2, w3, w4, w5, w6, w7⟩ := (WC_a h hr).2 h6'
    refine ⟨fun k j hk => ?_, fun k j hk => ?_, fun x => ?_, ?_, w5.c z.1 (eI _ (by decide)) (by rw [eQ]) (by rw [f2]) rfl, g hr h6, w7.c z.1 (fun k k1 k2 => eI _ (by omega)) (fun f k1 k2 => eR f (by omega) (by omega)) (by rw [eQ]) (f1 7 (by decide) (by decide)) (f1 8 (by decide) (by decide)) (f1 9 (by decide) (by decide))⟩
    · have q := sci_r hk
      rw [eI k (by omega), f1 j (by omega) (by omega)]; exact w1 k j hk
    · have q := pci_r hk
      rw [eP, f1 j (by omega) (by omega)]; exact (w2 k j hk).c z.1
    · rw [f1 12 (by decide) (by decide)] at x
      rw [eI _ (by decide), f1 11 (by decide) (by decide)]; exact w3 x
    · rw [eI _ (by decide), f2]; exact w4
theorem sb8 {b : Nat} (h : b < 256) : (sb_b b).toInt8.toInt32 = sb_b b := by
  have : ∀ b : Fin 256, (sb_b b.1).toInt8.toInt32 = sb_b b.1 := by decide +kernel
  exact this ⟨b, h⟩
theorem q_g60 {ρ : Type} {N r k a e s0 : Nat} {l : List Nat} {kx : vC → Option ρ} {Q : ρ → Prop} {c0 : vC} (hb : Bts l) (hs0 : s0 ≤ 256) (he : e ≤ l.length) (hl : l.length ≤ 256) (hp : cP c0 107 k = some a) (ha : BtA c0 a l) (K : ∀ c', zc r c' c0 → (∀ f i, cI c' f i = cI c0 f i) → cP c' = cP c0 → (∀ f, f ≠ 500 → cR c' f r = cR c0 f r) → cQ c' = cQ c0 → cJ c' = cJ c0 → (∀ j, s0 ≤ j → j < e → cR c' 500 r j = sb_b (byA l j)) → (∀ j, (j < s0 ∨ e ≤ j) → cR c' 500 r j = cR c0 500 r j) → tr (kx c') Q) : ∀ (d i fl : Nat) (c : vC), i + d = max e s0 → s0 ≤ i → d < fl → zc r c c0 → (∀ f i, cI c f i = cI c0 f i) → cP c = cP c0 → cK c = cK c0 → cN c = cN c0 → cD c = cD c0 → (∀ f, f ≠ 500 → cR c f r = cR c0 f r) → cQ c = cQ c0 → cJ c = cJ c0 → (∀ j, s0 ≤ j → j < i → j < e → cR c 500 r j = sb_b (byA l j)) → (∀ j, (j < s0 ∨ e ≤ j) → cR c 500 r j = cR c0 500 r j) → tr (L_X5_gather_60 N r k (nI e) kx fl c (nI i)) Q := by
  intro d
  induction d with
  | zero =>
    intro i fl c h1 h2 h3 z eI eP eK eN eD eR eQ eJ g1 g2
    obtain ⟨fl, rfl⟩ : ∃ f', fl = f' + 1 := ⟨fl - 1, by omega⟩
    rw [L_X5_gather_60, if_pos (nI_le (by omega) (by omega))]
    exact K c z eI eP eR eQ eJ (fun j a b => g1 j a (by omega) b) g2
  | succ d ih =>
    intro i fl c h1 h2 h3 z eI eP eK eN eD eR eQ eJ g1 g2
    obtain ⟨fl, rfl⟩ : ∃ f', fl = f' + 1 := ⟨fl - 1, by omega⟩
    obtain ⟨a1, a2, a3, a4⟩ := ha
    have hie : i < e := by omega
    rw [L_X5_gather_60, if_neg (nI_ge hie (by omega)), l1_, eP, hp, Option.bind_some, dGv (by rw [eK]; exact a2) (by rw [eN, a3]; omega) (by omega), Option.bind_some, eD, a4 i (by omega), sb8 (byA_lt hb i), cSv (show i < 256 by omega) (by omega), Option.bind_some, nI_add1]
    refine ih (i + 1) fl _ (by omega) (by omega) (by omega) ((zc_R rfl).tr z) eI eP eK eN eD (fun f hf => (uR_f _ _ _ _ hf).trans (eR f hf)) eQ eJ (fun j b1 b2 b3 => ?_) (fun j hj => ?_)
    · by_cases ej : j = i
      · subst ej; rw [uR_s]
      · rw [uR_j _ _ _ _ ej]; exact g1 j b1 (by omega) b3
    · rw [uR_j _ _ _ _ (by omega)]; exact g2 j hj
theorem tb_or {a k j : Nat} : (a ||| 2 ^ k).testBit j = (a.testBit j || decide (k = j)) := by
  rw [Nat.testBit_or, Nat.testBit_two_pow]
theorem c_gather {mm : Kp} {N : Nat} {c : vC} {S : Sx} {r k : Nat} {m : Mg} {R : Rp} (hC : Cx S) (h : WC mm c (S.set r R)) (hr : r < S.N) (h6 : R.1 6 = 1) (hO : OkR S R) (hm : mm.1 = some (k, m)) (hm8 : m 0 = 8) (hs : m 4 < 29990) (hk : m 8 < 4) (hkm : m 8 < y_many S (m 4)) (c1 : R.1 7 < m 4) (c2 : R.1 43 ≤ m 4) : tr (F_X5_gather N c r k) (fun p => p.2 = (if y_gs R (m 4) (m 8) = 2 ^ y_many S (m 4) - 1 then (1 : Int32) else 0) ∧ WC mm p.1 (S.set r (y_gs1 R (m 4) (m 8)))) := by
  have h43 := okv hO 43 (by decide)
  have h44 : R.1 44 < 16 := hO.1 44
  have hel := enc_len hC (i := m 4) (by omega)
  have hF := WC_fr h hm
  obtain ⟨p8, a, ea, ha⟩ := hF.2.2.2.2.1 hm8
  have ha' : BtA c a (S.enc (m 4)) := ha
  have hPi := WC_pi h hr h6
  have hmany : y_many S (m 4) = ((S.enc (m 4)).length + 63) / 64 := rfl
  have hlk : 64 * m 8 < (S.enc (m 4)).length := by omega
  unfold F_X5_gather
  refine tr_l1 ?_
  rw [ea, oc_s]
  refine tr_l1 ?_
  rw [Option.bind_some, gd_ ha'.2.1, ha'.2.2.1, if_pos (show Int32.ofNat (S.enc (m 4)).length ≤ (256 : Int32) from nI_le (b := 256) (by omega) (by decide))]
  have e104 := fr_i (f := 4) h hm (by decide)
  refine tr_jnK (fun M => WC mm M (S.set r ((R.u 43 (m 4)).u 44 (if R.1 43 < m 4 then 0 else R.1 44)))) (fun M w => ?_) (fun kk hkk => ?_)
  · have g6 : ((R.u 43 (m 4)).u 44 (if R.1 43 < m 4 then 0 else R.1 44)).1 6 = 1 := h6
    have g43 : ((R.u 43 (m 4)).u 44 (if R.1 43 < m 4 then 0 else R.1 44)).1 43 = m 4 := rfl
    have g44 : ((R.u 43 (m 4)).u 44 (if R.1 43 < m 4 then 0 else R.1 44)).1 44 = (if R.1 43 < m 4 then 0 else R.1 44) := rfl
    have hg16 : (if R.1 43 < m 4 then 0 else R.1 44) < 16 := by split <;> omega
    have eg : y_gs1 R (m 4) (m 8) = ((R.u 43 (m 4)).u 44 (if R.1 43 < m 4 then 0 else R.1 44)).u 44 ((if R.1 43 < m 4 then 0 else R.1 44) ||| 2 ^ m 8) := by
      unfold y_gs1 y_gs
      have : ∀ (X : Rp) (x y : Nat), (X.u 44 x).u 44 y = X.u 44 y := fun X x y => by
        have := u_uu X 44 44 x x y
        have q : va_up (va_up X.1 44 x) 44 y = va_up X.1 44 y := by
          funext z
          by_cases e : z = 44
          · subst e; rw [va_up_self, va_up_self]
          · rw [va_up_ne _ _ e, va_up_ne _ _ e, va_up_ne _ _ e]
        show (va_up (va_up X.1 44 x) 44 y, X.2) = (va_up X.1 44 y, X.2)
        rw [q]
      rw [this]
    have eg2 : y_gs R (m 4) (m 8) = (if R.1 43 < m 4 then 0 else R.1 44) ||| 2 ^ m 8 := rfl
    rw [eg, eg2]
    generalize (R.u 43 (m 4)).u 44 (if R.1 43 < m 4 then 0 else R.1 44) = R1 at w g6 g43 g44 ⊢
    generalize (if R.1 43 < m 4 then 0 else R.1 44) = g0 at g44 hg16 ⊢
    obtain ⟨q1, q2, q3⟩ := WC_pi w hr g6
    rw [g43] at q1 q3
    rw [g44] at q2 q3
    rw [if_neg (by omega)] at q1
    obtain ⟨e0, q503, qle, qb⟩ := q3 (by omega)
    have hF1 := WC_fr w hm
    obtain ⟨p81, a', ea', ha1⟩ := hF1.2.2.2.2.1 hm8
    have ha1' : BtA M a' (S.enc (m 4)) := ha1
    have hend : min (S.enc (m 4)).length (64 * m 8 + 64) ≤ (S.enc (m 4)).length := Nat.min_le_left _ _
    unfold F_X1_pieceStart F_X1_pieceEnd
    rw [b2_, p81, show nI (m 8) * (64 : Int32) = nI (64 * m 8) from by rw [Nat.mul_comm]; exact nI_mul _ 64, l1_, ea', oc_s, l1_, Option.bind_some, gd_ ha1'.2.1]
    unfold F_X1_pieceStart
    rw [b2_, b2_, p81, show nI (m 8) * (64 : Int32) = nI (64 * m 8) from by rw [Nat.mul_comm]; exact nI_mul _ 64, ha1'.2.2.1, show nI (64 * m 8) + (64 : Int32) = nI (64 * m 8 + 64) from nI_add _ 64, show mnI (Int32.ofNat (S.enc (m 4)).length) (nI (64 * m 8 + 64)) = nI (min (S.enc (m 4)).length (64 * m 8 + 64)) from mn_n (by omega) (by omega), mx0 (by omega)]
    refine q_g60 (l := S.enc (m 4)) (a := a') (s0 := 64 * m 8) (c0 := M) (Bts.encSt _ _ _) (by omega) hend (by omega) ea' ha1' (fun c3 z eI eP eR eQ eJ v1 v2 => ?_) (max (min (S.enc (m 4)).length (64 * m 8 + 64)) (64 * m 8) - 64 * m 8) (64 * m 8) fu M (by omega) (Nat.le_refl _) (by show _ < 32768; omega) zc.refl (fun _ _ => rfl) rfl rfl rfl rfl (fun _ _ => rfl) rfl rfl (fun j b1 b2 b3 => by omega) (fun _ _ => rfl)
    refine tr_l1 (tr_l1 (tr_l1 ?_))
    rw [eI 502 r, q2, eI 108 k, p81, orb (by omega), uI_f _ _ _ (show 503 ≠ 502 by decide), eI 503 r, q503, mx_n (by omega) (by omega)]
    have zz : zc r (uI (uI c3 502 r (nI (g0 ||| 2 ^ m 8))) 503 r (nI (max e0 (min (S.enc (m 4)).length (64 * m 8 + 64))))) M := (zc_I rfl).tr ((zc_I rfl).tr z)
    have fI : ∀ f, ¬ (500 ≤ f ∧ f < 600) → cI (uI (uI c3 502 r (nI (g0 ||| 2 ^ m 8))) 503 r (nI (max e0 (min (S.enc (m 4)).length (64 * m 8 + 64))))) f r = cI M f r := fun f hf => by rw [uI_f _ _ _ (by omega), uI_f _ _ _ (by omega)]; exact eI f r
    have w9 : WC mm (uI (uI c3 502 r (nI (g0 ||| 2 ^ m 8))) 503 r (nI (max e0 (min (S.enc (m 4)).length (64 * m 8 + 64))))) (S.set r (R1.u 44 (g0 ||| 2 ^ m 8))) := by
      refine WC_pi' w zz fI eP (fun f h1 h2 => eR f h1) eQ eJ (fun f h1 h2 => u_n _ _ h2) rfl (fun _ _ => ⟨?_, ?_, fun _ => ?_⟩)
      · rw [show (R1.u 44 (g0 ||| 2 ^ m 8)).1 43 = m 4 from g43, if_neg (by omega), uI_f _ _ _ (by decide), uI_f _ _ _ (by decide), eI 501 r]; exact q1
      · rw [uI_f _ _ _ (by decide), uI_s]; rfl
      · rw [show (R1.u 44 (g0 ||| 2 ^ m 8)).1 43 = m 4 from g43, show (R1.u 44 (g0 ||| 2 ^ m 8)).1 44 = g0 ||| 2 ^ m 8 from u_s _ _ _]
        refine ⟨max e0 (min (S.enc (m 4)).length (64 * m 8 + 64)), uI_s _ _ _ _, by omega, fun j hj hbit => ?_⟩
        rw [tb_or] at hbit
        by_cases ej : m 8 = j
        · subst ej
          refine ⟨by omega, fun x x1 x2 x3 => ?_⟩
          exact v1 x x1 (by omega)
        · rw [decide_eq_false ej, Bool.or_false] at hbit
          obtain ⟨b1, b2⟩ := qb j hj hbit
          refine ⟨by omega, fun x x1 x2 x3 => ?_⟩
          have := v2 x (by omega)
          exact this.trans (b2 x x1 x2 x3)
    have k502 : cI (uI (uI c3 502 r (nI (g0 ||| 2 ^ m 8))) 503 r (nI (max e0 (min (S.enc (m 4)).length (64 * m 8 + 64))))) 502 r = nI (g0 ||| 2 ^ m 8) := by rw [uI_f _ _ _ (by decide), uI_s]
    generalize uI (uI c3 502 r (nI (g0 ||| 2 ^ m 8))) 503 r (nI (max e0 (min (S.enc (m 4)).length (64 * m 8 + 64)))) = c9 at w9 k502 ⊢
    have hF9 := WC_fr w9 hm
    obtain ⟨_, a9, ea9, ha9⟩ := hF9.2.2.2.2.1 hm8
    have ha9' : BtA c9 a9 (S.enc (m 4)) := ha9
    unfold F_X1_piecesOf
    have hm9 : y_many S (m 4) < 9 := by omega
    have hp2 : 2 ^ y_many S (m 4) < 2 ^ 9 := Nat.pow_lt_pow_right (by decide) hm9
    rw [ea9, Option.bind_some, gd_ ha9'.2.1, b2_, ha9'.2.2.1, show Int32.ofNat (S.enc (m 4)).length = nI (S.enc (m 4)).length from rfl, show nI (S.enc (m 4)).length + (64 : Int32) = nI ((S.enc (m 4)).length + 64) from nI_add _ 64, show nI ((S.enc (m 4)).length + 64) - (1 : Int32) = nI ((S.enc (m 4)).length + 63) from nI_p1 _, show nI ((S.enc (m 4)).length + 63) / (64 : Int32) = nI (y_many S (m 4)) from nI_div (b := 64) (by omega) (by decide), shl1 hm9, show nI (2 ^ y_many S (m 4)) - (1 : Int32) = nI (2 ^ y_many S (m 4) - 1) from nI_sub (b := 1) (Nat.one_le_two_pow), k502]
    have hgl : g0 ||| 2 ^ m 8 < 16 := Nat.or_lt_two_pow (n := 4) hg16 (Nat.pow_lt_pow_right (by decide) hk)
    refine tr_eq (by omega) (by omega) (fun c5 => by rw [if_pos c5]; exact tr_z1 (tr_some ⟨rfl, w9⟩)) (fun c5 => by rw [if_neg c5]; exact tr_z0 (tr_some ⟨rfl, w9⟩))
  · rw [e104, hPi.1]
    by_cases c0 : R.1 43 < m 4
    · have dropit : tr ((F_X5_drop N c r).bind fun M7 => lt1 (uI M7 501 r ((cI M7 104 k))) fun M8 => (kk M8)) (fun p => p.2 = (if y_gs R (m 4) (m 8) = 2 ^ y_many S (m 4) - 1 then (1 : Int32) else 0) ∧ WC mm p.1 (S.set r (y_gs1 R (m 4) (m 8)))) := by
        unfold F_X5_drop
        refine tr_bind (P := fun c' => c' = uI (uI (uI c 501 r (-1)) 502 r 0) 503 r 0) (tr_l1 (tr_l1 (tr_l1 (tr_some rfl)))) fun c' hc' => ?_
        have wd := WC_pi0 h
        rw [← hc'] at wd
        have k503 : cI c' 503 r = 0 := by rw [hc', uI_s]
        have k502 : cI c' 502 r = 0 := by rw [hc', uI_f _ _ _ (by decide), uI_s]
        refine tr_l1 ?_
        rw [fr_i (f := 4) wd hm (by decide)]
        refine hkk _ ?_
        rw [if_pos c0]
        refine WC_pi' wd (zc_I rfl) (fun f hf => uI_f _ _ _ (by omega)) rfl (fun _ _ _ => rfl) rfl rfl (fun f h1 h2 => by rw [u_n _ _ h2, u_n _ _ h1, u_n _ _ h2, u_n _ _ h1]) rfl (fun _ _ => ⟨?_, ?_, fun _ => ⟨0, ?_, Nat.zero_le _, fun j hj hb => ?_⟩⟩)
        · rw [uI_s]
          show nI (m 4) = if m 4 = 0 then -1 else nI (m 4)
          rw [if_neg (by omega)]
        · rw [uI_f _ _ _ (by decide), k502]; rfl
        · rw [uI_f _ _ _ (by decide), k503]; rfl
        · exact absurd (show Nat.testBit 0 j = true from hb) (by rw [Nat.zero_testBit]; decide)
      by_cases c3 : R.1 43 = 0
      · rw [if_pos c3, if_neg (show ¬ nI (m 4) ≤ (-1 : Int32) from fun q => nIn (show m 4 < 2 ^ 31 by omega) (Int32.lt_of_le_of_lt q (by decide)))]
        exact dropit
      · rw [if_neg c3, if_neg (nI_ge c0 (by omega))]
        exact dropit
    · have e43 : R.1 43 = m 4 := by omega
      rw [if_neg (show ¬ R.1 43 = 0 by omega), e43, if_pos (Int32.le_refl _)]
      refine hkk _ ?_
      rw [if_neg c0, u_eq (f := 43) e43, u_eq (f := 44) rfl]
      exact h
theorem c_onState {mm : Kp} {N : Nat} {c : vC} {S : Sx} {r k : Nat} {m : Mg} {R : Rp} (hC : Cx S) (hTW : TbW S.tb) (h : WC mm c (S.set r R)) (hr : r < S.N) (h6 : R.1 6 = 1) (hO : OkR S R) (hm : mm.1 = some (k, m)) (hm8 : m 0 = 8) (hs : m 4 < 29990) (hk : m 8 < 4) (hkm : m 8 < y_many S (m 4)) (hW : SeW S) : tr (F_X7_onState N c r k) (fun c' => WC mm c' (y_gotState (S.set r R) r (m 4) (m 8))) := by
  have h7 := hO.2.2.2.2.1
  have h43 := okv hO 43 (by decide)
  have h44 : R.1 44 < 16 := hO.1 44
  have hV := hC.V
  have z := hO.z
  have hr9 : r < 9 := by have := hC.N; omega
  have hel := enc_len hC (i := m 4) (by omega)
  have hg16 := gs_lt (s := m 4) h44 hk
  have hPi := (WC_pi h hr h6).1
  unfold F_X7_onState
  rw [WC_ix h hr h6, fr_i (f := 4) h hm (by decide), hPi]
  refine tr_le (by omega) (by omega) (fun c1 => by rw [gs_0 (Or.inl c1)]; exact tr_some h) (fun c1 => ?_)
  have main : R.1 43 ≤ m 4 → tr (b2 (F_X5_gather N c r k) fun M1 v2 => if v2 = 0 then (some M1) else ((F_X7_startPayload N M1 r ((4 : Int32))).bind fun M3 => (F_X0_putAll N M3 (1) 500 r ((0 : Int32)) ((cI M3 503 r))).bind fun M4 => b2 (F_X7_note N M4 r) fun M5 v6 => if v6 = 0 then (some M5) else (b2 (F_X0_take N M5 (1)) fun M7 v8 => (F_X10_takeFrom N M7 r (1)).bind fun M9 => lt1 (uP M9 713 r none) fun M10 => b2 (F_X7_checkpointIfDue N M10 r) fun M11 v12 => if v12 = 0 then (some M11) else ((F_X4_follow N M11 r).bind fun M13 => (F_X7_tellAll N M13 r).bind fun M14 => some M14)))) (fun c' => WC mm c' (y_gotState (S.set r R) r (m 4) (m 8))) := by
    intro c2
    have cn : ¬ (m 4 ≤ R.1 7 ∨ m 4 < R.1 43) := by omega
    refine tr_b2 (c_gather hC h hr h6 hO hm hm8 hs hk hkm c1 c2) fun M1 v hv => ?_
    obtain ⟨e1, w1⟩ := hv
    dsimp only at e1 w1
    rw [e1]
    refine tr_i1 (fun c3 => by rw [gs_1 cn c3]; exact tr_some w1) (fun c3 => ?_)
    have o1 : OkR S (y_gs1 R (m 4) (m 8)) := (hO.u (f := 43) rfl (show m 4 < 65536 by omega)).u (f := 44) rfl hg16
    have g6 : (y_gs1 R (m 4) (m 8)).1 6 = 1 := h6
    have g43 : (y_gs1 R (m 4) (m 8)).1 43 = m 4 := rfl
    have g44 : (y_gs1 R (m 4) (m 8)).1 44 = y_gs R (m 4) (m 8) := u_s _ _ _
    obtain ⟨_, _, q3⟩ := WC_pi w1 hr g6
    rw [g43, g44] at q3
    obtain ⟨e0, q503, qle, qb⟩ := q3 (by omega)
    have hmany : y_many S (m 4) = ((S.enc (m 4)).length + 63) / 64 := rfl
    have hbit : ∀ j, j < y_many S (m 4) → (y_gs R (m 4) (m 8)).testBit j = true := fun j hj => by
      rw [c3, Nat.testBit_two_pow_sub_one]; exact decide_eq_true hj
    have hlen : e0 = (S.enc (m 4)).length := by
      have := (qb (y_many S (m 4) - 1) (by omega) (hbit _ (by omega))).1
      omega
    have hrow : ∀ j, j < (S.enc (m 4)).length → cR M1 500 r j = sb_b (byA (S.enc (m 4)) j) := fun j hj => (qb (j / 64) (by omega) (hbit _ (by omega))).2 j (by omega) (by omega) hj
    rw [e_startPay', Option.bind_some]
    have w2 := WC_2 (f := 2) (i := 1) (v := 0) w1 (by decide)
    have f503 : cI (sB (uI M1 2 1 0) 1 [by8 4]) 503 r = nI (S.enc (m 4)).length := by rw [sB_I _ _ _ _ (by decide), uI_f _ _ _ (by decide), q503, hlen]
    have hput := e_putAll (N := N) (c := uI M1 2 1 0) (i := 1) (f := 500) (k := r) (s := 0) (e := (S.enc (m 4)).length) (L := 256) (l := [by8 4]) (rd := fun j => cR M1 500 r j) (fun l' => rfl) (fun l' j _ hj => by
      show cG (sB (uI M1 2 1 0) 1 l') 500 r (nI j) = _
      rw [cGv (show j < 256 by omega) (by omega), sB_R _ _ _ _ _ (by decide)]; rfl) (Nat.zero_le _) (by omega) (by decide) (by show 1 + _ ≤ 2048; omega)
    rw [nI_0, Nat.sub_zero, flatMap_eq (g := fun j => [byA (S.enc (m 4)) j]) (fun j _ hj => by rw [hrow j (by omega), by8_sbb (byA_lt (show Bts (S.enc (m 4)) from Bts.encSt _ _ _) j)]), range_all] at hput
    rw [f503, hput, Option.bind_some, show [by8 4] ++ S.enc (m 4) = y_pay S.V S.tb S.sta (4, 0, 0, 0, m 4) from rfl]
    have hn : NbOk (4, 0, 0, 0, m 4) := ⟨(by decide : 1 ≤ 4), (by decide : 4 ≤ 5), (by decide : 0 < 2 ^ 31), (by decide : 0 < 2 ^ 31), (by omega : m 4 < 2 ^ 31)⟩
    refine tr_b2 (c_note' (n := (4, 0, 0, 0, m 4)) hC w2 hr g6 o1.2.1 o1.2.2.1 hn) fun M5 v hv => ?_
    obtain ⟨e5, w5, k5⟩ := hv
    dsimp only at e5 w5 k5
    rw [e5]
    refine tr_if (fun c4 => by rw [gs_2 cn c3 c4]; exact tr_some w5) (fun c4 => ?_)
    obtain ⟨R', eR, f1, f2, f3, f4, f5⟩ := note_t c4
    rw [eR] at w5
    obtain ⟨i5, n5⟩ := k5 c4
    have rd5 : rdA M5 (y_pay S.V S.tb S.sta (4, 0, 0, 0, m 4)) 0 := ⟨i5, by rw [n5, uI_s]; rfl, by decide⟩
    have r6 : R'.1 6 = 1 := (f1 6 (by decide) (by decide) (by decide)).trans g6
    rw [e_take rd5, b2_]
    have w6 : WC mm (uI M5 2 1 (nI (0 + 1))) (S.set r R') := WC_2 w5 (by decide)
    have rd6 := rdA_u (m := 0 + 1) rd5 (by decide)
    have hdr : Dr (y_pay S.V S.tb S.sta (4, 0, 0, 0, m 4)) (0 + 1) (S.enc (m 4)) := fun j hj => by
      show byA (4 :: S.enc (m 4)) (0 + 1 + j) = byA (S.enc (m 4)) j
      rw [show 0 + 1 + j = j + 1 by omega]; rfl
    refine tr_bind (P := fun c' => WC mm c' (S.set r (rst R' (m 4)))) ?_ fun M9 w9 => ?_
    · refine tr_imp (c_takeFrom (R := R') hC hTW (WC_a w6 hr).1.1.1 rd6 (by decide) hs hdr) fun c' hc' => ?_
      exact WC_sk w6 hc'.1 (fun f h7 h8 h9 => by unfold rst; rw [u_n _ _ h9, u_n _ _ h8, u_n _ _ h7]) rfl (fun _ _ => hc'.2)
    · refine tr_l1 ?_
      have w10 := WC_acc0 w9
      have hJ' : JR R' := note_J o1.2.1 o1.2.2.1 (rec_len hC hn) f1 f2 f4 f5
      have f10 : R'.1 10 = (y_gs1 R (m 4) (m 8)).1 10 := f1 10 (by decide) (by decide) (by decide)
      have f32 : R'.1 32 = (y_gs1 R (m 4) (m 8)).1 32 := f1 32 (by decide) (by decide) (by decide)
      have f43 : R'.1 43 = (y_gs1 R (m 4) (m 8)).1 43 := f1 43 (by decide) (by decide) (by decide)
      have o10 := okv o1 10 (by decide)
      have o32 := okv o1 32 (by decide)
      have o43 := okv o1 43 (by decide)
      refine tr_b2 (c_ckp (R := ((rst R' (m 4)).u 11 0).u 12 0) hC w10 hr r6 (show JR R' from hJ') ⟨(show m 4 < 2 ^ 30 by omega), Nat.le_refl (m 4), (show m 4 ≤ m 4 + S.V by omega), (show R'.1 10 < 2 ^ 30 by omega), (show 0 < 2 ^ 30 by decide), z⟩ (show R'.1 32 < 2 ^ 30 by omega)) fun M8 v hv => ?_
      obtain ⟨e8, w8⟩ := hv
      dsimp only at e8 w8
      rw [e8]
      refine tr_if (fun c5 => by rw [gs_3 cn c3 c4 eR c5]; exact tr_some w8) (fun c5 => ?_)
      obtain ⟨R3, e3, g1, g2, g3, g4⟩ := ckp_t c5
      rw [gs_4 cn c3 c4 eR c5 e3]
      rw [e3] at w8
      refine tr_bind (c_follow w8) fun M11 w11 => ?_
      have x6 : (y_follow R3).1 6 = 1 := (g1 6 (by decide) (by decide) (by decide) (by decide) (by decide)).trans r6
      have x7 : (y_follow R3).1 7 = m 4 := (g1 7 (by decide) (by decide) (by decide) (by decide) (by decide)).trans rfl
      have x43 : (y_follow R3).1 43 = R'.1 43 := (g1 43 (by decide) (by decide) (by decide) (by decide) (by decide)).trans rfl
      have xq : (y_follow R3).2.1 = R.2.1 := g2.trans f3
      exact tr_bind (c_tell hC w11 hr x6 (by rw [x7]; omega) (by rw [x43]; omega) ⟨by rw [xq]; exact hO.2.2.2.1.1, fun q hq => hO.2.2.2.1.2 q (by rw [← xq]; exact hq)⟩ hW) fun M12 w12 => tr_some w12
  by_cases c0 : R.1 43 = 0
  · rw [if_pos c0, if_neg (show ¬ nI (m 4) < (-1 : Int32) from fun q => nIn (show m 4 < 2 ^ 31 by omega) (Int32.lt_trans q (by decide)))]
    exact main (by omega)
  · rw [if_neg c0]
    exact tr_lt (by omega) (by omega) (fun c2 => by rw [gs_0 (Or.inr c2)]; exact tr_some h) (fun c2 => main c2)
