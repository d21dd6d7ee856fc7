/-- q is a disk of 4096 longs that holds the bytes dk -/
def JD (S : vS) (sz q : Nat) (dk : Nat → Nat) : Prop := q < sz ∧ vK S q = 22 ∧ vN S q = 4096 ∧ ∀ a, a < 32768 → jb (vJ S q (a / 8)) (a % 8) = dk a
theorem JD.fr {S S1 : vS} {sz sz1 q : Nat} {dk : Nat → Nat} {A : Nat → Prop} (D : JD S sz q dk) (g : ag S sz S1 A) (hz : sz ≤ sz1) (hq : ¬ A q) : JD S1 sz1 q dk := by
  obtain ⟨a1, a2, a3, a4⟩ := D
  obtain ⟨b1, b2, b3⟩ := g q a1
  obtain ⟨-, -, -, b4, -⟩ := b3 hq
  exact ⟨by omega, b1.trans a2, b2.trans a3, fun a ha => by rw [b4]; exact a4 a ha⟩
/-- h is a Journal with the disk q and the image g -/
def JO (S : vS) (sz h q g : Nat) : Prop := h < sz ∧ vK S h = 3 ∧ vP S 200 h = some q ∧ vP S 201 h = some g
theorem JO.fr {S S1 : vS} {sz sz1 h q g : Nat} {A : Nat → Prop} (D : JO S sz h q g) (e : ag S sz S1 A) (hz : sz ≤ sz1) (hq : ¬ A h) : JO S1 sz1 h q g := by
  obtain ⟨a1, a2, a3, a4⟩ := D
  obtain ⟨b1, b2, b3⟩ := e h a1
  obtain ⟨-, b5, -⟩ := b3 hq
  exact ⟨by omega, b1.trans a2, (b5 200).trans a3, (b5 201).trans a4⟩
theorem JD.put {S : vS} {sz q a v : Nat} {dk : Nat → Nat} (D : JD S sz q dk) (ha : a < 32768) (hv : v < 256) : JD (sJ S q (a / 8) ((vJ S q (a / 8) &&& ((255 <<< ((nI (56 - 8 * (a % 8))).toInt64 &&& 63)) ^^^ (-1))) ||| ((nI v).toInt64 <<< ((nI (56 - 8 * (a % 8))).toInt64 &&& 63)))) sz q (va_up dk a v) := by
  obtain ⟨a1, a2, a3, a4⟩ := D
  refine ⟨a1, a2, a3, fun b hb => ?_⟩
  by_cases e : b / 8 = a / 8
  · rw [e, vJs, jb_set _ hv (by omega) (by omega)]
    by_cases e2 : b % 8 = a % 8
    · have : b = a := by omega
      subst this
      rw [if_pos rfl, va_up_self]
    · have : b ≠ a := fun q => e2 (by rw [q])
      rw [if_neg e2, va_up_ne _ _ this, ← a4 b hb, e]
  · have : b ≠ a := fun q => e (by rw [q])
    rw [vJi e, va_up_ne _ _ this]
    exact a4 b hb

set_option maxRecDepth 100000 in
set_option maxHeartbeats 4000000 in
/-- Journal.setByte -/
theorem m_X2_setByte {E : vE} {S : vS} {sz : Nat} {h q g a v : Nat} {dk : Nat → Nat} (J : JO S sz h q g) (D : JD S sz q dk) (ha : a < 32768) (hv : v < 256) : vi_Met E yX2_setByte cX2_setByte 5 none 0 0 0 [.ref (h), .int (nI a), .int (nI v)] S sz (fun r S1 z1 => r = none ∧ z1 = sz ∧ JD S1 sz q (va_up dk a v) ∧ ag S sz S1 (fun b => b = q)) := by
  refine vi_met (by decide) (Nat.le_of_ble_eq_true rfl) ?_
  intro X C
  refine vi_iload_n C dX2_setByte_0 rfl rfl ?_
  refine vi_iconst (v := 3) C dX2_setByte_1 rfl (by decide) ?_
  refine vi_ishr C dX2_setByte_2 rfl ?_
  refine vi_istore_n C dX2_setByte_3 rfl (by decide) ?_
  rw [show nI a >>> ((3 : Int32) &&& 31) = nI (a / 8) from pk_shrN (n := a) (by omega) _ 3 (by decide)]
  refine vi_iload_n C dX2_setByte_4 rfl rfl ?_
  refine vi_if_lt (t' := 58) C dX2_setByte_5 rfl (by decide) (fun hc5 => ?_) (fun hc5 => ?_)
  · exact absurd hc5 (nI_pos (n := a / 8) (by omega))
  · refine vi_iload_n C dX2_setByte_8 rfl rfl ?_
    refine vi_aload_n C dX2_setByte_9 rfl rfl ?_
    refine vi_getr (i := 200) C dX2_setByte_10 rfl fX2_9 J.2.1 rfl rfl J.2.2.1 ?_
    refine vi_alen C dX2_setByte_13 rfl (by rw [D.2.1]; decide) (by rw [D.2.1]; decide) ?_
    refine vi_icmp_ge (t' := 58) C dX2_setByte_14 rfl (by decide) (fun hc14 => ?_) (fun hc14 => ?_)
    · exact absurd hc14 (by rw [D.2.2.1]; exact nI_ge (a := a / 8) (b := 4096) (by omega) (by omega))
    · refine vi_bipush (v := 56) C dX2_setByte_17 rfl (by decide) ?_
      refine vi_bipush (v := 8) C dX2_setByte_19 rfl (by decide) ?_
      refine vi_iload_n C dX2_setByte_21 rfl rfl ?_
      refine vi_bipush (v := 7) C dX2_setByte_22 rfl (by decide) ?_
      refine vi_iand C dX2_setByte_24 rfl ?_
      refine vi_imul C dX2_setByte_25 rfl ?_
      refine vi_isub C dX2_setByte_26 rfl ?_
      refine vi_istore C dX2_setByte_27 rfl (by decide) ?_
      rw [show (56 : Int32) - 8 * (nI a &&& 7) = nI (56 - 8 * (a % 8)) from by rw [pk_andN (n := a) (by omega) 3 rfl, show (8 : Int32) = nI 8 from rfl, pk_mul, show (56 : Int32) = nI 56 from rfl, pk_sub (by omega)]]
      refine vi_aload_n C dX2_setByte_29 rfl rfl ?_
      refine vi_getr (i := 200) C dX2_setByte_30 rfl fX2_9 J.2.1 rfl rfl J.2.2.1 ?_
      refine vi_iload_n C dX2_setByte_33 rfl rfl ?_
      refine vi_aload_n C dX2_setByte_34 rfl rfl ?_
      refine vi_getr (i := 200) C dX2_setByte_35 rfl fX2_9 J.2.1 rfl rfl J.2.2.1 ?_
      refine vi_iload_n C dX2_setByte_38 rfl rfl ?_
      refine vi_laload C dX2_setByte_39 rfl D.2.1 (by rw [D.2.2.1]; exact vp_in_nI (by omega) (by omega)) ?_
      refine vi_ldc2 C dX2_setByte_40 rfl kX2_97 ?_
      refine vi_iload C dX2_setByte_43 rfl rfl ?_
      refine vi_lshl C dX2_setByte_45 rfl ?_
      refine vi_ldc2 C dX2_setByte_46 rfl kX2_99 ?_
      refine vi_lxor C dX2_setByte_49 rfl ?_
      refine vi_land C dX2_setByte_50 rfl ?_
      refine vi_iload_n C dX2_setByte_51 rfl rfl ?_
      refine vi_i2l C dX2_setByte_52 rfl ?_
      refine vi_iload C dX2_setByte_53 rfl rfl ?_
      refine vi_lshl C dX2_setByte_55 rfl ?_
      refine vi_lor C dX2_setByte_56 rfl ?_
      refine vi_lastore C dX2_setByte_57 rfl D.2.1 (by rw [D.2.2.1]; exact vp_in_nI (by omega) (by omega)) ?_
      exact vi_return C dX2_setByte_58 rfl (by decide) (by decide) (by
          rw [nI_clamp (by omega)]
          exact ⟨rfl, rfl, D.put ha hv, ag.sJ⟩)

/-- the bytes of l, which begins at s0, from at to e; what is elsewhere stays -/
def plD (dk : Nat → Nat) (l : List Nat) (f e s0 : Nat) : Nat → Nat := fun a => if f ≤ a ∧ a < e then byA l (a - s0) else dk a
theorem plD_up (dk : Nat → Nat) (l : List Nat) {f e s0 : Nat} (h : f ≤ e) : va_up (plD dk l f e s0) e (byA l (e - s0)) = plD dk l f (e + 1) s0 := by
  funext a
  unfold plD
  by_cases q : a = e
  · subst q
    rw [va_up_self, if_pos ⟨h, by omega⟩]
  · rw [va_up_ne _ _ q]
    by_cases c : f ≤ a ∧ a < e
    · rw [if_pos c, if_pos ⟨c.1, by omega⟩]
    · rw [if_neg c, if_neg (fun z => c ⟨z.1, by omega⟩)]
theorem plD_0 (dk : Nat → Nat) (l : List Nat) (f s0 : Nat) : plD dk l f f s0 = dk := by
  funext a
  unfold plD
  rw [if_neg (by omega)]

theorem mx_nI {a b : Nat} (ha : a < 2 ^ 31) (hb : b < 2 ^ 31) : mxI (nI a) (nI b) = nI (max a b) := by
  unfold mxI
  by_cases h : a < b
  · rw [if_pos (nI_lt h hb), Nat.max_eq_right (by omega)]
  · rw [if_neg (nI_nlt (by omega) ha), Nat.max_eq_left (by omega)]
theorem mn_nI {a b : Nat} (ha : a < 2 ^ 31) (hb : b < 2 ^ 31) : mnI (nI a) (nI b) = nI (min a b) := by
  unfold mnI
  by_cases h : b < a
  · rw [if_pos (nI_lt h ha), Nat.min_eq_right (by omega)]
  · rw [if_neg (nI_nlt (by omega) hb), Nat.min_eq_left (by omega)]

set_option maxRecDepth 100000 in
set_option maxHeartbeats 4000000 in
/-- Journal.place -/
theorem m_X2_place {E : vE} {S : vS} {sz : Nat} {h q g w N x bk s0 : Nat} {l : List Nat} {dk : Nat → Nat} (J : JO S sz h q g) (D : JD S sz q dk) (B : BY S sz g w N l x) (hb : bk < 64) (hs : s0 < 2 ^ 20) (hs2 : s0 ≤ (bk + 1) * 512) : vi_Met E yX2_place cX2_place 5 none 1 0 0 [.ref (h), .int (nI bk), .int (nI s0)] S sz (fun r S1 z1 => r = none ∧ z1 = sz ∧ JD S1 sz q (plD dk l (max s0 (bk * 512)) ((bk + 1) * 512) s0) ∧ ag S sz S1 (fun b => b = q)) := by
  refine vi_met (by decide) (Nat.le_of_ble_eq_true rfl) ?_
  intro X C
  have hqh : h ≠ q := fun e => by have h1 := J.2.1; rw [e, D.2.1] at h1; omega
  have hqg : g ≠ q := fun e => by have h1 := B.1.2.2.1; rw [e, D.2.1] at h1; omega
  have hqw : w ≠ q := fun e => by have h1 := B.1.2.2.2; rw [e, D.2.1] at h1; omega
  have loop : ∀ (n t : Nat) (T : vS), t + n = (bk + 1) * 512 → max s0 (bk * 512) ≤ t → JD T sz q (plD dk l (max s0 (bk * 512)) t s0) → ag S sz T (fun b => b = q) → vi_W E X 5 (vi_Z E X (fun r S1 z1 => r = none ∧ z1 = sz ∧ JD S1 sz q (plD dk l (max s0 (bk * 512)) ((bk + 1) * 512) s0) ∧ ag S sz S1 (fun b => b = q)) 0 0) 19 [(0, .ref h), (1, .int (nI bk)), (2, .int (nI s0)), (3, .int (nI ((bk + 1) * 512))), (4, .int (nI t))] [] T sz 0 0 := by
    intro n
    induction n with
    | zero =>
      intro t T hn ht D1 e1
      refine vi_iload C dX2_place_19 rfl rfl ?_
      refine vi_iload_n C dX2_place_21 rfl rfl ?_
      refine vi_icmp_ge (t' := 48) C dX2_place_22 rfl (by decide) (fun hc22 => ?_) (fun hc22 => ?_)
      · exact vi_return C dX2_place_48 rfl (by decide) (by decide) (by
            have : t = (bk + 1) * 512 := by omega
            subst this
            exact ⟨rfl, rfl, D1, e1⟩)
      · exact absurd (nI_le (a := (bk + 1) * 512) (b := t) (by omega) (by omega)) hc22
    | succ n ih =>
      intro t T hn ht D1 e1
      have J1 := J.fr e1 (Nat.le_refl _) hqh
      have B1 := B.fr e1 (Nat.le_refl _) hqg hqw
      refine vi_iload C dX2_place_19 rfl rfl ?_
      refine vi_iload_n C dX2_place_21 rfl rfl ?_
      refine vi_icmp_ge (t' := 48) C dX2_place_22 rfl (by decide) (fun hc22 => ?_) (fun hc22 => ?_)
      · exact absurd hc22 (nI_ge (a := t) (b := (bk + 1) * 512) (by omega) (by omega))
      · refine vi_aload_n C dX2_place_25 rfl rfl ?_
        refine vi_iload C dX2_place_26 rfl rfl ?_
        refine vi_aload_n C dX2_place_28 rfl rfl ?_
        refine vi_getr (i := 201) C dX2_place_29 rfl fX2_22 J1.2.1 rfl rfl J1.2.2.2 ?_
        refine vi_iload C dX2_place_32 rfl rfl ?_
        refine vi_iload_n C dX2_place_34 rfl rfl ?_
        refine vi_isub C dX2_place_35 rfl ?_
        rw [pk_sub (a := t) (b := s0) (by omega)]
        refine vi_callV (c := 0) C [.int (nI (t - s0))] [.int (nI t), .ref (h)] dX2_place_36 rfl ivX2_91 imX0_byteAt rfl rfl B1.1.2.2.1 (m_X0_byteAt (i := t - s0) B1 (by omega)) rfl (Nat.le_of_ble_eq_true rfl) ⟨by decide, by decide⟩ ⟨by decide, by decide⟩ (fun r36 S36 z36 hq36 => ?_)
        obtain ⟨rfl, rfl, rfl⟩ := hq36
        refine vi_callV (c := 2) C [.int (nI t), .int (nI (byA l (t - s0)))] [] dX2_place_39 rfl ivX2_94 imX2_setByte rfl rfl J1.2.1 (m_X2_setByte (a := t) (v := byA l (t - s0)) J1 D1 (by omega) (byA_lt B.2.2.2.2.2.2.2.2 _)) rfl (Nat.le_of_ble_eq_true rfl) ⟨by decide, by decide⟩ ⟨by decide, by decide⟩ (fun r39 S39 z39 hq39 => ?_)
        obtain ⟨rfl, rfl, D39, g39⟩ := hq39
        refine vi_iinc C dX2_place_42 rfl rfl (by decide) ?_
        refine vi_goto (t' := 19) C dX2_place_45 (by decide) ?_
        refine vi_cut [(0, .ref h), (1, .int (nI bk)), (2, .int (nI s0)), (3, .int (nI ((bk + 1) * 512))), (4, .int (nI (t + 1)))] ⟨rfl, rfl, rfl, rfl, by rw [← nI_1]; rfl, trivial⟩ (ih (t + 1) _ (by omega) (by omega) ?_ ((e1.tr g39 (Nat.le_refl _)).mo (Nat.le_refl _) (fun b _ q => q.elim id id)))
        rw [plD_up dk l ht] at D39
        exact D39
  refine vi_iload_n C dX2_place_0 rfl rfl ?_
  refine vi_iconst (v := 1) C dX2_place_1 rfl (by decide) ?_
  refine vi_iadd C dX2_place_2 rfl ?_
  refine vi_sipush (v := 512) C dX2_place_3 rfl (by decide) ?_
  refine vi_imul C dX2_place_6 rfl ?_
  rw [show (nI bk + 1) * 512 = nI ((bk + 1) * 512) from by rw [nI_1, show (512 : Int32) = nI 512 from rfl, pk_mul]]
  refine vi_istore_n C dX2_place_7 rfl (by decide) ?_
  refine vi_iload_n C dX2_place_8 rfl rfl ?_
  refine vi_iload_n C dX2_place_9 rfl rfl ?_
  refine vi_sipush (v := 512) C dX2_place_10 rfl (by decide) ?_
  refine vi_imul C dX2_place_13 rfl ?_
  rw [show nI bk * 512 = nI (bk * 512) from by rw [show (512 : Int32) = nI 512 from rfl, pk_mul]]
  refine vi_mmax C dX2_place_14 rfl ivX2_85 mlX2_85 (by decide) (Nat.le_of_ble_eq_true rfl) (by decide) (by decide) ?_
  rw [mx_nI (by omega) (by omega)]
  refine vi_istore C dX2_place_17 rfl (by decide) ?_
  exact vi_cut [(0, .ref h), (1, .int (nI bk)), (2, .int (nI s0)), (3, .int (nI ((bk + 1) * 512))), (4, .int (nI (max s0 (bk * 512))))] ⟨rfl, rfl, rfl, rfl, rfl, trivial⟩ (loop ((bk + 1) * 512 - max s0 (bk * 512)) _ S (by omega) (Nat.le_refl _) (by rw [plD_0]; exact D) ag.rf)
