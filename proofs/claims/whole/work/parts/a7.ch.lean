/-! ===== the class's store learns: the whole of it ===== -/
theorem cpH_n {c : vC} {i s d : Nat} (hs : s + 16 ≤ 272) (hd : d + 16 ≤ 272) : cpH c i (nI s) (nI d) (16 : Int32) = some (uRW c 1005 i (va_cpy (cR c 1005 i) (cR c 1005 i) s d 16)) := by
  unfold cpH
  rw [nIt (show s < 2 ^ 31 by omega), nIt (show d < 2 ^ 31 by omega), show (16 : Int32).toNatClampNeg = 16 from rfl, if_neg (fun q => ?_)]
  rcases q with q | q | q | q | q
  · exact nIn (show s < 2 ^ 31 by omega) q
  · exact nIn (show d < 2 ^ 31 by omega) q
  · exact absurd q (by decide)
  · exact q hs
  · exact q hd
theorem c_isNewS {N : Nat} {c : vC} {S : Sx} {r a q ixx : Nat} (hC : Cx S) (h4 : ∀ s, s < 16 → cR c 1002 r s = nI ((S.sta ixx).2.1 s)) (ha : RqA c a (S.tb q)) : F_X10_isNew N c r (some a) = some (c, if y_fresh S ixx q then (1 : Int32) else 0) := by
  obtain ⟨b1, b2, b3⟩ := hC.tb q
  obtain ⟨a1, a2, a3, a4, a5⟩ := ha
  have hs := sta_b hC ixx ((S.tb q).1 0)
  unfold F_X10_isNew
  rw [Option.bind_some, gd_ a2, gd_ a2, a3, cGv (show _ < 16 from b1) (by omega), Option.bind_some, h4 _ b1, a4]
  by_cases e : (S.tb q).1 1 ≤ (S.sta ixx).2.1 ((S.tb q).1 0)
  · rw [if_pos (nI_le e (by omega)), zb0, if_neg (show ¬ y_fresh S ixx q from by show ¬ _ < _; omega)]
  · rw [if_neg (nI_ge (by omega) (by omega)), zb1, if_pos (show y_fresh S ixx q from by show _ < _; omega)]
theorem z_bit {k : Nat} (h : k < 16) : ¬ (((0 : Int32) >>> (nI k &&& 31)) &&& (1 : Int32)) = (1 : Int32) := by
  have : ∀ k : Fin 16, ¬ (((0 : Int32) >>> (nI k.1 &&& 31)) &&& (1 : Int32)) = (1 : Int32) := by decide
  exact this ⟨k, h⟩
theorem wn_s {V i v : Nat} {s : Sta} {q : Rq} (hv : 1 ≤ v) : y_wn (y_app V s i q) (i + 1) v = y_wn s i (v - 1) := by
  unfold y_wn
  by_cases e : i ≤ v - 1
  · rw [if_pos e, if_pos (by omega)]
  · rw [if_neg e, if_neg (by omega), show i + 1 - v = i - (v - 1) by omega]
    exact va_up_ne _ _ (by omega)
theorem wn_0 {V i : Nat} {s : Sta} {q : Rq} : y_wn (y_app V s i q) (i + 1) 0 = y_wr V s i q := by
  unfold y_wn
  rw [if_neg (by omega), Nat.sub_zero]
  exact va_up_self _ _ _
set_option maxHeartbeats 1000000 in
theorem c_apply {N : Nat} {c : vC} {S : Sx} {r a q : Nat} {R : Rp} (hC : Cx S) (eV : cI c 1000 r = nI S.V) (eL : cI c 1001 r = nI S.L) (hst : StA c S r R) (ha : RqA c a (S.tb q)) (hq0 : 0 < q) (hix : R.1 7 < 29990) (hlg : S.lg (R.1 7 + 1) = q) (b8 : R.1 8 ≤ R.1 7) (b8' : R.1 7 ≤ R.1 8 + S.V) (b9 : R.1 9 ≤ R.1 7) (b9' : R.1 7 ≤ R.1 9 + S.L) : tr (F_X10_learn N c r (some a)) (fun c' => sk r c' c ∧ StA c' S r (((R.u 7 (R.1 7 + 1)).u 8 (max (R.1 8) (R.1 7 + 1 - S.V))).u 9 (max (R.1 9) (R.1 7 + 1 - S.L)))) := by
  have hV := hC.V
  have hV1 : 1 ≤ S.V := hC.2.2.1
  have hL : S.L ≤ 32 := hC.2.2.2.2.2.1
  have hL1 : 1 ≤ S.L := hC.2.2.2.2.1
  obtain ⟨t1, t2, t3⟩ := hC.tb q
  obtain ⟨s1, s2, s3, s4, s5, s6, s7, s8⟩ := hst
  unfold F_X10_learn
  rw [s1, e_rowOf (by omega), b2_, s1, nI_add1, e_rowOf (by omega), b2_, cpH_n (by omega) (by omega), Option.bind_some]
  have z1 : sk r (uRW c 1005 r (va_cpy (cR c 1005 r) (cR c 1005 r) (16 * (R.1 7 % 17)) (16 * ((R.1 7 + 1) % 17)) 16)) c := sk_W
  have g5 : ∀ j, cR (uRW c 1005 r (va_cpy (cR c 1005 r) (cR c 1005 r) (16 * (R.1 7 % 17)) (16 * ((R.1 7 + 1) % 17)) 16)) 1005 r j = if 16 * ((R.1 7 + 1) % 17) ≤ j ∧ j < 16 * ((R.1 7 + 1) % 17) + 16 then cR c 1005 r (16 * (R.1 7 % 17) + (j - 16 * ((R.1 7 + 1) % 17))) else cR c 1005 r j := fun j => by
    show vi_u2 (cR c) 1005 r (va_cpy (cR c 1005 r) (cR c 1005 r) (16 * (R.1 7 % 17)) (16 * ((R.1 7 + 1) % 17)) 16) 1005 r j = _
    rw [vi_u2s]; rfl
  have g4 : ∀ f, f ≠ 1005 → cR (uRW c 1005 r (va_cpy (cR c 1005 r) (cR c 1005 r) (16 * (R.1 7 % 17)) (16 * ((R.1 7 + 1) % 17)) 16)) f r = cR c f r := fun f hf => vi_u2v _ _ _ _ (fun q => hf q.1)
  have gI : ∀ f i, cI (uRW c 1005 r (va_cpy (cR c 1005 r) (cR c 1005 r) (16 * (R.1 7 % 17)) (16 * ((R.1 7 + 1) % 17)) 16)) f i = cI c f i := fun _ _ => rfl
  have gQ : ∀ f i, cQ (uRW c 1005 r (va_cpy (cR c 1005 r) (cR c 1005 r) (16 * (R.1 7 % 17)) (16 * ((R.1 7 + 1) % 17)) 16)) f i = cQ c f i := fun _ _ => rfl
  generalize uRW c 1005 r (va_cpy (cR c 1005 r) (cR c 1005 r) (16 * (R.1 7 % 17)) (16 * ((R.1 7 + 1) % 17)) 16) = c1 at z1 g5 g4 gI gQ ⊢
  have ha1 := ha.c z1.1.1
  rw [c_isNewS (ixx := R.1 7) hC (by rw [g4 1002 (by decide)]; exact s4) ha1, b2_]
  refine tr_jnK2 (fun M l2 => sk r M c ∧ l2 = y_wr S.V (S.sta (R.1 7)) (R.1 7) (S.tb q) ∧ (∀ f, cI M f r = cI c f r) ∧ (∀ s, s < 16 → cR M 1002 r s = nI ((S.sta (R.1 7 + 1)).2.1 s)) ∧ (∀ s, s < 16 → cR M 1003 r s = nI ((S.sta (R.1 7 + 1)).2.2.1 s)) ∧ cR M 1004 r = cR c 1004 r ∧ cR M 1005 r = cR c1 1005 r ∧ cQ M 1006 r = cQ c 1006 r) (fun M l2 hM => ?_) (fun k hk => ?_)
  · obtain ⟨m1, m2, m3, m4, m5, m6, m7, m8⟩ := hM
    refine tr_l1 ?_
    rw [m3 1007, s1, nI_add1]
    have hb := ha.c m1.1.1
    have ha2 : RqA (uI M 1007 r (nI (R.1 7 + 1))) a (S.tb q) := hb.c (zc_I (r := r) rfl).1
    obtain ⟨q1, q2, q3, q4, q5, q6, q7, v, q8, q9, q10, q11, q12⟩ := ha2
    unfold F_X10_writeValues
    rw [uI_s, e_rowOf (by omega), b2_]
    refine tr_bind (P := fun c2 => sk r c2 M ∧ (∀ f, f ≠ 1007 → cI c2 f r = cI M f r) ∧ cI c2 1007 r = nI (R.1 7 + 1) ∧ (∀ f, f ≠ 1005 → cR c2 f r = cR M f r) ∧ (∀ f, cQ c2 f r = cQ M f r) ∧ (∀ j, (j < 16 * ((R.1 7 + 1) % 17) ∨ 16 * ((R.1 7 + 1) % 17) + 16 ≤ j) → cR c2 1005 r j = cR M 1005 r j) ∧ (∀ k, k < 16 → cR c2 1005 r (16 * ((R.1 7 + 1) % 17) + k) = if ((l2 >>> (nI k &&& 31)) &&& (1 : Int32)) = (1 : Int32) then (S.tb q).2.2 k else cR M 1005 r (16 * ((R.1 7 + 1) % 17) + k))) ?_ fun c2 hc2 => ?_
    · refine q_wv (v := v) (vs := (S.tb q).2.2) q2 q8 q10 q11 (fun k hk hb => ?_) (by omega) fun c2 n1 n2 n3 n4 n5 n6 => ?_
      · rw [m2] at hb
        unfold y_wr at hb
        split at hb
        · exact q12 k hk hb
        · exact absurd hb (z_bit hk)
      · refine tr_some ⟨n1.tr (sk_I (Or.inl rfl)), fun f hf => (n2 f).trans (uI_f _ _ _ hf), (n2 1007).trans (uI_s _ _ _ _), n3, n4, n5, n6⟩
    · obtain ⟨n1, n2, n3, n4, n5, n6, n7⟩ := hc2
      rw [n2 1000 (by decide), m3 1000, eV, show nI S.V - (1 : Int32) = nI (S.V - 1) from nI_sub (b := 1) hV1]
      refine q_l112 (V := S.V) (c := c2) hV (fun c3 o1 o2 o3 o4 o5 o6 o7 => ?_) (S.V - 1) fu c2 (by omega) (by show _ < 32768; omega) sk.refl (fun _ => rfl) rfl rfl (fun _ _ => rfl) (fun _ => rfl) (fun v h1 h2 => by omega) (fun _ _ => rfl)
      rw [show (0 : Int32) = nI 0 from rfl, cSv (show 0 < 16 by decide) (by decide), Option.bind_some]
      refine tr_l1 ?_
      have i1 : cI (uR c3 1004 r 0 l2) 1007 r = nI (R.1 7 + 1) := (o2 1007).trans n3
      have i2 : cI (uR c3 1004 r 0 l2) 1008 r = nI (R.1 8) := ((o2 1008).trans ((n2 1008 (by decide)).trans (m3 1008))).trans s2
      have i3 : cI (uR c3 1004 r 0 l2) 1000 r = nI S.V := ((o2 1000).trans ((n2 1000 (by decide)).trans (m3 1000))).trans eV
      have i4 : cI (uR c3 1004 r 0 l2) 1009 r = nI (R.1 7 - R.1 9) := ((o2 1009).trans ((n2 1009 (by decide)).trans (m3 1009))).trans s3
      have i5 : cI (uR c3 1004 r 0 l2) 1001 r = nI S.L := ((o2 1001).trans ((n2 1001 (by decide)).trans (m3 1001))).trans eL
      rw [i1, i2, i3, mx_sub (by omega) (by omega) (by omega), uI_f _ _ _ (show 1007 ≠ 1008 by decide), i1, show fmI (nI (R.1 7 + 1)) (32 : Int32) = nI ((R.1 7 + 1) % 32) from fm_n (b := 32) (by omega) (by decide)]
      have zz : sk r (uI (uR c3 1004 r 0 l2) 1008 r (nI (max (R.1 8) (R.1 7 + 1 - S.V)))) c := (sk_I (by omega)).tr ((sk_R (by omega)).tr (o1.tr (n1.tr m1)))
      have hae := ha.c zz.1.1
      rw [cSQv (show _ < 32 by omega) (by omega) (by show (cK _ a == 9) = true; rw [hae.2.1]; rfl), Option.bind_some]
      refine tr_l1 ?_
      have j4 : cI (uQ (uI (uR c3 1004 r 0 l2) 1008 r (nI (max (R.1 8) (R.1 7 + 1 - S.V)))) 1006 r ((R.1 7 + 1) % 32) (some a)) 1009 r = nI (R.1 7 - R.1 9) := by
        show cI (uI (uR c3 1004 r 0 l2) 1008 r (nI (max (R.1 8) (R.1 7 + 1 - S.V)))) 1009 r = _
        rw [uI_f _ _ _ (by decide)]; exact i4
      have j5 : cI (uQ (uI (uR c3 1004 r 0 l2) 1008 r (nI (max (R.1 8) (R.1 7 + 1 - S.V)))) 1006 r ((R.1 7 + 1) % 32) (some a)) 1001 r = nI S.L := by
        show cI (uI (uR c3 1004 r 0 l2) 1008 r (nI (max (R.1 8) (R.1 7 + 1 - S.V)))) 1001 r = _
        rw [uI_f _ _ _ (by decide)]; exact i5
      rw [j4, j5, nI_add1, mn_n (by omega) (by omega)]
      have z9 : sk r (uI (uQ (uI (uR c3 1004 r 0 l2) 1008 r (nI (max (R.1 8) (R.1 7 + 1 - S.V)))) 1006 r ((R.1 7 + 1) % 32) (some a)) 1009 r (nI (min (R.1 7 - R.1 9 + 1) S.L))) c := (sk_I (by omega)).tr (sk_Q.tr zz)
      refine tr_some ⟨z9, ?_⟩
      have rR : ∀ f, f ≠ 1004 → cR (uI (uQ (uI (uR c3 1004 r 0 l2) 1008 r (nI (max (R.1 8) (R.1 7 + 1 - S.V)))) 1006 r ((R.1 7 + 1) % 32) (some a)) 1009 r (nI (min (R.1 7 - R.1 9 + 1) S.L))) f r = cR c2 f r := fun f hf => (uR_f _ _ _ _ hf).trans (o5 f hf)
      have R7 : (((R.u 7 (R.1 7 + 1)).u 8 (max (R.1 8) (R.1 7 + 1 - S.V))).u 9 (max (R.1 9) (R.1 7 + 1 - S.L))).1 7 = R.1 7 + 1 := rfl
      have R8 : (((R.u 7 (R.1 7 + 1)).u 8 (max (R.1 8) (R.1 7 + 1 - S.V))).u 9 (max (R.1 9) (R.1 7 + 1 - S.L))).1 8 = max (R.1 8) (R.1 7 + 1 - S.V) := rfl
      have R9 : (((R.u 7 (R.1 7 + 1)).u 8 (max (R.1 8) (R.1 7 + 1 - S.V))).u 9 (max (R.1 9) (R.1 7 + 1 - S.L))).1 9 = max (R.1 9) (R.1 7 + 1 - S.L) := rfl
      unfold StA
      rw [R7, R8, R9]
      refine ⟨?_, ?_, ?_, fun s hs => ?_, fun s hs => ?_, fun v hv => ?_, fun i k e1 e2 e3 => ?_, fun i e1 e2 => ?_⟩
      · rw [uI_f _ _ _ (by decide)]
        show cI (uI (uR c3 1004 r 0 l2) 1008 r (nI (max (R.1 8) (R.1 7 + 1 - S.V)))) 1007 r = _
        rw [uI_f _ _ _ (by decide)]; exact i1
      · rw [uI_f _ _ _ (by decide)]
        show cI (uI (uR c3 1004 r 0 l2) 1008 r (nI (max (R.1 8) (R.1 7 + 1 - S.V)))) 1008 r = _
        rw [uI_s]
      · rw [uI_s]; congr 1; omega
      · rw [rR 1002 (by decide), n4 1002 (by decide)]; exact m4 s hs
      · rw [rR 1003 (by decide), n4 1003 (by decide)]; exact m5 s hs
      · show cR (uR c3 1004 r 0 l2) 1004 r v = _
        rw [sta_s, hlg]
        by_cases e : v = 0
        · subst e
          rw [uR_s, m2, wn_0]
        · rw [uR_j _ _ _ _ e, o7 v (by omega) hv, n4 1004 (by decide), m6, wn_s (by omega)]
          exact s6 (v - 1) (by omega)
      · rw [rR 1005 (by decide)]
        by_cases e : i = R.1 7 + 1
        · subst e
          rw [n7 k e3, m2, m7, g5, if_pos (show 16 * ((R.1 7 + 1) % 17) ≤ 16 * ((R.1 7 + 1) % 17) + k ∧ 16 * ((R.1 7 + 1) % 17) + k < 16 * ((R.1 7 + 1) % 17) + 16 by omega), show 16 * ((R.1 7 + 1) % 17) + k - 16 * ((R.1 7 + 1) % 17) = k by omega, s7 (R.1 7) k b8 (Nat.le_refl _) e3, sta_s, hlg]
          rfl
        · rw [n6 _ (by omega), m7, g5, if_neg (show ¬ (16 * ((R.1 7 + 1) % 17) ≤ 16 * (i % 17) + k ∧ 16 * (i % 17) + k < 16 * ((R.1 7 + 1) % 17) + 16) by omega)]
          exact s7 i k (by omega) (by omega) e3
      · show RqO _ _ (cQ (uQ (uI (uR c3 1004 r 0 l2) 1008 r (nI (max (R.1 8) (R.1 7 + 1 - S.V)))) 1006 r ((R.1 7 + 1) % 32) (some a)) 1006 r (i % 32)) _
        by_cases e : i = R.1 7 + 1
        · subst e
          rw [uQ_s, hlg]
          exact RqO.some hq0 (ha.c z9.1.1)
        · rw [uQ_j _ _ _ _ (by omega)]
          show RqO _ _ (cQ c3 1006 r (i % 32)) _
          rw [o6, n5, m8]
          exact (s8 i (by omega) (by omega)).c z9.1.1
  · by_cases cf : y_fresh S (R.1 7) q
    · rw [if_pos cf, if_neg (by decide)]
      obtain ⟨a1, a2, a3, a4, a5, a6, a7, _⟩ := ha1
      rw [c_isBel (S := S) (q := S.tb q) (s := S.sta (R.1 7)) (ixx := R.1 7) a2 a5 a6 (by rw [gI]; exact eV) hV (by rw [gI]; exact s1) (by omega) (by omega) (by rw [g4 1004 (by decide)]; exact s6), b2_]
      have ever : y_ver S.V (S.sta (R.1 7)) (R.1 7) (S.tb q) = if y_bad S.V (S.sta (R.1 7)) (R.1 7) (S.tb q) = true then 2 else 1 := if_pos cf
      refine tr_jnK (fun w => w = y_wr S.V (S.sta (R.1 7)) (R.1 7) (S.tb q)) (fun w hw => ?_) (fun k57 hk57 => ?_)
      · rw [Option.bind_some, gd_ a2, gd_ a2, a3, a4, cSv (show _ < 16 from t1) (by omega), Option.bind_some]
        have fin : ∀ vd : Nat, vd = y_ver S.V (S.sta (R.1 7)) (R.1 7) (S.tb q) → tr ((cS (uR c1 1002 r ((S.tb q).1 0) (nI ((S.tb q).1 1))) 1003 r (cI (uR c1 1002 r ((S.tb q).1 0) (nI ((S.tb q).1 1))) 800 a) (nI vd)).bind fun M20 => k M20 w) _ := fun vd hvd => by
          rw [show cI (uR c1 1002 r ((S.tb q).1 0) (nI ((S.tb q).1 1))) 800 a = nI ((S.tb q).1 0) from a3, cSv (show _ < 16 from t1) (by omega), Option.bind_some]
          refine hk _ _ ⟨(sk_R (by omega)).tr ((sk_R (by omega)).tr z1), hw, fun f => gI f r, fun s hs => ?_, fun s hs => ?_, ?_, ?_, gQ 1006 r ▸ rfl⟩
          · rw [uR_f _ _ _ _ (by decide), sta_s, hlg]
            show _ = nI ((if y_fresh S (R.1 7) q then va_up (S.sta (R.1 7)).2.1 ((S.tb q).1 0) ((S.tb q).1 1) else (S.sta (R.1 7)).2.1) s)
            rw [if_pos cf]
            by_cases e : s = (S.tb q).1 0
            · rw [e, uR_s, va_up_self]
            · rw [uR_j _ _ _ _ e, va_up_ne _ _ e, g4 1002 (by decide)]; exact s4 s hs
          · rw [sta_s, hlg]
            show _ = nI ((if y_fresh S (R.1 7) q then va_up (S.sta (R.1 7)).2.2.1 ((S.tb q).1 0) (y_ver S.V (S.sta (R.1 7)) (R.1 7) (S.tb q)) else (S.sta (R.1 7)).2.2.1) s)
            rw [if_pos cf]
            by_cases e : s = (S.tb q).1 0
            · rw [e, uR_s, va_up_self, hvd]
            · rw [uR_j _ _ _ _ e, va_up_ne _ _ e, uR_f _ _ _ _ (by decide), g4 1003 (by decide)]; exact s5 s hs
          · rw [uR_f _ _ _ _ (by decide), uR_f _ _ _ _ (by decide), g4 1004 (by decide)]
          · rw [uR_f _ _ _ _ (by decide), uR_f _ _ _ _ (by decide)]
        refine tr_gd a2 ?_
        cases cb : y_bad S.V (S.sta (R.1 7)) (R.1 7) (S.tb q)
        · rw [if_pos (show (if false = true then (1 : Int32) else 0) = 0 from rfl)]
          exact fin 1 (by rw [ever, cb]; rfl)
        · rw [if_neg (show ¬ (if true = true then (1 : Int32) else 0) = 0 by decide)]
          exact fin 2 (by rw [ever, cb]; rfl)
      · cases cb : y_bad S.V (S.sta (R.1 7)) (R.1 7) (S.tb q)
        · rw [if_pos (show (if false = true then (1 : Int32) else 0) = 0 from rfl), Option.bind_some, gd_ a2, a7]
          refine hk57 _ ?_
          unfold y_wr
          rw [ever, cb]; rfl
        · rw [if_neg (show ¬ (if true = true then (1 : Int32) else 0) = 0 by decide)]
          refine hk57 _ ?_
          unfold y_wr
          rw [ever, cb]; rfl
    · rw [if_neg cf, if_pos rfl]
      refine hk _ _ ⟨z1, ?_, fun f => gI f r, fun s hs => ?_, fun s hs => ?_, g4 1004 (by decide), rfl, gQ 1006 r⟩
      · unfold y_wr
        rw [show y_ver S.V (S.sta (R.1 7)) (R.1 7) (S.tb q) = 0 from if_neg cf, if_neg (by decide)]
      · rw [g4 1002 (by decide), s4 s hs, sta_s, hlg]
        show _ = nI ((if y_fresh S (R.1 7) q then va_up (S.sta (R.1 7)).2.1 ((S.tb q).1 0) ((S.tb q).1 1) else (S.sta (R.1 7)).2.1) s)
        rw [if_neg cf]
      · rw [g4 1003 (by decide), s5 s hs, sta_s, hlg]
        show _ = nI ((if y_fresh S (R.1 7) q then va_up (S.sta (R.1 7)).2.2.1 ((S.tb q).1 0) (y_ver S.V (S.sta (R.1 7)) (R.1 7) (S.tb q)) else (S.sta (R.1 7)).2.2.1) s)
        rw [if_neg cf]
