/-! ===== commit ===== -/
def CmOk (S : Sx) : Prop := LgOk S ∧ LgC K0 S ∧ (∀ i, 1 ≤ i → i ≤ S.ll → S.lg i < S.1 4) ∧ (∀ m, m ∈ S.fl → m 5 < S.1 4) ∧ (∀ r, r < S.N → (S.rp r).1 6 = 1 → (S.rp r).1 22 < S.1 4 ∧ (S.rp r).1 23 < S.1 4 ∧ (S.rp r).1 12 < S.1 4 ∧ QOk S (S.rp r)) ∧ (∀ s, s < 16 → (S.se s).1 46 = 2 → (S.se s).1 53 < S.1 4) ∧ 0 < S.1 4 ∧ S.1 4 + 1 ≤ 4200 ∧ (∀ s, s < 16 → (S.se s).1 47 + 1 < 2 ^ 30 ∧ ((S.se s).1 46 = 1 → (S.se s).1 49 < 2 ^ 30)) ∧ (∀ s, s < 16 → (S.se s).1 46 = 1 → (S.se s).1 48 < S.N ∧ (S.rp ((S.se s).1 48)).1 6 = 1) ∧ (∀ q, 0 < q → q < S.1 4 → (S.tb q).1 1 ≤ (S.se ((S.tb q).1 0)).1 47)
theorem dw_I (c : vC) (a : Nat) (f : Nat → Int32) : cI (uDW c a f) = cI c := rfl
theorem dw_P (c : vC) (a : Nat) (f : Nat → Int32) : cP (uDW c a f) = cP c := rfl
theorem dw_R (c : vC) (a : Nat) (f : Nat → Int32) : cR (uDW c a f) = cR c := rfl
theorem dw_J (c : vC) (a : Nat) (f : Nat → Int32) : cJ (uDW c a f) = cJ c := rfl
theorem dw_Q (c : vC) (a : Nat) (f : Nat → Int32) : cQ (uDW c a f) = cQ c := rfl
theorem nd_I (c : vC) (k n : Nat) : cI (nD c k n) = cI c := rfl
theorem nd_P (c : vC) (k n : Nat) : cP (nD c k n) = cP c := rfl
theorem nd_R (c : vC) (k n : Nat) : cR (nD c k n) = cR c := rfl
theorem nd_J (c : vC) (k n : Nat) : cJ (nD c k n) = cJ c := rfl
theorem nd_Q (c : vC) (k n : Nat) : cQ (nD c k n) = cQ c := rfl
theorem iw_K (c : vC) (f i : Nat) (v : Int32) : cK (uI c f i v) = cK c ∧ cN (uI c f i v) = cN c ∧ cD (uI c f i v) = cD c ∧ cz (uI c f i v) = cz c ∧ cR (uI c f i v) = cR c ∧ cJ (uI c f i v) = cJ c ∧ cQ (uI c f i v) = cQ c := ⟨rfl, rfl, rfl, rfl, rfl, rfl, rfl⟩
theorem pw_K (c : vC) (f i : Nat) (v : Option Nat) : cK (uP c f i v) = cK c ∧ cN (uP c f i v) = cN c ∧ cD (uP c f i v) = cD c ∧ cz (uP c f i v) = cz c ∧ cR (uP c f i v) = cR c ∧ cJ (uP c f i v) = cJ c ∧ cQ (uP c f i v) = cQ c := ⟨rfl, rfl, rfl, rfl, rfl, rfl, rfl⟩
theorem pw_v (c : vC) {f s i : Nat} {v : Option Nat} (h : i ≠ s) : cP (uP c f s v) f i = cP c f i := vi_u2v _ _ _ _ (fun q => h q.2)
theorem ini_o (c : vC) (a : Nat) (a1 a2 a3 a4 a5 : Int32) (a6 : Option Nat) : cK (ini c a a1 a2 a3 a4 a5 a6) = cK c ∧ cN (ini c a a1 a2 a3 a4 a5 a6) = cN c ∧ cD (ini c a a1 a2 a3 a4 a5 a6) = cD c ∧ cz (ini c a a1 a2 a3 a4 a5 a6) = cz c ∧ cR (ini c a a1 a2 a3 a4 a5 a6) = cR c ∧ cJ (ini c a a1 a2 a3 a4 a5 a6) = cJ c ∧ cQ (ini c a a1 a2 a3 a4 a5 a6) = cQ c := by
  unfold ini
  rw [(pw_K _ 805 a a6).1, (pw_K _ 805 a a6).2.1, (pw_K _ 805 a a6).2.2.1, (pw_K _ 805 a a6).2.2.2.1, (pw_K _ 805 a a6).2.2.2.2.1, (pw_K _ 805 a a6).2.2.2.2.2.1, (pw_K _ 805 a a6).2.2.2.2.2.2]
  have t : ∀ (x y z : vC), (cK x = cK y ∧ cN x = cN y ∧ cD x = cD y ∧ cz x = cz y ∧ cR x = cR y ∧ cJ x = cJ y ∧ cQ x = cQ y) → (cK y = cK z ∧ cN y = cN z ∧ cD y = cD z ∧ cz y = cz z ∧ cR y = cR z ∧ cJ y = cJ z ∧ cQ y = cQ z) → (cK x = cK z ∧ cN x = cN z ∧ cD x = cD z ∧ cz x = cz z ∧ cR x = cR z ∧ cJ x = cJ z ∧ cQ x = cQ z) := fun x y z p q => ⟨p.1.trans q.1, p.2.1.trans q.2.1, p.2.2.1.trans q.2.2.1, p.2.2.2.1.trans q.2.2.2.1, p.2.2.2.2.1.trans q.2.2.2.2.1, p.2.2.2.2.2.1.trans q.2.2.2.2.2.1, p.2.2.2.2.2.2.trans q.2.2.2.2.2.2⟩
  exact t _ _ _ (iw_K _ 804 a a5) (t _ _ _ (iw_K _ 803 a a4) (t _ _ _ (iw_K _ 802 a a3) (t _ _ _ (iw_K _ 801 a a2) (iw_K _ 800 a a1))))
theorem c_ask' {N : Nat} {c : vC} {S : Sx} {s : Nat} (h : WC K0 c S) (hs : s < 16) (h46 : (S.se s).1 46 = 1) (hK : CmOk S) (hN : S.N ≤ 9) : tr (F_X9_ask N c s (nI s)) (fun c' => WC K0 c' (y_com S s) ∧ ∃ a, cP c' 908 s = some a ∧ RqA c' a ((y_com S s).tb (S.1 4))) := by
  obtain ⟨k1, k2, k3, k4, k5, k6, k7, k8, k9, k10, k11⟩ := hK
  have hT : WC K0 c (S.tbl (y_rqE (S.se s) s)) := WC_tb h rfl (fun _ _ e => absurd e (by intro q; cases q)) hN k2 k3 k4 (fun r hr h6 => ⟨(k5 r hr h6).1, (k5 r hr h6).2.1, (k5 r hr h6).2.2.1, fun q hq => ((k5 r hr h6).2.2.2.2 q hq).2⟩) k6
  obtain ⟨s1, s2, s3, s4, s5, s6, s7, s8, s9⟩ := h.2.2.2.1 s hs
  unfold F_X9_ask
  rw [l1_, l1_, l1_, l1_]
  have e902 : cI (uI c 901 s 2) 902 s = nI ((S.se s).1 47) := by rw [uI_f _ _ _ (by decide)]; exact s2
  rw [e902, nI_add1]
  have g1 : ∀ f i, ¬ (800 ≤ f ∧ f < 900) → ¬ (i = s ∧ (f = 901 ∨ f = 902)) → cI (uI (uI c 901 s 2) 902 s (nI ((S.se s).1 47 + 1))) f i = cI c f i := fun f i _ hn => by rw [uI_o _ _ (fun q => hn ⟨q.2, Or.inr q.1⟩), uI_o _ _ (fun q => hn ⟨q.2, Or.inl q.1⟩)]
  have g2 : cI (uI (uI c 901 s 2) 902 s (nI ((S.se s).1 47 + 1))) 901 s = nI 2 := by rw [uI_f _ _ _ (by decide), uI_s]; rfl
  have g3 : cI (uI (uI c 901 s 2) 902 s (nI ((S.se s).1 47 + 1))) 902 s = nI ((S.se s).1 47 + 1) := uI_s _ _ _ _
  have gz : zq s (uI (uI c 901 s 2) 902 s (nI ((S.se s).1 47 + 1))) c := (zq_I (by decide)).tr (zq_I (by decide))
  have gR : cR (uI (uI c 901 s 2) 902 s (nI ((S.se s).1 47 + 1))) = cR c := rfl
  have gP : cP (uI (uI c 901 s 2) 902 s (nI ((S.se s).1 47 + 1))) = cP c := rfl
  have gzz := gz.1.2.2 h.1
  generalize uI (uI c 901 s 2) 902 s (nI ((S.se s).1 47 + 1)) = c2 at g1 g2 g3 gz gR gP gzz ⊢
  have nz := nQ_ze gzz
  have nI' : ∀ f i, ¬ (800 ≤ f ∧ f < 900) → cI (nQ c2) f i = cI c2 f i := fun f i hf => if_neg (fun q => hf ⟨q.2.1, q.2.2⟩)
  have nP' : ∀ f i, f ≠ 805 → cP (nQ c2) f i = cP c2 f i := fun f i hf => if_neg (fun q => hf q.2)
  have nR' : cR (nQ c2) = cR c2 := rfl
  have nJ' : cJ (nQ c2) = cJ c2 := rfl
  have nQ' : cQ (nQ c2) = cQ c2 := rfl
  have nk : cK (nQ c2) (cz c2) = 9 := va_up_self _ _ _
  have nzz : cz (nQ c2) = cz c2 + 1 := rfl
  have nhz := nz.2.2 gzz
  generalize nQ c2 = c3 at nz nI' nP' nR' nJ' nQ' nk nzz nhz ⊢
  have m5 := zc_nD (r := s) (k := 21) (n := 16) (cR c3 900 s) nhz
  have mK : cK (uDW (nD c3 21 16) (cz c3) (cR c3 900 s)) (cz c3) = 21 := va_up_self _ _ _
  have mN : cN (uDW (nD c3 21 16) (cz c3) (cR c3 900 s)) (cz c3) = 16 := va_up_self _ _ _
  have mD : cD (uDW (nD c3 21 16) (cz c3) (cR c3 900 s)) (cz c3) = cR c3 900 s := va_up_self _ _ _
  have mK2 : cK (uDW (nD c3 21 16) (cz c3) (cR c3 900 s)) (cz c2) = 9 := (va_up_ne _ _ (by omega)).trans nk
  have mz : cz (uDW (nD c3 21 16) (cz c3) (cR c3 900 s)) = cz c3 + 1 := rfl
  have mI : cI (uDW (nD c3 21 16) (cz c3) (cR c3 900 s)) = cI c3 := by rw [dw_I, nd_I]
  have mP : cP (uDW (nD c3 21 16) (cz c3) (cR c3 900 s)) = cP c3 := by rw [dw_P, nd_P]
  have mR : cR (uDW (nD c3 21 16) (cz c3) (cR c3 900 s)) = cR c3 := by rw [dw_R, nd_R]
  have mJ : cJ (uDW (nD c3 21 16) (cz c3) (cR c3 900 s)) = cJ c3 := by rw [dw_J, nd_J]
  have mQ : cQ (uDW (nD c3 21 16) (cz c3) (cR c3 900 s)) = cQ c3 := by rw [dw_Q, nd_Q]
  have mze := m5.1
  have mhz := mze.2.2 nhz
  generalize uDW (nD c3 21 16) (cz c3) (cR c3 900 s) = c5 at mK mN mD mK2 mz mI mP mR mJ mQ mze mhz ⊢
  rw [gd_ mK, gd_ mK2, e_init mK2, Option.bind_some, l1_]
  rw [nI' 902 s (by decide), g3, nI' 904 s (by decide), g1 904 s (by decide) (by omega), s4, nI' 905 s (by decide), g1 905 s (by decide) (by omega), s5, nI' 906 s (by decide), g1 906 s (by decide) (by omega), s6]
  obtain ⟨i1, i2, i3, i4, i5, i6, i7, i8, i9⟩ := ini_f c5 (cz c2) (nI s) (nI ((S.se s).1 47 + 1)) (nI ((S.se s).1 49)) ((S.se s).2.1 50) ((S.se s).2.1 51) (some (cz c3))
  have jK : cK (ini c5 (cz c2) (nI s) (nI ((S.se s).1 47 + 1)) (nI ((S.se s).1 49)) ((S.se s).2.1 50) ((S.se s).2.1 51) (some (cz c3))) = cK c5 := (ini_o _ _ _ _ _ _ _ _).1
  have jN : cN (ini c5 (cz c2) (nI s) (nI ((S.se s).1 47 + 1)) (nI ((S.se s).1 49)) ((S.se s).2.1 50) ((S.se s).2.1 51) (some (cz c3))) = cN c5 := (ini_o _ _ _ _ _ _ _ _).2.1
  have jD : cD (ini c5 (cz c2) (nI s) (nI ((S.se s).1 47 + 1)) (nI ((S.se s).1 49)) ((S.se s).2.1 50) ((S.se s).2.1 51) (some (cz c3))) = cD c5 := (ini_o _ _ _ _ _ _ _ _).2.2.1
  have jz : cz (ini c5 (cz c2) (nI s) (nI ((S.se s).1 47 + 1)) (nI ((S.se s).1 49)) ((S.se s).2.1 50) ((S.se s).2.1 51) (some (cz c3))) = cz c5 := (ini_o _ _ _ _ _ _ _ _).2.2.2.1
  have jR : cR (ini c5 (cz c2) (nI s) (nI ((S.se s).1 47 + 1)) (nI ((S.se s).1 49)) ((S.se s).2.1 50) ((S.se s).2.1 51) (some (cz c3))) = cR c5 := (ini_o _ _ _ _ _ _ _ _).2.2.2.2.1
  have jJ : cJ (ini c5 (cz c2) (nI s) (nI ((S.se s).1 47 + 1)) (nI ((S.se s).1 49)) ((S.se s).2.1 50) ((S.se s).2.1 51) (some (cz c3))) = cJ c5 := (ini_o _ _ _ _ _ _ _ _).2.2.2.2.2.1
  have jQ : cQ (ini c5 (cz c2) (nI s) (nI ((S.se s).1 47 + 1)) (nI ((S.se s).1 49)) ((S.se s).2.1 50) ((S.se s).2.1 51) (some (cz c3))) = cQ c5 := (ini_o _ _ _ _ _ _ _ _).2.2.2.2.2.2
  generalize ini c5 (cz c2) (nI s) (nI ((S.se s).1 47 + 1)) (nI ((S.se s).1 49)) ((S.se s).2.1 50) ((S.se s).2.1 51) (some (cz c3)) = c6 at i1 i2 i3 i4 i5 i6 i7 i8 i9 jK jN jD jz jR jJ jQ ⊢
  have z6 : ze (uP c6 908 s (some (cz c2))) c2 := by
    refine ⟨by rw [(pw_K c6 908 s (some (cz c2))).2.2.2.1]; omega, fun a ha => ?_, fun hh a ha => ?_⟩
    · obtain ⟨b1, b2, b3, b4, b5⟩ := nz.2.1 a ha
      obtain ⟨d1, d2, d3, d4, d5⟩ := mze.2.1 a (by omega)
      refine ⟨?_, ?_, ?_, fun f f1 f2 => ?_, ?_⟩
      · rw [(pw_K c6 908 s (some (cz c2))).1, jK, d1, b1]
      · rw [(pw_K c6 908 s (some (cz c2))).2.1, jN, d2, b2]
      · rw [(pw_K c6 908 s (some (cz c2))).2.2.1, jD, d3, b3]
      · rw [uP_I, i8 f a (by omega), d4 f f1 f2, b4 f f1 f2]
      · rw [uP_f _ _ _ (by decide), i9 805 a (Or.inr (by omega)), d5, b5]
    · rw [(pw_K c6 908 s (some (cz c2))).2.2.2.1, jz] at ha
      rw [(pw_K c6 908 s (some (cz c2))).1, jK]; exact mhz a ha
  have zqq : zq s (uP c6 908 s (some (cz c2))) c := by
    refine zq.tr (b := c2) ⟨z6, fun f i f1 f2 f3 => ?_, fun f i f1 f2 => ?_, fun f i f1 f2 => ?_, fun i => ?_, fun f i => ?_⟩ gz
    · rw [uP_I, i7 f i f2, mI, nI' f i f2]
    · by_cases e : f = 908
      · subst e
        rw [pw_v c6 (fun q => f2 ⟨q, rfl⟩), i9 908 i (Or.inl (by decide)), mP, nP' 908 i (by decide)]
      · rw [uP_f _ _ _ e, i9 f i (Or.inl f1), mP, nP' f i f1]
    · rw [(pw_K c6 908 s (some (cz c2))).2.2.2.2.1, jR, mR, nR']
    · rw [(pw_K c6 908 s (some (cz c2))).2.2.2.2.2.1, jJ, mJ, nJ']
    · rw [(pw_K c6 908 s (some (cz c2))).2.2.2.2.2.2, jQ, mQ, nQ']
  have hrq : RqA (uP c6 908 s (some (cz c2))) (cz c2) (y_rqE (S.se s) s) := by
    refine ⟨by rw [(pw_K c6 908 s (some (cz c2))).2.2.2.1]; omega, ?_, ?_, ?_, ?_, ?_, ?_, cz c3, ?_, by rw [(pw_K c6 908 s (some (cz c2))).2.2.2.1]; omega, ?_, ?_, fun k hk hb => ?_⟩
    · rw [(pw_K c6 908 s (some (cz c2))).1, jK]; exact mK2
    · rw [uP_I]; exact i1
    · rw [uP_I]; exact i2
    · rw [uP_I]; exact i3
    · rw [uP_I]; exact i4
    · rw [uP_I]; exact i5
    · rw [uP_f _ _ _ (by decide)]; exact i6
    · rw [(pw_K c6 908 s (some (cz c2))).1, jK]; exact mK
    · rw [(pw_K c6 908 s (some (cz c2))).2.1, jN]; exact mN
    · rw [(pw_K c6 908 s (some (cz c2))).2.2.1, jD, mD, nR', gR]; exact s9 k hk
  have etb : (y_com S s).tb (S.1 4) = y_rqE (S.se s) s := va_up_self S.tb (S.1 4) (y_rqE (S.se s) s)
  have qI : ∀ f, ¬ (800 ≤ f ∧ f < 900) → cI (uP c6 908 s (some (cz c2))) f s = cI c2 f s := fun f hf => by rw [uP_I, i7 f s hf, mI, nI' f s hf]
  have qP : cP (uP c6 908 s (some (cz c2))) 908 s = some (cz c2) := uP_s _ _ _ _
  have qR : cR (uP c6 908 s (some (cz c2))) 900 s = cR c 900 s := by
    rw [(pw_K c6 908 s (some (cz c2))).2.2.2.2.1, jR, mR, nR', gR]
  generalize uP c6 908 s (some (cz c2)) = c7 at z6 zqq hrq qI qP qR ⊢
  refine tr_some ⟨WC_ses hT zqq (fun _ => ⟨?_, ?_, ?_, ?_, ?_, ?_, ?_, fun e => ?_, fun k hk => ?_⟩), cz c2, qP, by rw [etb]; exact hrq⟩
  · rw [qI 901 (by decide)]; exact g2
  · rw [qI 902 (by decide)]; exact g3
  · rw [qI 903 (by decide), g1 903 s (by decide) (by omega), s3]
    rw [if_pos (Or.inl h46)]
    exact (if_pos (show (y_comE (S.se s) (S.1 4)).1 46 = 1 ∨ (y_comE (S.se s) (S.1 4)).1 46 = 2 from Or.inr rfl)).symm
  · rw [qI 904 (by decide), g1 904 s (by decide) (by omega)]; exact s4
  · rw [qI 905 (by decide), g1 905 s (by decide) (by omega)]; exact s5
  · rw [qI 906 (by decide), g1 906 s (by decide) (by omega)]; exact s6
  · rw [qI 907 (by decide), g1 907 s (by decide) (by omega)]; exact s7
  · rw [qP]
    show RqO c7 (y_com S s).tb (some (cz c2)) (S.1 4)
    exact RqO.some k7 (by rw [etb]; exact hrq)
  · rw [qR]; exact s9 k hk
