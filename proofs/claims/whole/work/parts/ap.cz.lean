/-! ===== the class comes up, whole ===== -/
/-- what lies on the disk of a replica: its notes, two zeros, the heads -/
def DkS (S : Sx) (R : Rp) : Prop := R.1 31 = (R.2.2.1.flatMap S.rec).length ∧ (∀ k, k < (R.2.2.1.flatMap S.rec).length + 2 → R.2.2.2 (y_hs (R.1 33) + k) = byA (R.2.2.1.flatMap S.rec) k) ∧ (∀ k, k < 12 → R.2.2.2 (512 * (R.1 32 % 2) + k) = byA (headL (nI (R.1 32)) (nI (R.1 33))) k) ∧ ((∃ h', h' ≤ 1 ∧ 2 ≤ R.1 32 ∧ ∀ k, k < 12 → R.2.2.2 (512 * ((R.1 32 + 1) % 2) + k) = byA (headL (nI (R.1 32 - 1)) (nI h')) k) ∨ R.2.2.2 (512 * ((R.1 32 + 1) % 2)) = 0)
def DnOk (R : Rp) : Prop := R.1 19 = 0 ∧ R.1 20 = 0 ∧ R.1 21 = 0 ∧ R.1 22 = 0 ∧ R.1 23 = 0 ∧ R.1 24 = 0 ∧ R.2.1 = []
set_option maxHeartbeats 1000000 in
theorem c_comeUp {mm : Kp} {N : Nat} {c : vC} {S : Sx} {r : Nat} {R : Rp} (hC : Cx S) (hTW : TbW S.tb) (h : WC mm c (S.set r R)) (hr : r < S.N) (hz : DnOk R) (hJ : JR R) (hD : DkS S R) (hg0 : 0 < R.1 32) (hg : R.1 32 < 2 ^ 30) (hN : ∀ n, n ∈ R.2.2.1 → NbOk n ∧ NtC n) (hrep : rpA S (y_z0 (R.u 6 1)) R.2.2.1) (hB : BR S (y_up1 S (R.u 6 1))) : tr (F_X7_comeUp N c r) (fun c' => WC mm c' (y_ckp (S.set r (y_up1 S (R.u 6 1))) r).1) := by
  obtain ⟨⟨⟨v1, v2, v3, v4, v5⟩, al2, al3⟩, _⟩ := WC_a h hr
  obtain ⟨d1, d2, d3, d4⟩ := hD
  obtain ⟨j1, j2, j3, j4⟩ := hJ
  have hV := hC.V
  unfold F_X7_comeUp F_X7_forget
  refine tr_bind (P := fun c1 => ∃ cS, c1 = fgE cS r ∧ sk r cS c ∧ StA cS S r (y_z0 (R.u 6 1))) ?_ fun c1 hc1 => ?_
  · refine tr_bind (c_forgetS (S := S) (R := y_z0 (R.u 6 1)) rfl rfl rfl hV) fun cS hS => ?_
    rw [e_fg]
    exact tr_some ⟨cS, rfl, hS.1, hS.2⟩
  obtain ⟨cS, rfl, zS, sS⟩ := hc1
  obtain ⟨f601, f501, f502, f400, f401, f402, f405, f712, f716, p403, p404, p713, fo, zf⟩ := fgE_f cS r
  obtain ⟨oR, oQ, oJ, oK, oz⟩ := fgE_o cS r
  have jf : cJ (fgE cS r) r = cJ c r := by rw [oJ]; exact zS.2.2.2.2.2
  have eq : ∀ f, (f = 1000 ∨ f = 1001 ∨ f = 700 ∨ f = 701 ∨ f = 702 ∨ f = 204) → cI (fgE cS r) f r = cI c f r := fun f hf => (fo f (by omega)).trans (zS.2.1 f (by omega) (by omega) (by omega) (by omega) (by omega))
  have sF : StA (fgE cS r) S r (y_z0 (R.u 6 1)) := sS.c zf.1 (fun f a b => fo f (by omega)) (fun f a b => by rw [oR]) (by rw [oQ]) rfl rfl rfl
  have zF : zc r (fgE cS r) c := zf.tr zS.1
  have hzK : ∀ a, cz (fgE cS r) ≤ a → cK (fgE cS r) a = 0 := zF.1.2.2 h.1
  generalize fgE cS r = c1 at f601 f501 f502 f400 f401 f402 f405 f712 f716 p403 p404 p713 jf eq sF zF hzK ⊢
  have dkk : ∀ a, a < 32768 → dk (cJ c1 r) a = R.2.2.2 a := fun a ha => by rw [jf]; exact al3 a ha
  have hhs : y_hs (R.1 33) ≤ 16896 := by unfold y_hs; split <;> omega
  have hlen : ∀ l : List Nt, (∀ n, n ∈ l → NbOk n) → (l.flatMap S.rec).length ≤ 206 * l.length := by
    intro l
    induction l with
    | nil => intro _; exact Nat.zero_le _
    | cons a l ih =>
      intro hl
      rw [List.flatMap_cons, List.length_append, List.length_cons, Nat.mul_succ]
      have h1 := rec_len hC (hl a (List.mem_cons_self ..))
      have h2 := ih (fun n hn => hl n (List.mem_cons_of_mem _ hn))
      omega
  have hfm := hlen R.2.2.1 (fun n hn => (hN n hn).1)
  have hhead : HdJ (cJ c1 r) (R.1 32) (R.1 33) := by
    refine ⟨fun k hk => ?_, ?_⟩
    · have hk' : k < 12 := hk
      rw [dkk _ (by omega)]; exact d3 k hk'
    · rcases d4 with ⟨h', a, b, d⟩ | d
      · refine Or.inl ⟨h', a, b, fun k hk => ?_⟩
        have hk' : k < 12 := hk
        rw [dkk _ (by omega)]; exact d k hk'
      · refine Or.inr ?_
        rw [dkk _ (by omega)]; exact d
  rw [e_open hg0 hg j1 hhead, Option.bind_some]
  have z2 : zc r (uI (uI (uI (uI c1 208 r (nI (R.1 32))) 209 r (nI (R.1 33))) 206 r 0) 207 r 0) c1 := (zc_I rfl).tr ((zc_I rfl).tr ((zc_I rfl).tr (zc_I rfl)))
  have eo : ∀ f, f ≠ 206 → f ≠ 207 → f ≠ 208 → f ≠ 209 → cI (uI (uI (uI (uI c1 208 r (nI (R.1 32))) 209 r (nI (R.1 33))) 206 r 0) 207 r 0) f r = cI c1 f r := fun f a b d e => by rw [uI_f _ _ _ b, uI_f _ _ _ a, uI_f _ _ _ e, uI_f _ _ _ d]
  have k208 : cI (uI (uI (uI (uI c1 208 r (nI (R.1 32))) 209 r (nI (R.1 33))) 206 r 0) 207 r 0) 208 r = nI (R.1 32) := by rw [uI_f _ _ _ (by decide), uI_f _ _ _ (by decide), uI_f _ _ _ (by decide), uI_s]
  have k209 : cI (uI (uI (uI (uI c1 208 r (nI (R.1 32))) 209 r (nI (R.1 33))) 206 r 0) 207 r 0) 209 r = nI (R.1 33) := by rw [uI_f _ _ _ (by decide), uI_f _ _ _ (by decide), uI_s]
  have k206 : cI (uI (uI (uI (uI c1 208 r (nI (R.1 32))) 209 r (nI (R.1 33))) 206 r 0) 207 r 0) 206 r = 0 := by rw [uI_f _ _ _ (by decide), uI_s]
  have k207 : cI (uI (uI (uI (uI c1 208 r (nI (R.1 32))) 209 r (nI (R.1 33))) 206 r 0) 207 r 0) 207 r = 0 := uI_s _ _ _ _
  have sm2 : sm (uI (uI (uI (uI c1 208 r (nI (R.1 32))) 209 r (nI (R.1 33))) 206 r 0) 207 r 0) c1 := (sm_I _ _ _ _).tr ((sm_I _ _ _ _).tr ((sm_I _ _ _ _).tr (sm_I _ _ _ _)))
  have pP : ∀ f, cP (uI (uI (uI (uI c1 208 r (nI (R.1 32))) 209 r (nI (R.1 33))) 206 r 0) 207 r 0) f r = cP c1 f r := fun f => by rw [uI_P, uI_P, uI_P, uI_P]
  generalize uI (uI (uI (uI c1 208 r (nI (R.1 32))) 209 r (nI (R.1 33))) 206 r 0) 207 r 0 = c2 at z2 eo k208 k209 k206 k207 sm2 pP ⊢
  obtain ⟨sR, sQ, sJ, sK, sz⟩ := sm2
  have Ru2 : RuA c2 S r (y_z0 (R.u 6 1)) 0 0 := by
    refine ⟨(eo 712 (by decide) (by decide) (by decide) (by decide)).trans f712, by rw [pP, p713]; exact RqO.none _ _, fun x => absurd (show 0 < 0 from x) (Nat.lt_irrefl 0), ?_, k207, k206, fun a ha => ?_, ?_, ?_⟩
    · exact sF.c z2.1 (fun f a b => eo f (by omega) (by omega) (by omega) (by omega)) (fun f a b => by rw [sR]) (by rw [sQ]) rfl rfl rfl
    · rw [sK]; exact hzK a (by rw [← sz]; exact ha)
    · rw [eo 1000 (by decide) (by decide) (by decide) (by decide), eq 1000 (by decide)]; exact v1
    · rw [eo 1001 (by decide) (by decide) (by decide) (by decide), eq 1001 (by decide)]; exact v2
  have jj : ∀ a, a < 32768 → dk (cJ c2 r) a = R.2.2.2 a := fun a ha => by rw [sJ]; exact dkk a ha
  have zb' : ∀ k, (R.2.2.1.flatMap S.rec).length ≤ k → byA (R.2.2.1.flatMap S.rec) k = 0 := fun k hk => by
    unfold byA
    rw [List.getD_eq_getElem?_getD, List.getElem?_eq_none hk]; rfl
  have hsf : SfOk S (y_z0 (R.u 6 1)) := ⟨Nat.le_refl 0, Nat.zero_le _, Nat.le_refl 0, Nat.zero_le _, (by decide : 0 < 29990)⟩
  rw [show (0 : Int32) = nI 0 from rfl]
  refine q_cu13 (h := R.1 33) hC hTW j1 R.2.2.1 0 0 128 0 c2 (y_z0 (R.u 6 1)) (by omega) (by omega) (by omega) hN hsf hrep Ru2 k209 (fun k hk => ?_) ?_ ?_ fun c3 ku3 Ru3 => ?_
  · rw [Nat.add_zero, jj _ (by omega)]; exact d2 k (by omega)
  · rw [Nat.zero_add, jj _ (by omega), d2 _ (by omega)]; exact zb' _ (Nat.le_refl _)
  · rw [Nat.zero_add, Nat.add_assoc, jj _ (by omega), d2 _ (by omega)]; exact zb' _ (by omega)
  · rw [Nat.zero_add, Nat.zero_add] at Ru3
    obtain ⟨q1, q2⟩ := reps_o S R.2.2.1 (y_z0 (R.u 6 1))
    have Ru3' : RuA c3 S r (y_up0 S (R.u 6 1)) (R.2.2.1.flatMap S.rec).length R.2.2.1.length := Ru3
    have q1' : ∀ f, f < 7 ∨ 12 < f → (y_up0 S (R.u 6 1)).1 f = (y_z0 (R.u 6 1)).1 f := q1
    have q2' : (y_up0 S (R.u 6 1)).2 = R.2 := q2
    obtain ⟨a1, a2, a3, a4, a5, a6, a7, a8, a9⟩ := Ru3'
    have eU : y_up1 S (R.u 6 1) = (((y_up0 S (R.u 6 1)).u 25 ((y_up0 S (R.u 6 1)).1 10)).u 35 y_no).u 13 0 := rfl
    rw [eU] at hB ⊢
    have g19 : (y_up0 S (R.u 6 1)).1 19 = 0 := (q1' 19 (by decide)).trans hz.1
    have g20 : (y_up0 S (R.u 6 1)).1 20 = 0 := (q1' 20 (by decide)).trans hz.2.1
    have g21 : (y_up0 S (R.u 6 1)).1 21 = 0 := (q1' 21 (by decide)).trans hz.2.2.1
    have g22 : (y_up0 S (R.u 6 1)).1 22 = 0 := (q1' 22 (by decide)).trans hz.2.2.2.1
    have g23 : (y_up0 S (R.u 6 1)).1 23 = 0 := (q1' 23 (by decide)).trans hz.2.2.2.2.1
    have g24 : (y_up0 S (R.u 6 1)).1 24 = 0 := (q1' 24 (by decide)).trans hz.2.2.2.2.2.1
    have g6 : (y_up0 S (R.u 6 1)).1 6 = 1 := (q1' 6 (by decide)).trans rfl
    have g31 : (y_up0 S (R.u 6 1)).1 31 = R.1 31 := (q1' 31 (by decide)).trans rfl
    have g32 : (y_up0 S (R.u 6 1)).1 32 = R.1 32 := (q1' 32 (by decide)).trans rfl
    have g33 : (y_up0 S (R.u 6 1)).1 33 = R.1 33 := (q1' 33 (by decide)).trans rfl
    have g34 : (y_up0 S (R.u 6 1)).1 34 = R.1 34 := (q1' 34 (by decide)).trans rfl
    have g43 : (y_up0 S (R.u 6 1)).1 43 = 0 := (q1' 43 (by decide)).trans rfl
    have g44 : (y_up0 S (R.u 6 1)).1 44 = 0 := (q1' 44 (by decide)).trans rfl
    have gq : (y_up0 S (R.u 6 1)).2.1 = [] := by rw [q2']; exact hz.2.2.2.2.2.2
    generalize y_up0 S (R.u 6 1) = U at a1 a2 a3 a4 q2' hB g19 g20 g21 g22 g23 g24 g6 g31 g32 g33 g34 g43 g44 gq ⊢
    rw [a1]
    refine tr_l1 (tr_l1 (tr_z1 (tr_l1 ?_)))
    have e3 : ∀ f, 100 ≤ f → ¬ (800 ≤ f ∧ f < 900) → f ≠ 1007 → f ≠ 1008 → f ≠ 1009 → f ≠ 712 → f ≠ 714 → f ≠ 206 → f ≠ 207 → cI c3 f r = cI c2 f r := ku3.2.1
    have z4 : zc r (uI (uI (uI c3 715 r (nI (U.1 10))) 205 r (-1)) 711 r 1) c := (zc_I rfl).tr ((zc_I rfl).tr ((zc_I rfl).tr (ku3.1.tr (z2.tr zF))))
    have z43 : zc r (uI (uI (uI c3 715 r (nI (U.1 10))) 205 r (-1)) 711 r 1) c3 := (zc_I rfl).tr ((zc_I rfl).tr (zc_I rfl))
    have e4 : ∀ f, f ≠ 715 → f ≠ 205 → f ≠ 711 → cI (uI (uI (uI c3 715 r (nI (U.1 10))) 205 r (-1)) 711 r 1) f r = cI c3 f r := fun f a b d => by rw [uI_f _ _ _ d, uI_f _ _ _ b, uI_f _ _ _ a]
    have p4 : ∀ f, cP (uI (uI (uI c3 715 r (nI (U.1 10))) 205 r (-1)) 711 r 1) f r = cP c3 f r := fun f => by rw [uI_P, uI_P, uI_P]
    have m715 : cI (uI (uI (uI c3 715 r (nI (U.1 10))) 205 r (-1)) 711 r 1) 715 r = nI (U.1 10) := by rw [uI_f _ _ _ (by decide), uI_f _ _ _ (by decide), uI_s]
    have m205 : cI (uI (uI (uI c3 715 r (nI (U.1 10))) 205 r (-1)) 711 r 1) 205 r = -1 := by rw [uI_f _ _ _ (by decide), uI_s]
    have m711 : cI (uI (uI (uI c3 715 r (nI (U.1 10))) 205 r (-1)) 711 r 1) 711 r = 1 := uI_s _ _ _ _
    have sm4 : sm (uI (uI (uI c3 715 r (nI (U.1 10))) 205 r (-1)) 711 r 1) c3 := (sm_I _ _ _ _).tr ((sm_I _ _ _ _).tr (sm_I _ _ _ _))
    generalize uI (uI (uI c3 715 r (nI (U.1 10))) 205 r (-1)) 711 r 1 = c4 at z4 z43 e4 p4 m715 m205 m711 sm4 ⊢
    obtain ⟨nR, nQ', nJ, nK, nz⟩ := sm4
    have keep : ∀ f, 100 ≤ f → ¬ (800 ≤ f ∧ f < 900) → f ≠ 1007 → f ≠ 1008 → f ≠ 1009 → f ≠ 712 → f ≠ 714 → f ≠ 206 → f ≠ 207 → f ≠ 208 → f ≠ 209 → f ≠ 715 → f ≠ 205 → f ≠ 711 → cI c4 f r = cI c1 f r := fun f b1 b2 b3 b4 b5 b6 b7 b8 b9 b10 b11 b12 b13 b14 => (e4 f b12 b13 b14).trans ((e3 f b1 b2 b3 b4 b5 b6 b7 b8 b9).trans (eo f b8 b9 b10 b11))
    have w4 : WC mm c4 (S.set r (((U.u 25 (U.1 10)).u 35 y_no).u 13 0)) := by
      refine WC_zc h z4 (fun _ => ⟨⟨?_, ?_, ?_, ?_, ?_⟩, fun f g hf => ?_, fun a ha => ?_⟩) (fun _ _ => ⟨fun f g hf => ?_, fun f g hf => ?_, fun x => ?_, ?_, ⟨?_, fun k hk => ?_⟩, ⟨?_, ?_, fun x => ?_⟩, ?_⟩)
      · rw [keep 1000 (by decide) (by decide) (by decide) (by decide) (by decide) (by decide) (by decide) (by decide) (by decide) (by decide) (by decide) (by decide) (by decide) (by decide), eq 1000 (by decide)]; exact v1
      · rw [keep 1001 (by decide) (by decide) (by decide) (by decide) (by decide) (by decide) (by decide) (by decide) (by decide) (by decide) (by decide) (by decide) (by decide) (by decide), eq 1001 (by decide)]; exact v2
      · rw [keep 700 (by decide) (by decide) (by decide) (by decide) (by decide) (by decide) (by decide) (by decide) (by decide) (by decide) (by decide) (by decide) (by decide) (by decide), eq 700 (by decide)]; exact v3
      · rw [keep 701 (by decide) (by decide) (by decide) (by decide) (by decide) (by decide) (by decide) (by decide) (by decide) (by decide) (by decide) (by decide) (by decide) (by decide), eq 701 (by decide)]; exact v4
      · rw [keep 702 (by decide) (by decide) (by decide) (by decide) (by decide) (by decide) (by decide) (by decide) (by decide) (by decide) (by decide) (by decide) (by decide) (by decide), eq 702 (by decide)]; exact v5
      · unfold sca at hf
        split at hf
        · injection hf with hf; subst hf
          rw [m711]
          show (1 : Int32) = nI (U.1 6)
          rw [g6]; rfl
        · injection hf with hf; subst hf
          rw [keep 204 (by decide) (by decide) (by decide) (by decide) (by decide) (by decide) (by decide) (by decide) (by decide) (by decide) (by decide) (by decide) (by decide) (by decide), eq 204 (by decide), al2 204 34 rfl]
          show nI (R.1 34) = nI (U.1 34)
          rw [g34]
        · injection hf with hf; subst hf
          rw [m205]; rfl
        · cases hf
      · rw [nJ, ku3.2.2.2.2.2, jj a ha]
        show R.2.2.2 a = U.2.2.2 a
        rw [q2']
      · unfold sci at hf
        split at hf
        · injection hf with hf; subst hf
          rw [e4 712 (by decide) (by decide) (by decide)]; exact a1
        · injection hf with hf; subst hf
          rw [m715]; rfl
        · injection hf with hf; subst hf
          rw [keep 716 (by decide) (by decide) (by decide) (by decide) (by decide) (by decide) (by decide) (by decide) (by decide) (by decide) (by decide) (by decide) (by decide) (by decide), f716]; rfl
        · injection hf with hf; subst hf
          rw [keep 400 (by decide) (by decide) (by decide) (by decide) (by decide) (by decide) (by decide) (by decide) (by decide) (by decide) (by decide) (by decide) (by decide) (by decide), f400]
          show (0 : Int32) = nI (U.1 19)
          rw [g19]; rfl
        · injection hf with hf; subst hf
          rw [keep 401 (by decide) (by decide) (by decide) (by decide) (by decide) (by decide) (by decide) (by decide) (by decide) (by decide) (by decide) (by decide) (by decide) (by decide), f401]
          show (0 : Int32) = nI (U.1 20)
          rw [g20]; rfl
        · injection hf with hf; subst hf
          rw [keep 402 (by decide) (by decide) (by decide) (by decide) (by decide) (by decide) (by decide) (by decide) (by decide) (by decide) (by decide) (by decide) (by decide) (by decide), f402]
          show (0 : Int32) = nI (U.1 21)
          rw [g21]; rfl
        · injection hf with hf; subst hf
          rw [keep 405 (by decide) (by decide) (by decide) (by decide) (by decide) (by decide) (by decide) (by decide) (by decide) (by decide) (by decide) (by decide) (by decide) (by decide), f405]
          show (0 : Int32) = nI (U.1 24)
          rw [g24]; rfl
        · injection hf with hf; subst hf
          rw [e4 208 (by decide) (by decide) (by decide), e3 208 (by decide) (by decide) (by decide) (by decide) (by decide) (by decide) (by decide) (by decide) (by decide), k208]
          show nI (R.1 32) = nI (U.1 32)
          rw [g32]
        · injection hf with hf; subst hf
          rw [e4 209 (by decide) (by decide) (by decide), e3 209 (by decide) (by decide) (by decide) (by decide) (by decide) (by decide) (by decide) (by decide) (by decide), k209]
          show nI (R.1 33) = nI (U.1 33)
          rw [g33]
        · injection hf with hf; subst hf
          rw [e4 207 (by decide) (by decide) (by decide), a5, ← d1]
          show nI (R.1 31) = nI (U.1 31)
          rw [g31]
        · cases hf
      · unfold pci at hf
        split at hf
        · injection hf with hf; subst hf
          rw [p4, ku3.2.2.1 403 (by decide) (by decide), pP, p403]
          show RqO c4 S.tb none (U.1 22)
          rw [g22]; exact RqO.none _ _
        · injection hf with hf; subst hf
          rw [p4, ku3.2.2.1 404 (by decide) (by decide), pP, p404]
          show RqO c4 S.tb none (U.1 23)
          rw [g23]; exact RqO.none _ _
        · injection hf with hf; subst hf
          rw [p4]; exact a2.c z43.1
        · cases hf
      · rw [e4 714 (by decide) (by decide) (by decide)]; exact a3 x
      · rw [e4 206 (by decide) (by decide) (by decide), a6]
        show nI R.2.2.1.length = nI U.2.2.1.length
        rw [q2']
      · rw [keep 601 (by decide) (by decide) (by decide) (by decide) (by decide) (by decide) (by decide) (by decide) (by decide) (by decide) (by decide) (by decide) (by decide) (by decide), f601]
        show (0 : Int32) = nI U.2.1.length
        rw [gq]; rfl
      · have hk' : k < U.2.1.length := hk
        rw [gq] at hk'
        exact absurd hk' (Nat.not_lt_zero _)
      · rw [keep 501 (by decide) (by decide) (by decide) (by decide) (by decide) (by decide) (by decide) (by decide) (by decide) (by decide) (by decide) (by decide) (by decide) (by decide), f501]
        show (-1 : Int32) = if U.1 43 = 0 then -1 else nI (U.1 43)
        rw [if_pos g43]
      · rw [keep 502 (by decide) (by decide) (by decide) (by decide) (by decide) (by decide) (by decide) (by decide) (by decide) (by decide) (by decide) (by decide) (by decide) (by decide), f502]
        show (0 : Int32) = nI (U.1 44)
        rw [g44]; rfl
      · have x' : 0 < U.1 43 := x
        rw [g43] at x'
        exact absurd x' (Nat.lt_irrefl 0)
      · exact a4.c z43.1 (fun f _ _ => e4 f (by omega) (by omega) (by omega)) (fun f _ _ => by rw [nR]) (by rw [nQ']) rfl rfl rfl
    have hJ' : JR (((U.u 25 (U.1 10)).u 35 y_no).u 13 0) := by
      refine ⟨?_, ?_, ?_, Or.inr rfl⟩
      · show U.1 33 ≤ 1; rw [g33]; exact j1
      · show U.1 31 ≤ 206 * U.2.2.1.length; rw [g31, q2']; exact j2
      · show U.2.2.1.length ≤ 48; rw [q2']; exact j3
    refine tr_b2 (c_ckp hC w4 hr g6 hJ' hB (show U.1 32 < 2 ^ 30 by rw [g32]; exact hg)) fun c5 v hv => ?_
    exact tr_some hv.2
