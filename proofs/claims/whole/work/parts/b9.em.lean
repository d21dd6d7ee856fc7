theorem W16.or {x : Int32} {k : Nat} (h : W16 x) (hk : k < 16) : W16 (x ||| ((1 : Int32) <<< (nI k &&& 31))) := by
  obtain ⟨w, hw, rfl⟩ := h
  have e : ((1 : Int32) <<< (nI k &&& 31)) = nI (2 ^ k) := by
    have : ∀ j : Fin 16, ((1 : Int32) <<< (nI j.1 &&& 31)) = nI (2 ^ j.1) := by decide +kernel
    exact this ⟨k, hk⟩
  rw [e, nI_or]
  exact ⟨w ||| 2 ^ k, Nat.or_lt_two_pow (n := 16) hw (Nat.pow_lt_pow_right (by decide) hk), rfl⟩
theorem iv_begin {K : Nat} {S : Sx} {s r w : Nat} (h : IvS K S) (hKb : K < 600) (hs : s < 16) (hr : r < S.N) (h6 : (S.rp r).1 6 = 1) (hw : w ≤ 1) : IvS K (y_begin S s r w) := by
  have h' := h
  obtain ⟨g, hg⟩ := h'
  obtain ⟨s1, s2, s3, s4, s5, s6, s7, s8⟩ := hg.2.2.2.2.2.2.1 s hs
  have h7 : (S.rp r).1 7 ≤ S.ll := (Al.of hg hr h6).1.2.2.2.1.1 7
  have hN : S.N ≤ 9 := hg.1.2.1
  exact iv_ses1 h (Nat.le_refl _) hKb ⟨show 1 ≤ 4 by decide, hw, s3, fun _ => h7, W16.z, W16.z, fun _ => ⟨hr, h6, Nat.le_refl _⟩, fun z => absurd (show (1 : Nat) = 2 from z) (by decide)⟩ (Nat.le_refl _) (show r < 2 ^ 31 by omega)
theorem iv_write {K : Nat} {S : Sx} {s k : Nat} {v : Int32} (h : IvS K S) (hKb : K < 600) (hs : s < 16) (hk : k < 16) : IvS K (y_write S s k v) := by
  have h' := h
  obtain ⟨g, hg⟩ := h'
  obtain ⟨s1, s2, s3, s4, s5, s6, s7, s8⟩ := hg.2.2.2.2.2.2.1 s hs
  exact iv_ses1 h (Nat.le_refl _) hKb ⟨s1, s2, s3, s4, s5, s6.or hk, s7, s8⟩ (Nat.le_refl _) (hg.1.s s hs).2.1
theorem iv_read {K : Nat} {S : Sx} {s k : Nat} (h : IvS K S) (hKb : K < 600) (hs : s < 16) (hk : k < 16) : IvS K (y_read S s k) := by
  have h' := h
  obtain ⟨g, hg⟩ := h'
  obtain ⟨s1, s2, s3, s4, s5, s6, s7, s8⟩ := hg.2.2.2.2.2.2.1 s hs
  exact iv_ses1 h (Nat.le_refl _) hKb ⟨s1, s2, s3, s4, s5.or hk, s6, s7, s8⟩ (Nat.le_refl _) (hg.1.s s hs).2.1
theorem iv_end {K : Nat} {S : Sx} {s v : Nat} (h : IvS K S) (hKb : K < 600) (hs : s < 16) (hv : v = 3 ∨ v = 4) : IvS K (y_end S s v) := by
  have h' := h
  obtain ⟨g, hg⟩ := h'
  obtain ⟨s1, s2, s3, s4, s5, s6, s7, s8⟩ := hg.2.2.2.2.2.2.1 s hs
  refine iv_ses1 h (Nat.le_refl _) hKb ⟨show v ≤ 4 by omega, s2, s3, fun z => by have z' : v = 1 := z; omega, s5, s6, fun z => ?_, fun z => ?_⟩ (Nat.le_refl _) (hg.1.s s hs).2.1
  · have z' : v = 1 := z
    omega
  · have z' : v = 2 := z
    omega
theorem iv_com {K : Nat} {S : Sx} {s : Nat} (h : IvS K S) (hKb : K < 600) (hs : s < 16) (h46 : (S.se s).1 46 = 1) : IvS (K + 1) (y_com S s) := by
  obtain ⟨g, hg⟩ := h
  have h0 : 0 < S.N := by have := hg.1.1; omega
  obtain ⟨hc, hr⟩ := hg.opn h0
  have hc' := hc
  obtain ⟨q1, q2, q3, q4, q5, ⟨t1, t2, t3, t4, t5⟩, q7, q8, q9, q10, q11, q12⟩ := hc'
  obtain ⟨s1, s2, s3, s4, s5, s6, s7, s8⟩ := q7 s hs
  obtain ⟨z1, z2, z3⟩ := s7 h46
  have eo : ∀ f, f ≠ 4 → (y_com S s).1 f = S.1 f := fun f hf => va_up_ne _ _ hf
  have e4 : (y_com S s).1 4 = S.1 4 + 1 := va_up_self S.1 4 _
  have etn : (y_com S s).tb (S.1 4) = y_rqE (S.se s) s := va_up_self S.tb (S.1 4) _
  have eto : ∀ q, q ≠ S.1 4 → (y_com S s).tb q = S.tb q := fun q hq => va_up_ne _ _ hq
  have ess : (y_com S s).se s = y_comE (S.se s) (S.1 4) := ses_s _ _ _
  have eso : ∀ k, k ≠ s → (y_com S s).se k = S.se k := fun k hk => ses_n _ _ hk
  have e47 : ∀ k, (S.se k).1 47 ≤ ((y_com S s).se k).1 47 := fun k => by
    by_cases c : k = s
    · subst c; rw [ess]; exact Nat.le_succ _
    · rw [eso k c]; exact Nat.le_refl _
  have erp : (y_com S s).rp = S.rp := rfl
  have elg : (y_com S s).lg = S.lg := rfl
  have efl : (y_com S s).fl = S.fl := rfl
  have eW : Gw S (y_com S s) := by
    refine ⟨eo 1 (by decide), eo 2 (by decide), eo 3 (by decide), by rw [e4]; exact Nat.le_succ _, Nat.le_of_eq (eo 100 (by decide)).symm, fun _ _ _ => rfl, fun q hq => eto q (by omega), fun i hi => ?_⟩
    exact sta_tbl (q := y_rqE (S.se s) s) (fun j a b => (t5 j a b).2) hi
  have s4' := s4 h46
  have hCx : Cx (y_com S s) := Cx_tbl q1 hs (by omega) (by omega) (by omega)
  refine ⟨g, Cn.close (r := 0) ?_ ?_⟩
  · refine hc.step (Nat.le_succ K) eW hCx q2 (by rw [show (y_com S s).ll = S.ll from eo 100 (by decide)]; omega) (by rw [e4]; omega) ⟨fun q => ?_, ?_, fun q a b => ?_, fun q q' a b c d => ?_, fun i a b => ?_⟩ (fun k hk => ?_) (by rw [eW.1]; exact q8) (Ex.refl (fun _ => Nat.le_refl _)) (fun _ _ => rfl) (fun _ _ _ _ _ w => w) (fun _ _ _ _ _ _ w => w) (fun m hm => Or.inl hm) (fun i i1 i2 => ?_) h0
    · by_cases c : q = S.1 4
      · rw [c, etn]; exact ⟨s5, s6⟩
      · rw [eto q c]; exact t1 q
    · rw [eto 0 (by omega)]; exact t2
    · by_cases c : q = S.1 4
      · rw [c, etn]
        show 0 < (S.se s).1 47 + 1 ∧ (S.se s).1 47 + 1 ≤ ((y_com S s).se s).1 47
        rw [ess]
        exact ⟨Nat.succ_pos _, Nat.le_refl _⟩
      · rw [eto q c]
        have := t3 q a (by rw [e4] at b; omega)
        exact ⟨this.1, Nat.le_trans this.2 (e47 _)⟩
    · rw [e4] at a b
      by_cases x : q = S.1 4
      · by_cases y : q' = S.1 4
        · omega
        · exfalso
          rw [x, etn, eto q' y] at c d
          have c' : s = (S.tb q').1 0 := c
          have d' : (S.se s).1 47 + 1 = (S.tb q').1 1 := d
          rcases Nat.eq_zero_or_pos q' with w | w
          · rw [w, t2] at d'; omega
          · have := (t3 q' w (by omega)).2
            rw [← c'] at this
            omega
      · by_cases y : q' = S.1 4
        · exfalso
          rw [y, etn, eto q x] at c d
          have c' : (S.tb q).1 0 = s := c
          have d' : (S.tb q).1 1 = (S.se s).1 47 + 1 := d
          rcases Nat.eq_zero_or_pos q with w | w
          · rw [w, t2] at d'; omega
          · have := (t3 q w (by omega)).2
            rw [c'] at this
            omega
        · rw [eto q x, eto q' y] at c d
          exact t4 q q' (by omega) (by omega) c d
    · rw [elg, e4]
      have := t5 i a (by rw [show (y_com S s).ll = S.ll from eo 100 (by decide)] at b; exact b)
      omega
    · by_cases c : k = s
      · rw [c, ess]
        refine ⟨show 2 ≤ 4 by decide, s2, show (S.se s).1 47 + 1 ≤ K + 1 by omega, fun z => absurd (show (2 : Nat) = 1 from z) (by decide), s5, s6, fun z => absurd (show (2 : Nat) = 1 from z) (by decide), fun _ => ⟨by rw [eW.1]; exact z1, Nat.succ_pos _, q5, ?_⟩⟩
        show S.1 4 < (y_com S s).1 4
        omega
      · rw [eso k c]
        exact SeI.m (q7 k hk) (Nat.le_succ K) eW (fun _ _ => ⟨rfl, Nat.le_refl _⟩)
    · rw [show (y_com S s).ll = S.ll from eo 100 (by decide)] at i2
      exact absurd i2 (Nat.not_le_of_lt i1)
  · exact hr.m (Nat.le_succ K) (by omega) eW (Ex.refl (fun _ => Nat.le_refl _)) (fun _ _ w => w) (fun _ _ _ w => w)
theorem iv_wait {K : Nat} {S : Sx} {r q : Nat} (h : IvS K S) (hr : r < S.N) (h6 : (S.rp r).1 6 = 1) (hq : 0 < q) (hqn : q < S.1 4) : IvS K (y_wait S r q) := by
  obtain ⟨g, hg⟩ := h
  have := (Al.of hg hr h6).wait (Nat.le_refl _) hq hqn
  rw [set_id] at this
  exact this.iv
theorem iv_commit {K : Nat} {S : Sx} {s : Nat} (h : IvS K S) (hKb : K < 600) (hs : s < 16) (h46 : (S.se s).1 46 = 1) : IvS (K + 1) (y_commit S s) := by
  have h' := h
  obtain ⟨g, hg⟩ := h'
  obtain ⟨z1, z2, z3⟩ := (hg.2.2.2.2.2.2.1 s hs).2.2.2.2.2.2.1 h46
  have e4 : (y_com S s).1 4 = S.1 4 + 1 := va_up_self S.1 4 _
  have e1 : (y_com S s).1 1 = S.1 1 := va_up_ne S.1 (k := 4) (j := 1) (S.1 4 + 1) (by decide)
  exact iv_wait (iv_com h hKb hs h46) (show (S.se s).1 48 < (y_com S s).1 1 by rw [e1]; exact z1) z2 hg.2.2.2.2.1 (by rw [e4]; exact Nat.lt_succ_self _)
/-! try again -/
def y_retry (S : Sx) (s r : Nat) : Sx := if (S.sta ((S.rp r).1 7)).2.1 s = (S.se s).1 47 then S.ses s (((S.se s).u 48 r).u 46 (2 + (S.sta ((S.rp r).1 7)).2.2.1 s)) else y_wait (S.ses s ((S.se s).u 48 r)) r ((S.se s).1 53)
theorem iv_retry {K : Nat} {S : Sx} {s r : Nat} (h : IvS K S) (hKb : K < 600) (hs : s < 16) (hr : r < S.N) (h6 : (S.rp r).1 6 = 1) (h46 : (S.se s).1 46 = 2) : IvS K (y_retry S s r) := by
  have h' := h
  obtain ⟨g, hg⟩ := h'
  obtain ⟨s1, s2, s3, s4, s5, s6, s7, s8⟩ := hg.2.2.2.2.2.2.1 s hs
  obtain ⟨z1, z2, z3, z4⟩ := s8 h46
  have hN : S.N ≤ 9 := hg.1.2.1
  have hv : (S.sta ((S.rp r).1 7)).2.2.1 s ≤ 2 := (st_b (V := S.V) (g := S.lg) hg.1.tb ((S.rp r).1 7) s).2
  unfold y_retry
  split
  · refine iv_ses1 h (Nat.le_refl _) hKb ⟨show 2 + (S.sta ((S.rp r).1 7)).2.2.1 s ≤ 4 by omega, s2, s3, fun z => by have z' : 2 + (S.sta ((S.rp r).1 7)).2.2.1 s = 1 := z; omega, s5, s6, fun z => ?_, fun z => ⟨hr, z2, z3, z4⟩⟩ (Nat.le_refl _) (show r < 2 ^ 31 by omega)
    have z' : 2 + (S.sta ((S.rp r).1 7)).2.2.1 s = 1 := z
    omega
  · have := iv_ses1 (s := s) (e := (S.se s).u 48 r) h (Nat.le_refl _) hKb ⟨s1, s2, s3, fun z => by have z' : (S.se s).1 46 = 1 := z; omega, s5, s6, fun z => ?_, fun z => ⟨hr, z2, z3, z4⟩⟩ (Nat.le_refl _) (show r < 2 ^ 31 by omega)
    · exact iv_wait this hr h6 z3 z4
    · have z' : (S.se s).1 46 = 1 := z
      omega
/-! what the calls ask for -/
theorem iv_bs {K : Nat} {S : Sx} (h : IvS K S) (hK : K < 600) : Bs S ∧ S.fl.length ≤ 200 ∧ TbW S.tb ∧ (∀ r, r < S.N → (S.rp r).1 7 < 2 ^ 30 ∧ (S.rp r).1 8 ≤ (S.rp r).1 7) ∧ (∀ s, s < 16 → (S.se s).1 52 ≤ 1) ∧ (∀ s, s < 16 → (S.se s).1 46 = 1 → (S.se s).1 48 < S.N ∧ (S.rp ((S.se s).1 48)).1 6 = 1 ∧ (S.se s).1 49 ≤ (S.rp ((S.se s).1 48)).1 7) ∧ (∀ r i, r < S.N → (S.rp r).1 9 < i → i ≤ (S.rp r).1 7 → 0 < S.lg i ∧ S.lg i < S.1 4) ∧ SeW S := by
  obtain ⟨g, hg⟩ := h
  have hg' := hg
  obtain ⟨q1, q2, q3, q4, q5, q6, q7, q8, q9, q10, q11, q12⟩ := hg'
  have hL : ∀ r, r < S.N → Lo K (1 + 4 * K) S (S.rp r) := fun r hr => (hg.opn hr).2.2.1
  have h7 : ∀ r, r < S.N → (S.rp r).1 7 ≤ S.ll := fun r hr => (hL r hr).1 7
  refine ⟨⟨q1, fun r hr => (hL r hr).1 6, fun s hs => (q7 s hs).1⟩, q2, q6.1, fun r hr => ⟨by have := h7 r hr; omega, (hL r hr).2.1.1⟩, fun s hs => (q7 s hs).2.1, fun s hs => (q7 s hs).2.2.2.2.2.2.1, fun r i hr a b => q6.2.2.2.2 i (by omega) (by have := h7 r hr; omega), fun s hs z => ((q7 s hs).2.2.2.2.2.2.2 z).2.1⟩
theorem iv_ok {K : Nat} {S : Sx} {r : Nat} (h : IvS K S) (hK : K < 600) (hr : r < S.N) (h6 : (S.rp r).1 6 = 1) : OkR S (S.rp r) ∧ FoOk (S.rp r) ∧ AcOk (S.rp r) ∧ TlOk (S.rp r) ∧ (S.rp r).1 21 < 2 ^ S.N ∧ (S.rp r).1 13 + 1 < 65536 ∧ max ((S.rp r).1 10) ((S.rp r).1 25) + 9 < 65536 ∧ (S.rp r).1 7 + 2 < 29990 ∧ (S.rp r).1 32 + 1 < 65536 ∧ ((S.rp r).1 19 = 2 → (S.rp r).1 22 = 0 → (S.rp r).1 21 = 0) := by
  obtain ⟨g, hg⟩ := h
  obtain ⟨a1, a2, a3, a4, a5⟩ := Al.of hg hr h6
  obtain ⟨l1, l2, l3, l4, l5, l6⟩ := a1.2.2.2.1
  have hl : S.ll ≤ K := hg.2.2.1
  have hN : S.N ≤ 9 := hg.1.2.1
  have v7 : (S.rp r).1 7 ≤ S.ll := l1 7
  have v10 : (S.rp r).1 10 ≤ 9 * K := l1 10
  have v11 : (S.rp r).1 11 ≤ 9 * K := l1 11
  have v13 : (S.rp r).1 13 ≤ K := l1 13
  have v20 : (S.rp r).1 20 ≤ 9 * K := l1 20
  have v21 : (S.rp r).1 21 < 2 ^ S.N := l1 21
  have v24 : (S.rp r).1 24 ≤ 9 * K := l1 24
  have v25 : (S.rp r).1 25 ≤ 9 * K := l1 25
  have v32 : (S.rp r).1 32 ≤ 1 + 4 * K := l1 32
  have v43 : (S.rp r).1 43 ≤ S.ll := l1 43
  have h512 : 2 ^ S.N ≤ 2 ^ 9 := Nat.pow_le_pow_right (by decide) hN
  have h512' : (2 : Nat) ^ 9 = 512 := rfl
  refine ⟨⟨fun f => ?_, a1.2.2.2.2.1.J hg.1, a2, l3, by omega, l2.1, l2.2.1, l2.2.2.1, l2.2.2.2⟩, l4, l5, l6, v21, by omega, by omega, by omega, by omega, fun z1 z2 => ((a4 z1).2.1 z2).2⟩
  unfold okw
  split
  · omega
  · omega
  · exact l1 12
  · omega
  · exact l1 19
  · omega
  · omega
  · exact l1 22
  · exact l1 23
  · omega
  · omega
  · omega
  · omega
  · exact l1 44
  · exact True.intro
theorem iv_dn {K : Nat} {S : Sx} {r : Nat} (h : IvS K S) (hK : K < 600) (hr : r < S.N) (h6 : (S.rp r).1 6 = 0) : UpOk S (S.rp r) := by
  obtain ⟨g, hg⟩ := h
  obtain ⟨h1, ⟨p, h3, h4, h5, h6'⟩⟩ := hg.opn hr
  have hl : S.ll ≤ K := hg.2.2.1
  have v7 : (S.rp r).1 7 ≤ S.ll := h3.1 7
  have v10 : (S.rp r).1 10 ≤ 9 * K := h3.1 10
  have v11 : (S.rp r).1 11 ≤ 9 * K := h3.1 11
  have v32 : (S.rp r).1 32 ≤ 1 + 4 * K := h3.1 32
  obtain ⟨e7, e8, e10, e11, e12⟩ := up1_5 h4
  refine ⟨h6' h6, h4.J hg.1, h4.1, h4.2.1, by omega, fun n hn => ⟨(h4.2.2.1 n hn).1, (h4.2.2.1 n hn).2.1⟩, up1_A h4, ?_⟩
  unfold BR
  rw [e7, e8, e10, e11, e12]
  exact ⟨by omega, h3.2.1.1, h3.2.1.2.1, by omega, by omega, h3.1 12⟩
theorem iv_lg {K : Nat} {S : Sx} (h : IvS K S) : LgOk S ∧ LgC K0 S := by
  obtain ⟨g, hg⟩ := h
  have hg' := hg
  obtain ⟨q1, q2, q3, q4, q5, q6, q7, q8, q9, q10, q11, q12⟩ := hg'
  have key : ∀ r, (S.rp r).1 7 ≤ S.ll ∧ (S.rp r).1 43 ≤ S.ll ∧ ∀ n, n ∈ (S.rp r).2.2.1 → (n.1 = 4 ∨ n.1 = 5) → n.2.2.2.2 ≤ S.ll := fun r => by
    by_cases c : r < S.N
    · have := (hg.opn c).2
      exact ⟨this.2.1.1 7, this.2.1.1 43, fun n hn z => (this.2.2.1.2.2.1 n hn).2.2.2 z⟩
    · obtain ⟨a, b, d⟩ := q12 r (by omega)
      rw [a, b, d]
      exact ⟨Nat.zero_le _, Nat.zero_le _, fun n hn => by cases hn⟩
  have hm : ∀ m, m ∈ S.fl → m 0 = 8 → m 4 ≤ S.ll := fun m hm z => ((q9 m hm).1.2.2.2.2.2.2.2.2.2.2.2 z).1
  exact ⟨⟨fun r _ => ⟨(key r).1, (key r).2.2⟩, hm⟩, fun r _ => ⟨(key r).1, (key r).2.1⟩, hm, fun _ _ z => by cases z⟩
theorem iv_cm {K : Nat} {S : Sx} (h : IvS K S) (hK : K < 600) : CmOk S := by
  have hlg := iv_lg h
  have hbs := iv_bs h hK
  have h' := h
  obtain ⟨g, hg⟩ := h'
  have hg' := hg
  obtain ⟨q1, q2, q3, q4, q5, q6, q7, q8, q9, q10, q11, q12⟩ := hg'
  refine ⟨hlg.1, hlg.2, fun i a b => (q6.2.2.2.2 i a b).2, fun m hm => (q9 m hm).1.2.2.2.2.2.2.1, fun r hr h6 => ?_, fun s hs z => ((q7 s hs).2.2.2.2.2.2.2 z).2.2.2, q5, by omega, fun s hs => ?_, fun s hs z => ?_, fun q a b => (q6.2.2.1 q a b).2⟩
  · have o := (hg.opn hr).2.2.1
    exact ⟨o.1 22, o.1 23, o.1 12, o.2.2.1⟩
  · have a := (q7 s hs).2.2.1
    have b := (q7 s hs).2.2.2.1
    exact ⟨by omega, fun z => by have := b z; omega⟩
  · have := hbs.2.2.2.2.2.1 s hs z
    exact ⟨this.1, this.2.1⟩
/-- a frame that comes to a replica that is up -/
theorem iv_msg {K : Nat} {S : Sx} {g : Gh} {m : Mg} (hg : Cn K g S 9) (hm : MgI K g (pmS S) S m) (hK : K < 600) : MgOk S m ∧ MgC S m ∧ (∀ q', q' ∈ (S.rp (m 2)).2.1 → (S.tb q').1 0 = (S.tb (m 5)).1 0 → (S.tb q').1 1 = (S.tb (m 5)).1 1 → q' = m 5) ∧ (m 0 = 5 → m 4 = (S.rp (m 2)).1 7 + 1 → (S.rp (m 2)).1 7 + 1 ≤ S.ll → S.lg ((S.rp (m 2)).1 7 + 1) = m 5) ∧ (m 0 = 4 → (S.rp (m 2)).1 19 = 2 → (S.rp (m 2)).1 20 = m 3 → ¬ (S.rp (m 2)).1 22 = 0 → m 4 = (S.rp (m 2)).1 7 + 1 → ¬ ((S.rp (m 2)).1 21).testBit (m 1) → S.N < 2 * y_count S.N ((S.rp (m 2)).1 21 ||| 2 ^ (m 1)) → (S.rp (m 2)).1 7 + 1 ≤ S.ll → S.lg ((S.rp (m 2)).1 7 + 1) = (S.rp (m 2)).1 22) := by
  obtain ⟨⟨m1, m2, m3, m4, m5, m6, m7, m8, m9, m10, m11, m12⟩, k2, k3, k4, k5⟩ := hm
  have hg' := hg
  obtain ⟨q1, q2, q3, q4, q5, q6, q7, q8, q9, q10, q11, q12⟩ := hg'
  have hN : S.N ≤ 9 := q1.2.1
  have o := (hg.opn m4).2
  refine ⟨⟨m1, m2, by omega, by omega, by omega, by omega, m7, by omega, m10, fun z => ?_⟩, ⟨m3, m4, m11, fun z => (m12 z).2⟩, fun q' hq' a b => ?_, fun z1 z2 z3 => ?_, fun z1 z2 z3 z4 z5 z6 z7 z8 => ?_⟩
  · have a := m12 z
    have : (S.enc (m 4)).length ≤ 197 := enc_len q1 (by omega)
    have b := a.2
    unfold y_many at b
    omega
  · have hq := o.2.1.2.2.1.2 q' hq'
    exact q6.2.2.2.1 q' (m 5) hq.2 m7 a b
  · have c := k5 z1
    rw [z2] at c
    exact Chs.one q8 (q10 _ (by omega) z3) c
  · obtain ⟨b1, b2, b3⟩ := o.1.2.2.1 z2
    obtain ⟨g22, v21⟩ := b3 (by omega)
    refine Chs.one q8 (q10 _ (by omega) z8) ⟨by omega, (S.rp (m 2)).1 20, g22, (S.rp (m 2)).1 21 ||| 2 ^ (m 1), z7, fun k hk hb => ?_⟩
    rcases tbw_or hb with w | w
    · exact v21 k hk w
    · have := k4 z1
      rw [z5, ← z3] at this
      rw [w]; exact this
