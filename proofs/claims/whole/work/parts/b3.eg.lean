/-! telling, learning -/
theorem sesT_o (S : Sx) (r s : Nat) (hC : Cx S) : (∀ f, f ≠ 46 → (y_sesT S r s).1 f = (S.se s).1 f) ∧ (y_sesT S r s).2 = (S.se s).2 ∧ ((S.se s).1 46 ≤ 4 → (y_sesT S r s).1 46 ≤ 4) ∧ ((y_sesT S r s).1 46 = (S.se s).1 46 ∨ ((S.se s).1 46 = 2 ∧ 2 ≤ (y_sesT S r s).1 46)) := by
  unfold y_sesT
  split
  · rename_i c
    have hv := (st_b (V := S.V) (g := S.lg) hC.tb ((S.rp r).1 7) s).2
    have e46 : (va_up (S.se s).1 46 (2 + (S.sta ((S.rp r).1 7)).2.2.1 s)) 46 = 2 + (S.sta ((S.rp r).1 7)).2.2.1 s := va_up_self _ _ _
    have hv' : (S.sta ((S.rp r).1 7)).2.2.1 s ≤ 2 := hv
    refine ⟨fun f hf => va_up_ne _ _ hf, rfl, fun _ => ?_, Or.inr ⟨c.2.1, ?_⟩⟩
    · show (va_up (S.se s).1 46 (2 + (S.sta ((S.rp r).1 7)).2.2.1 s)) 46 ≤ 4
      rw [e46]; omega
    · show 2 ≤ (va_up (S.se s).1 46 (2 + (S.sta ((S.rp r).1 7)).2.2.1 s)) 46
      rw [e46]; omega
  · exact ⟨fun _ _ => rfl, rfl, id, Or.inl rfl⟩
theorem Mid.tell {K G : Nat} {g : Gh} {S : Sx} {r : Nat} {R : Rp} (h : Mid K G g S r R) : ∃ S' R', y_tell (S.set r R) r = S'.set r R' ∧ (∀ f, f ≠ 43 → f ≠ 44 → R'.1 f = R.1 f) ∧ R'.2.2 = R.2.2 ∧ Mid K G g S' r R' ∧ S'.rp = S.rp ∧ S'.1 = S.1 := by
  obtain ⟨q1, q2, q3, q4, q5, q6⟩ := h
  have hc := q1
  obtain ⟨p1, p2, p3, p4, p5, p6, p7, p8, p9, p10, p11, p12⟩ := hc
  rw [tell_eq]
  generalize hX : (if R.1 43 ≤ R.1 7 then (R.u 43 0).u 44 0 else R) = Y
  have y1 : ∀ f, f ≠ 43 → f ≠ 44 → Y.1 f = R.1 f := fun f a b => by
    rw [← hX]
    split
    · rw [u_n _ _ b, u_n _ _ a]
    · rfl
  have y2 : Y.2 = R.2 := by rw [← hX]; split <;> rfl
  have yL : Lo K G S Y := by
    rw [← hX]
    split
    · exact (q4.u rfl (Nat.zero_le _)).u rfl (show 0 < 16 by decide)
    · exact q4
  clear hX
  have yQ : Lo K G S (Y.q (R.2.1.filter (fun q => !y_known (S.set r R) r q))) := by
    refine yL.q ⟨Nat.le_trans (List.length_filter_le _ _) q4.2.2.1.1, fun q hq => q4.2.2.1.2 q (List.mem_filter.mp hq).1⟩
  refine ⟨_, _, rfl, fun f a b => y1 f a b, ?_, ?_, rfl, rfl⟩
  · show Y.2.2 = R.2.2
    rw [y2]
  have eW : Gw S (S.sets (y_sesT (S.set r R) r)) := Gw_sets _ _
  have eW' : Gw (S.set r R) ((S.sets (y_sesT (S.set r R) r)).set r (Y.q (R.2.1.filter (fun q => !y_known (S.set r R) r q)))) := Gw_e (fun _ _ => rfl) rfl rfl
  have f6 : (Y.q (R.2.1.filter (fun q => !y_known (S.set r R) r q))).1 6 = R.1 6 := y1 6 (by decide) (by decide)
  have f7 : (Y.q (R.2.1.filter (fun q => !y_known (S.set r R) r q))).1 7 = R.1 7 := y1 7 (by decide) (by decide)
  have f10 : (Y.q (R.2.1.filter (fun q => !y_known (S.set r R) r q))).1 10 = R.1 10 := y1 10 (by decide) (by decide)
  refine ⟨?_, q2, q3.c f7 (y1 11 (by decide) (by decide)) (y1 12 (by decide) (by decide)), yQ.m (Nat.le_refl _) (Nat.le_refl _) eW, (q5.c (R' := Y.q (R.2.1.filter (fun q => !y_known (S.set r R) r q))) (by show Y.2.2 = R.2.2; rw [y2]) ⟨f7, y1 8 (by decide) (by decide), f10, y1 11 (by decide) (by decide), y1 12 (by decide) (by decide)⟩ (y1 31 (by decide) (by decide)) (y1 32 (by decide) (by decide)) (y1 33 (by decide) (by decide)) ?_).g eW, f6.trans q6⟩
  · have so := fun s => sesT_o (S.set r R) r s p1
    refine q1.step (Nat.le_refl _) eW' ?_ p2 p3 p4 (TI.m p6 rfl rfl rfl rfl (fun s => (so s).1 47 (by decide))) (fun s hs => ?_) ?_ ?_ (fun k hk => by rw [set_ne _ _ hk, set_ne _ _ hk]; rfl) (fun _ _ _ _ _ w => w) (fun _ _ _ _ _ _ w => w) (fun m hm => Or.inl hm) (fun i i1 i2 => absurd i2 (Nat.not_le_of_lt i1)) q2
    · have := Cx_ses (f := y_sesT (S.set r R) r) (S := S.set r R) p1 (fun s hs => by
        have a := p1.s s hs
        have b := (so s).2.2.1 (p7 s hs).1
        rw [(so s).1 48 (by decide), (so s).1 47 (by decide)]
        exact ⟨by omega, a.2.1, a.2.2⟩)
      exact this
    · show SeI K _ (y_sesT (S.set r R) r s)
      obtain ⟨s1, s2, s3, s4, s5, s6, s7, s8⟩ := p7 s hs
      have o := so s
      refine ⟨o.2.2.1 s1, by rw [o.1 52 (by decide)]; exact s2, by rw [o.1 47 (by decide)]; exact s3, fun z => by rw [o.1 49 (by decide)]; exact s4 (by rcases o.2.2.2 with w | w <;> omega), by rw [o.2.1]; exact s5, by rw [o.2.1]; exact s6, fun q => ?_, fun q => ?_⟩
      · rw [o.1 48 (by decide), o.1 49 (by decide)]
        have q' : ((S.set r R).se s).1 46 = 1 := by
          rcases o.2.2.2 with w | w
          · omega
          · omega
        obtain ⟨a1, a2, a3⟩ := s7 q'
        by_cases e : ((S.set r R).se s).1 48 = r
        · rw [e, set_rp] at a2 a3
          rw [e, set_rp]
          exact ⟨q2, by rw [f6]; exact a2, by rw [f7]; exact a3⟩
        · rw [set_ne _ _ e] at a2 a3
          rw [set_ne _ _ e]
          exact ⟨a1, a2, a3⟩
      · rw [o.1 48 (by decide), o.1 47 (by decide), o.1 53 (by decide)]
        have q' : ((S.set r R).se s).1 46 = 2 := by
          rcases o.2.2.2 with w | w
          · omega
          · exact w.1
        exact s8 q'
    · rw [pm_set, ix_set, f7, f10]
      have := p8
      rw [pm_set, ix_set] at this
      exact this
    · have e : pmS ((S.sets (y_sesT (S.set r R) r)).set r (Y.q (R.2.1.filter (fun q => !y_known (S.set r R) r q)))) = pmS (S.set r R) := by rw [pm_set, pm_set, f10]; rfl
      rw [e]; exact Ex.refl (fun _ => Nat.le_refl _)
  · unfold DuOk
    rw [show (Y.q (R.2.1.filter (fun q => !y_known (S.set r R) r q))).1 35 = R.1 35 from y1 35 (by decide) (by decide)]
    exact q5.2.2.2.2.2.2.2
theorem st_log {V : Nat} {tb : Nat → Rq} {g g' : Nat → Nat} : ∀ i, (∀ j, 1 ≤ j → j ≤ i → g' j = g j) → stN V tb g' i = stN V tb g i := by
  intro i
  induction i with
  | zero => intro _; rfl
  | succ i ih =>
    intro h
    show y_app V (stN V tb g' i) i (tb (g' (i + 1))) = y_app V (stN V tb g i) i (tb (g (i + 1)))
    rw [ih (fun j h1 hj => h j h1 (by omega)), h (i + 1) (by omega) (Nat.le_refl _)]
theorem Gw_log (S : Sx) (i q : Nat) (hi : S.ll < i ∨ S.ll ≥ i) : Gw S (S.log (max S.ll i) (if S.ll < i then va_up S.lg i q else S.lg)) := by
  have el : (S.log (max S.ll i) (if S.ll < i then va_up S.lg i q else S.lg)).ll = max S.ll i := va_up_self S.1 100 (max S.ll i)
  have eo : ∀ f, f ≠ 100 → (S.log (max S.ll i) (if S.ll < i then va_up S.lg i q else S.lg)).1 f = S.1 f := fun f hf => va_up_ne _ _ hf
  have eg : ∀ j, j ≤ S.ll → (if S.ll < i then va_up S.lg i q else S.lg) j = S.lg j := fun j hj => by
    split
    · exact va_up_ne _ _ (by omega)
    · rfl
  refine ⟨eo 1 (by decide), eo 2 (by decide), eo 3 (by decide), Nat.le_of_eq (eo 4 (by decide)).symm, by rw [el]; omega, fun j _ hj => eg j hj, fun _ _ => rfl, fun j hj => ?_⟩
  unfold Sx.sta
  rw [show (S.log (max S.ll i) (if S.ll < i then va_up S.lg i q else S.lg)).V = S.V from eo 2 (by decide)]
  exact st_log j (fun x _ hx => eg x (by omega))
theorem Lo.u22 {K G : Nat} {S : Sx} {R : Rp} (h4 : 0 < S.1 4) (h : Lo K G S R) : Lo K G S (R.u 22 0) := by
  obtain ⟨h1, h2, h3, h4', h5, h6⟩ := h
  exact ⟨okK_u h1 h4, h2, h3, fun q => ⟨(h4' q).1, (h4' q).2.1, rfl, (h4' q).2.2.2.1, (h4' q).2.2.2.2⟩, h5, h6⟩
theorem Lo.u21 {K G : Nat} {S : Sx} {R : Rp} (h : Lo K G S R) : Lo K G S (R.u 21 0) := by
  obtain ⟨h1, h2, h3, h4', h5, h6⟩ := h
  exact ⟨okK_u h1 (Nat.two_pow_pos S.N), h2, h3, fun q => ⟨(h4' q).1, rfl, (h4' q).2.2.1, (h4' q).2.2.2.1, (h4' q).2.2.2.2⟩, h5, h6⟩
def y_lr (R : Rp) : Rp := (if ((if R.1 19 = 1 then y_follow R else R).u 22 0).1 19 = 2 then ((if R.1 19 = 1 then y_follow R else R).u 22 0).u 21 0 else ((if R.1 19 = 1 then y_follow R else R).u 22 0)).u 13 0
theorem lr_o (R : Rp) : (∀ f, f ≠ 13 → f < 19 ∨ 24 < f → (y_lr R).1 f = R.1 f) ∧ (y_lr R).2 = R.2 ∧ (R.1 19 = 1 → (y_lr R).1 19 = 0) ∧ (R.1 19 ≠ 1 → (y_lr R).1 19 = R.1 19 ∧ (y_lr R).1 20 = R.1 20) ∧ (y_lr R).1 22 = 0 ∧ (R.1 19 = 2 → (y_lr R).1 21 = 0) := by
  unfold y_lr
  by_cases c : R.1 19 = 1
  · rw [if_pos c]
    have e : ((y_follow R).u 22 0).1 19 = 0 := rfl
    rw [if_neg (by rw [e]; decide)]
    refine ⟨fun f a b => ?_, rfl, fun _ => rfl, fun q => absurd c q, rfl, fun q => by omega⟩
    rw [u_n _ _ a, u_n _ _ (by omega)]; exact fol_o b
  · rw [if_neg c]
    have e : (R.u 22 0).1 19 = R.1 19 := u_n _ _ (by decide)
    rw [e]
    by_cases c2 : R.1 19 = 2
    · rw [if_pos c2]
      refine ⟨fun f a b => ?_, rfl, fun q => absurd q c, fun _ => ⟨rfl, rfl⟩, rfl, fun _ => rfl⟩
      rw [u_n _ _ a, u_n _ _ (by omega), u_n _ _ (by omega)]
    · rw [if_neg c2]
      refine ⟨fun f a b => ?_, rfl, fun q => absurd q c, fun _ => ⟨rfl, rfl⟩, rfl, fun q => absurd q c2⟩
      rw [u_n _ _ a, u_n _ _ (by omega)]
theorem Lo.lr {K G : Nat} {S : Sx} {R : Rp} (h4 : 0 < S.1 4) (h : Lo K G S R) : Lo K G S (y_lr R) := by
  have hA : Lo K G S (if R.1 19 = 1 then y_follow R else R) := by
    split
    · exact h.fol h4
    · exact h
  unfold y_lr
  generalize (if R.1 19 = 1 then y_follow R else R) = A at hA ⊢
  have hB := hA.u22 h4
  refine Lo.u ?_ rfl (Nat.zero_le K)
  split
  · exact hB.u21
  · exact hB
def y_lt (S : Sx) (R : Rp) : Rp := ((((R.u 7 (R.1 7 + 1)).u 8 (max (R.1 8) (R.1 7 + 1 - S.V))).u 9 (max (R.1 9) (R.1 7 + 1 - S.L))).u 11 0).u 12 0
theorem lt_o (S : Sx) (R : Rp) : (∀ f, f < 7 ∨ f = 10 ∨ 12 < f → (y_lt S R).1 f = R.1 f) ∧ (y_lt S R).2 = R.2 ∧ (y_lt S R).1 7 = R.1 7 + 1 ∧ (y_lt S R).1 8 = max (R.1 8) (R.1 7 + 1 - S.V) ∧ (y_lt S R).1 9 = max (R.1 9) (R.1 7 + 1 - S.L) ∧ (y_lt S R).1 11 = 0 ∧ (y_lt S R).1 12 = 0 := by
  refine ⟨fun f hf => ?_, rfl, rfl, rfl, rfl, rfl, rfl⟩
  unfold y_lt
  rw [u_n _ _ (by omega), u_n _ _ (by omega), u_n _ _ (by omega), u_n _ _ (by omega), u_n _ _ (by omega)]
/-- a slot is learnt: the log may be longer for it -/
theorem Cn.learn {K : Nat} {g : Gh} {S : Sx} {r q : Nat} {R R' : Rp} (h : Cn K g (S.set r R) r) (hr : r < S.N) (h6 : R'.1 6 = R.1 6) (h7 : R'.1 7 = R.1 7 + 1) (h10 : R'.1 10 = R.1 10) (h7l : R.1 7 ≤ S.ll) (hK : R.1 7 + 1 ≤ K) (hq : 0 < q) (hqn : q < S.1 4) (hc : Chs S.N g (R.1 7 + 1) q) : Cn K g ((S.log (max S.ll (R.1 7 + 1)) (if S.ll < R.1 7 + 1 then va_up S.lg (R.1 7 + 1) q else S.lg)).set r R') r := by
  have h' := h
  obtain ⟨q1, q2, q3, q4, q5, q6, q7, q8, q9, q10, q11, q12⟩ := h'
  have eW := Gw_log S (R.1 7 + 1) q (by omega)
  generalize hS : S.log (max S.ll (R.1 7 + 1)) (if S.ll < R.1 7 + 1 then va_up S.lg (R.1 7 + 1) q else S.lg) = S1 at eW ⊢
  have el : S1.ll = max S.ll (R.1 7 + 1) := by rw [← hS]; exact va_up_self S.1 100 _
  have eo : ∀ f, f ≠ 100 → S1.1 f = S.1 f := fun f hf => by rw [← hS]; exact va_up_ne _ _ hf
  have etb : S1.tb = S.tb := by rw [← hS]; rfl
  have ese : S1.se = S.se := by rw [← hS]; rfl
  have efl : S1.fl = S.fl := by rw [← hS]; rfl
  have erp : S1.rp = S.rp := by rw [← hS]; rfl
  have elg : S.ll < R.1 7 + 1 → S1.lg (R.1 7 + 1) = q := fun c => by
    rw [← hS]
    show (if S.ll < R.1 7 + 1 then va_up S.lg (R.1 7 + 1) q else S.lg) (R.1 7 + 1) = q
    rw [if_pos c, va_up_self]
  clear hS
  have eW' : Gw (S.set r R) (S1.set r R') := ((Gw_set' S r R).tr eW).tr (Gw_set _ _ _)
  have hCx : Cx S1 := Cx_c (S := S) q1 (fun f hf => eo f (by omega)) etb ese
  have e4 : S1.1 4 = S.1 4 := eo 4 (by decide)
  have el' : S1.ll ≤ K := by
    have q3' : S.ll ≤ K := q3
    omega
  have hix : ∀ k, ixS (S.set r R) k ≤ ixS (S1.set r R') k := fun k => by
    rw [ix_set, ix_set, ix_e erp]
    by_cases e : k = r
    · subst e; rw [va_up_self, va_up_self]; omega
    · rw [va_up_ne _ _ e, va_up_ne _ _ e]; exact Nat.le_refl _
  have hpm : pmS (S1.set r R') = pmS (S.set r R) := by rw [pm_set, pm_set, pm_e erp, h10]
  refine h.step (Nat.le_refl _) eW' hCx (by show S1.fl.length ≤ 200; rw [efl]; exact q2) el' (by show S1.1 4 ≤ K + 1; rw [e4]; exact q4) ?_ (fun s hs => ?_) ?_ ?_ (fun k hk => by rw [set_ne _ _ hk, set_ne _ _ hk, erp]) (fun _ _ _ _ _ w => w) (fun _ _ _ _ _ _ w => w) (fun m hm => Or.inl (by show m ∈ S.fl; rw [← efl]; exact hm)) (fun i i1 i2 => ?_) hr
  · obtain ⟨t1, t2, t3, t4, t5⟩ := q6
    refine ⟨by show TbW S1.tb; rw [etb]; exact t1, by show (S1.tb 0).1 1 = 0; rw [etb]; exact t2, fun x a b => ?_, fun x x' a b => ?_, fun i i1 i2 => ?_⟩
    · show 0 < (S1.tb x).1 1 ∧ (S1.tb x).1 1 ≤ (S1.se ((S1.tb x).1 0)).1 47
      rw [etb, ese]
      exact t3 x a (show x < S.1 4 by rw [← e4]; exact b)
    · show (S1.tb x).1 0 = (S1.tb x').1 0 → (S1.tb x).1 1 = (S1.tb x').1 1 → x = x'
      rw [etb]
      exact t4 x x' (show x < S.1 4 by rw [← e4]; exact a) (show x' < S.1 4 by rw [← e4]; exact b)
    · show 0 < S1.lg i ∧ S1.lg i < S1.1 4
      have i2' : i ≤ S1.ll := i2
      rw [e4]
      by_cases c : i ≤ S.ll
      · rw [eW.2.2.2.2.2.1 i i1 c]; exact t5 i i1 c
      · rw [show i = R.1 7 + 1 by omega, elg (by omega)]
        exact ⟨hq, hqn⟩
  · show SeI K (S1.set r R') (S1.se s)
    rw [ese]
    exact SeI.m (S := S.set r R) (q7 s hs) (Nat.le_refl _) eW' (fun k _ => by
      by_cases e : k = r
      · subst e; rw [set_rp, set_rp]; exact ⟨h6, by omega⟩
      · rw [set_ne _ _ e, set_ne _ _ e, erp]; exact ⟨rfl, Nat.le_refl _⟩)
  · rw [hpm, eW'.1]
    exact q8.raise (fun _ => Nat.le_refl _) (fun k _ => hix k)
  · rw [hpm]; exact Ex.refl (fun _ => Nat.le_refl _)
  · have i1' : S.ll < i := i1
    have i2' : i ≤ S1.ll := i2
    show Chs S.N g i (S1.lg i)
    rw [show i = R.1 7 + 1 by omega, elg (by omega)]
    exact hc
theorem Mid.learn {K G q : Nat} {g : Gh} {S : Sx} {r : Nat} {R : Rp} (h : Mid K G g S r R) (hK : K ≤ 600) (hG : G ≤ 1 + 4 * K) (hl : R.2.2.1.length < 48) (hq : 0 < q) (hqn : q < S.1 4) (hc : Chs S.N g (R.1 7 + 1) q) (h7K : R.1 7 + 1 ≤ K) :
    ((y_learn (S.set r R) r q).2 = true → ∃ S' R', (y_learn (S.set r R) r q).1 = S'.set r R' ∧ S'.rp = S.rp ∧ Gw S S' ∧ R'.1 7 = R.1 7 + 1 ∧ R'.1 10 = R.1 10 ∧ R'.2.2.1.length < 48 ∧ Mid K (G + 1) g S' r R' ∧ (R.1 19 = 1 → R'.1 19 = 0) ∧ (R.1 19 ≠ 1 → R'.1 19 = R.1 19 ∧ R'.1 20 = R.1 20) ∧ R'.1 22 = 0 ∧ (R.1 19 = 2 → R'.1 21 = 0)) ∧
    ((y_learn (S.set r R) r q).2 = false → Fi K (y_learn (S.set r R) r q).1 r) := by
  obtain ⟨br1, br2, br3⟩ := h.BR hK
  have hcn := h.1
  obtain ⟨p1, p2, p3, p4, p5, p6, p7, p8, p9, p10, p11, p12⟩ := hcn
  have hn : NbOk (3, 0, 0, q, 0) := ⟨show 1 ≤ 3 by decide, show 3 ≤ 5 by decide, show 0 < 2 ^ 31 by decide, show 0 < 2 ^ 31 by decide, show 0 < 2 ^ 31 by decide⟩
  have hw : NtW S (3, 0, 0, q, 0) := ⟨hn, ⟨show 0 < 2 ^ 31 by decide, fun x => (by cases x)⟩, fun _ => ⟨hq, hqn⟩, fun q => (by rcases q with q | q <;> cases q)⟩
  by_cases c : (y_note (S.set r R) r (3, 0, 0, q, 0)).2 = true
  · obtain ⟨R1, e1, e2, e3, e4, e5, e6⟩ := (note_D (r := r) (show Cx S from h.1.1) h.2.2.2.2.1 hl hn).1 c
    have e17 : R1.1 7 = R.1 7 := e2 7 (by decide) (by decide) (by decide)
    have eqL : y_learnt (S.set r R1) r q = (S.log (max S.ll (R.1 7 + 1)) (if S.ll < R.1 7 + 1 then va_up S.lg (R.1 7 + 1) q else S.lg)).set r (y_lt S R1) := by
      rw [learnt_eq, e17]
      unfold y_lt
      rw [e17]
    obtain ⟨t1, t2, t3, t4, t5, t6, t7⟩ := lt_o S R1
    have eW := Gw_log S (R.1 7 + 1) q (by omega)
    have hcn2 := h.1.learn (R' := y_lt S R1) h.2.1 ((t1 6 (by decide)).trans (e2 6 (by decide) (by decide) (by decide))) (by rw [t3, e17]) ((t1 10 (by decide)).trans (e2 10 (by decide) (by decide) (by decide))) br3 h7K hq hqn hc
    have el : (S.log (max S.ll (R.1 7 + 1)) (if S.ll < R.1 7 + 1 then va_up S.lg (R.1 7 + 1) q else S.lg)).ll = max S.ll (R.1 7 + 1) := va_up_self S.1 100 _
    have elg : (S.log (max S.ll (R.1 7 + 1)) (if S.ll < R.1 7 + 1 then va_up S.lg (R.1 7 + 1) q else S.lg)).lg (R.1 7 + 1) = q := by
      show (if S.ll < R.1 7 + 1 then va_up S.lg (R.1 7 + 1) q else S.lg) (R.1 7 + 1) = q
      by_cases cl : S.ll < R.1 7 + 1
      · rw [if_pos cl, va_up_self]
      · rw [if_neg cl]
        exact Chs.one p8 (p10 (R.1 7 + 1) (by omega) (show R.1 7 + 1 ≤ S.ll by omega)) hc
    have erp : (S.log (max S.ll (R.1 7 + 1)) (if S.ll < R.1 7 + 1 then va_up S.lg (R.1 7 + 1) q else S.lg)).rp = S.rp := rfl
    generalize hS : S.log (max S.ll (R.1 7 + 1)) (if S.ll < R.1 7 + 1 then va_up S.lg (R.1 7 + 1) q else S.lg) = S1 at eqL eW hcn2 el elg erp
    clear hS
    have hw1 := hw.g eW
    have hdd1 := h.2.2.2.2.1.g eW
    have hk1 : DkS S1 R1 := by
      refine e5.g eW (fun n hn' => ?_)
      rw [e4] at hn'
      rcases List.mem_append.mp hn' with a | a
      · exact h.2.2.2.2.1.2.2.1 n a
      · rw [List.mem_singleton.mp a]; exact hw
    have hm : rpM S1 R (3, 0, 0, q, 0) := ⟨⟨show 1 ≤ 3 by decide, show 3 ≤ 5 by decide, show 0 < 2 ^ 31 by decide, fun _ => ⟨hq, Nat.lt_of_lt_of_le hqn eW.2.2.2.1, elg, by omega⟩, fun q => (by cases q), fun q => (by cases q)⟩, fun _ => by rw [el]; omega⟩
    have er : y_rep S1 R (3, 0, 0, q, 0) = ((((R.u 7 (R.1 7 + 1)).u 8 (max (R.1 8) (R.1 7 + 1 - S1.V))).u 9 (max (R.1 9) (R.1 7 + 1 - S1.L))).u 11 0).u 12 0 := rfl
    have hDD : DD S1 (y_lt S R1) := by
      refine note_up hdd1 hl hk1 e4 hw1 hm (by rw [t2]) (t1 31 (by decide)) ((t1 32 (by decide)).trans (e2 32 (by decide) (by decide) (by decide))) ((t1 33 (by decide)).trans (e2 33 (by decide) (by decide) (by decide))) (e2 32 (by decide) (by decide) (by decide)) (e2 33 (by decide) (by decide) (by decide)) ?_ ?_
      · unfold DuOk
        rw [t1 35 (by decide)]; exact e6
      · rw [er]
        refine ⟨by rw [t3, e17]; rfl, ?_, (t1 10 (by decide)).trans (e2 10 (by decide) (by decide) (by decide)), t6, t7⟩
        rw [t4, e17, e2 8 (by decide) (by decide) (by decide)]
        show _ = max (R.1 8) (R.1 7 + 1 - S1.V)
        rw [eW.2.1]
    have hLo : Lo K G S1 (y_lt S R1) := by
      obtain ⟨l1, l2, l3, l4, l5, l6⟩ := h.2.2.2.1.d (R' := R1) (G' := G) (fun f a1 _ _ a4 a5 => e2 f a1 a4 a5) e3 (by rw [e2 32 (by decide) (by decide) (by decide)]; exact h.2.2.2.1.1 32)
      have l1' : ∀ f, okK K G S1 f (R1.1 f) := fun f => okK_m (l1 f) (Nat.le_refl _) (Nat.le_refl _) eW
      have h4' : 0 < S1.1 4 := Nat.lt_of_lt_of_le p5 eW.2.2.2.1
      refine ⟨okK_u (okK_u (okK_u (okK_u (okK_u l1' ?_) True.intro) True.intro) (Nat.zero_le (9 * K))) h4', ?_, ?_, ?_, ⟨fun _ => t6, fun z => by rw [t7] at z; omega⟩, ?_⟩
      · show R1.1 7 + 1 ≤ S1.ll
        rw [el, e17]; omega
      · unfold SfK at l2 ⊢
        have hV : 1 ≤ S.V := p1.2.2.1
        have hL : 1 ≤ S.L := p1.2.2.2.2.1
        rw [t3, t4, t5, eW.2.1, eW.2.2.1]
        omega
      · unfold QOk at l3 ⊢
        rw [t2]
        exact ⟨l3.1, fun x hx => ⟨(l3.2 x hx).1, Nat.lt_of_lt_of_le (l3.2 x hx).2 eW.2.2.2.1⟩⟩
      · unfold FoOk at l4 ⊢
        rw [t1 19 (by decide), t1 20 (by decide), t1 21 (by decide), t1 22 (by decide), t1 23 (by decide), t1 24 (by decide)]; exact l4
      · unfold TlOk at l6 ⊢
        rw [t1 23 (by decide), t1 24 (by decide)]; exact l6
    have hA : AcI g r (y_lt S R1) := by
      refine ⟨fun z => by rw [t7] at z; omega, fun _ b w => ?_⟩
      have := (p8.1 _ _ r h.2.1 w).2.2
      rw [ix_set, va_up_self, t3, e17] at this
      omega
    have hM : Mid K G g S1 r (y_lt S R1) := ⟨hcn2, by rw [eW.1]; exact h.2.1, hA, hLo, hDD, ((t1 6 (by decide)).trans (e2 6 (by decide) (by decide) (by decide))).trans h.2.2.2.2.2⟩
    obtain ⟨k1, k2⟩ := hM.ckp hK hG
    by_cases cc : (y_ckp (S1.set r (y_lt S R1)) r).2 = true
    · obtain ⟨R3, a1, a2, a3, a4, a5⟩ := k1 cc
      rw [learn_eq2 c e1 (by rw [eqL]; exact cc) (by rw [eqL]; exact a1)]
      refine ⟨fun _ => ?_, fun z => (by cases z)⟩
      show ∃ S' R', y_tell (S1.set r (y_lr R3)) r = _ ∧ _
      obtain ⟨w1, w2, w3, w4, w5, w6⟩ := lr_o R3
      have hM4 : Mid K (G + 1) g S1 r (y_lr R3) := a5.c (w1 6 (by decide) (by decide)) (w1 7 (by decide) (by decide)) (w1 10 (by decide) (by decide)) (w1 11 (by decide) (by decide)) (w1 12 (by decide) (by decide)) (a5.2.2.2.1.lr (Nat.lt_of_lt_of_le p5 eW.2.2.2.1)) (a5.2.2.2.2.1.c (by rw [w2]) ⟨w1 7 (by decide) (by decide), w1 8 (by decide) (by decide), w1 10 (by decide) (by decide), w1 11 (by decide) (by decide), w1 12 (by decide) (by decide)⟩ (w1 31 (by decide) (by decide)) (w1 32 (by decide) (by decide)) (w1 33 (by decide) (by decide)) (by unfold DuOk; rw [w1 35 (by decide) (by decide)]; exact a5.2.2.2.2.1.2.2.2.2.2.2.2))
      obtain ⟨S', R', x1, x2, x3, x4, x5, x6⟩ := hM4.tell
      have f3 : ∀ f, f < 31 → f ≠ 43 → R3.1 f = (y_lt S R1).1 f := fun f hf _ => a2 f (by omega) (by omega) (by omega) (by omega) (by omega)
      have f1 : ∀ f, f = 10 ∨ (12 < f ∧ f < 31) → R3.1 f = R.1 f := fun f hf => (f3 f (by omega) (by omega)).trans ((t1 f (by omega)).trans (e2 f (by omega) (by omega) (by omega)))
      refine ⟨S', R', x1, x5.trans erp, ?_, ?_, ?_, ?_, x4, fun z => ?_, fun z => ?_, ?_, fun z => ?_⟩
      · have hb := x4.1
        have e1 : S'.1 = S1.1 := x6
        refine eW.tr ?_
        obtain ⟨_, _, xe, _⟩ := (⟨x1, x2, x3, x4⟩ : _ ∧ _ ∧ _ ∧ _)
        have et := tell_eq (S := S1) (r := r) (R := y_lr R3)
        rw [x1] at et
        have etb : S'.tb = S1.tb := by
          have : (S'.set r R').tb = _ := congrArg Sx.tb et
          exact this
        have elg' : S'.lg = S1.lg := by
          have : (S'.set r R').lg = _ := congrArg Sx.lg et
          exact this
        exact Gw_e (fun f _ => by rw [e1]) etb elg'
      · rw [x2 7 (by decide) (by decide), w1 7 (by decide) (by decide), f3 7 (by decide) (by decide), t3, e17]
      · rw [x2 10 (by decide) (by decide), w1 10 (by decide) (by decide)]; exact f1 10 (Or.inl rfl)
      · rw [x3, w2]; exact a4
      · rw [x2 19 (by decide) (by decide)]; exact w3 ((f1 19 (by decide)).trans z)
      · rw [x2 19 (by decide) (by decide), x2 20 (by decide) (by decide)]
        have := w4 (by rw [f1 19 (by decide)]; exact z)
        rw [this.1, this.2, f1 19 (by decide), f1 20 (by decide)]
        exact ⟨rfl, rfl⟩
      · rw [x2 22 (by decide) (by decide)]; exact w5
      · rw [x2 21 (by decide) (by decide)]; exact w6 ((f1 19 (by decide)).trans z)
    · have cf : (y_ckp (S1.set r (y_lt S R1)) r).2 = false := Bool.eq_false_iff.mpr cc
      rw [learn_eq1 c e1 (by rw [eqL]; exact cf), eqL]
      exact ⟨fun z => (by cases z), fun _ => k2 cf⟩
  · have cf : (y_note (S.set r R) r (3, 0, 0, q, 0)).2 = false := Bool.eq_false_iff.mpr c
    rw [learn_eq0 cf]
    exact ⟨fun q => (by cases q), fun _ => h.note0 hG hl hn cf⟩
