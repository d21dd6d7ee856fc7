/-! ===== the reference against the middle machine: going down, blocks ===== -/
theorem r_follow {M : vM} {S : Sx} {r : Nat} {R : Rp} (h : WM M (S.set r R)) (hr : r < 9) : tr (F_X12_follow M (nI r)) (fun M' => WM M' (S.set r (y_follow R))) := by
  unfold F_X12_follow
  refine tr_Sr 0 h hr rfl (by decide) (by decide) (by decide) fun M1 h1 => ?_
  refine tr_Sr 0 h1 hr rfl (by decide) (by decide) (by decide) fun M2 h2 => ?_
  refine tr_Sr 0 h2 hr rfl (by decide) (by decide) (by decide) fun M3 h3 => ?_
  refine tr_Sr 0 h3 hr rfl (by decide) (by decide) (by decide) fun M4 h4 => ?_
  refine tr_Sr 0 h4 hr rfl (by decide) (by decide) (by decide) fun M5 h5 => ?_
  refine tr_Sr 0 h5 hr rfl (by decide) (by decide) (by decide) fun M6 h6 => ?_
  exact tr_some h6
theorem nI_inj {a b : Nat} (ha : a < 2 ^ 32) (hb : b < 2 ^ 32) (e : nI a = nI b) : a = b := by
  have e3 := congrArg (fun v : Int32 => v.toBitVec.toNat) e
  have e4 : (nI a).toBitVec.toNat = (nI b).toBitVec.toNat := e3
  rw [nI_tn ha, nI_tn hb] at e4
  exact e4
theorem tr_eq {ρ : Type} {a b : Nat} {x y : Option ρ} {Q : ρ → Prop} (ha : a < 2 ^ 32) (hb : b < 2 ^ 32) (h1 : a = b → tr x Q) (h2 : ¬ a = b → tr y Q) : tr (if nI a = nI b then x else y) Q := by
  by_cases e : a = b
  · rw [if_pos (by rw [e])]; exact h1 e
  · rw [if_neg (fun q => e (nI_inj ha hb q))]; exact h2 e
theorem tr_le {ρ : Type} {a b : Nat} {x y : Option ρ} {Q : ρ → Prop} (ha : a < 2 ^ 31) (hb : b < 2 ^ 31) (h1 : a ≤ b → tr x Q) (h2 : b < a → tr y Q) : tr (if nI a ≤ nI b then x else y) Q := by
  by_cases e : a ≤ b
  · rw [if_pos (nI_le e hb)]; exact h1 e
  · rw [if_neg (nI_ge (by omega) ha)]; exact h2 (by omega)
theorem tr_lt {ρ : Type} {a b : Nat} {x y : Option ρ} {Q : ρ → Prop} (ha : a < 2 ^ 31) (hb : b < 2 ^ 31) (h1 : a < b → tr x Q) (h2 : b ≤ a → tr y Q) : tr (if nI a < nI b then x else y) Q := by
  by_cases e : a < b
  · rw [if_pos (Int32.not_le.mp (nI_ge e hb))]; exact h1 e
  · rw [if_neg (Int32.not_lt.mpr (nI_le (by omega) ha))]; exact h2 (by omega)
theorem sse_r {j : Nat} (h : sse j = true) : 46 ≤ j ∧ j ≤ 53 := by
  by_cases hj : j < 54
  · have : ∀ j : Fin 54, sse j.1 = true → 46 ≤ j.1 ∧ j.1 ≤ 53 := by decide
    exact this ⟨j, hj⟩ h
  · exfalso
    have : sse j = false := by
      unfold sse
      split <;> first | omega | rfl
    rw [this] at h
    exact absurd h (by decide)
theorem zs_45 {j : Nat} (h : 45 ≤ j) : zs j = 0 := by
  refine Decidable.byContradiction fun q => ?_
  have := (zs_0 q).2.1
  omega
/-- one number of a session -/
theorem WM_s {M : vM} {S : Sx} {s f v : Nat} (h : WM M S) (hf : sse f = true) {g : Nat → Se} (hg : ∀ k, k < 16 → g k = if k = s then (va_up (S.se s).1 f v, (S.se s).2) else S.se k) : WM (uE M f s (nI v)) (S.sets g) := by
  obtain ⟨h1, h2, h3, h4, h5, h6⟩ := h
  obtain ⟨z1, z2⟩ := sse_r hf
  have en : ∀ k, k ≠ f → (uE M f s (nI v)).2 k = M.2 k := fun k hk => funext fun x => uE_j _ _ _ hk
  refine ⟨h1, h2, RT_c (fun k hk => en k (by omega)) h3, fun r hr => by rw [vw_z (zs_45 (by omega))]; exact h4 r hr, fun k hk => ?_, fun n hn => RG_c (fun k hk hk2 => en k (by omega)) (h6 n hn)⟩
  show RS (uE M f s (nI v)).2 k (g k)
  rw [hg k hk]
  have a := h5 k hk
  obtain ⟨a1, a2, a3, a4⟩ := a
  have f50 : f ≠ 50 := fun e => by rw [e] at hf; exact absurd hf (by decide)
  have f51 : f ≠ 51 := fun e => by rw [e] at hf; exact absurd hf (by decide)
  by_cases e : k = s
  · subst e
    rw [if_pos rfl]
    refine ⟨fun j hj => ?_, by rw [en 50 (Ne.symm f50)]; exact a2, by rw [en 51 (Ne.symm f51)]; exact a3, fun x hx => by rw [en 54 (by omega)]; exact a4 x hx⟩
    by_cases ej : j = f
    · subst ej; rw [uE_s]; exact congrArg nI (va_up_self _ _ _).symm
    · rw [en j ej, a1 j hj]; exact congrArg nI (va_up_ne _ _ ej).symm
  · rw [if_neg e]
    refine ⟨fun j hj => ?_, by rw [en 50 (Ne.symm f50)]; exact a2, by rw [en 51 (Ne.symm f51)]; exact a3, fun x hx => by rw [en 54 (by omega)]; exact a4 x hx⟩
    rw [uE_i _ _ e]; exact a1 j hj
theorem WM_sg {M : vM} {S : Sx} {s f : Nat} (h : WM M S) (hs : s < 16) (hf : sse f = true) : M.2 f s = nI ((S.se s).1 f) := (h.2.2.2.2.1 s hs).1 f hf
theorem sse_mL {j : Nat} (h : sse j = true) : mL j = 16 := by
  obtain ⟨z1, z2⟩ := sse_r h
  have : ∀ j : Fin 54, sse j.1 = true → mL j.1 = 16 := by decide
  exact this ⟨j, by omega⟩ h
theorem tr_Gs {ρ : Type} {M : vM} {S : Sx} {s j : Nat} {f : Int32 → Option ρ} {Q : ρ → Prop} (h : WM M S) (hs : s < 16) (hj : sse j = true) (g : tr (f (nI ((S.se s).1 j))) Q) : tr ((mG M j (nI s)).bind f) Q :=
  tr_G (by rw [sse_mL hj]; exact hs) (by omega) (by rw [WM_sg h hs hj]; exact g)
theorem sets_sets (S : Sx) (g k : Nat → Se) : (S.sets g).sets k = S.sets k := rfl
theorem sets_id (S : Sx) : S.sets S.se = S := rfl
/-- sessions of a replica that goes down -/
def y_ses4 (S : Sx) (r : Nat) : Nat → Se := fun s => if (S.se s).1 46 = 1 ∧ (S.se s).1 48 = r then (va_up (S.se s).1 46 4, (S.se s).2) else S.se s
theorem q_gd {r : Nat} (hr : r < 9) : ∀ (d k fl : Nat) (M : vM) (S : Sx) (g : Nat → Se), (∀ s, s < 16 → (S.se s).1 46 < 2 ^ 31 ∧ (S.se s).1 48 < 2 ^ 31) → k + d = 16 → d < fl → WM M S → (∀ s, s < 16 → g s = if k ≤ s then y_ses4 S r s else S.se s) → tr (L_X12_goDown_21 (nI r) (fun M' => some M') fl M (nI k)) (fun M' => WM M' (S.sets g)) := by
  intro d
  induction d with
  | zero =>
    intro k fl M S g hb h1 h2 h hg
    obtain ⟨fl, rfl⟩ : ∃ f', fl = f' + 1 := ⟨fl - 1, by omega⟩
    obtain rfl : k = 16 := by omega
    rw [L_X12_goDown_21, if_pos (show (16 : Int32) ≤ nI 16 from nI_le (Nat.le_refl 16) (by decide))]
    refine tr_some ?_
    obtain ⟨a1, a2, a3, a4, a5, a6⟩ := h
    refine ⟨a1, a2, a3, a4, fun s hs => ?_, a6⟩
    show RS M.2 s (g s)
    rw [hg s hs, if_neg (by omega)]
    exact a5 s hs
  | succ d ih =>
    intro k fl M S g hb h1 h2 h hg
    obtain ⟨fl, rfl⟩ : ∃ f', fl = f' + 1 := ⟨fl - 1, by omega⟩
    have hk : k < 16 := by omega
    rw [L_X12_goDown_21, if_neg (show ¬ (16 : Int32) ≤ nI k from nI_ge (b := 16) (by omega) (by decide)), show nI k + (1 : Int32) = nI (k + 1) from nI_add k 1]
    have keep : (S.se k).1 46 ≠ 1 ∨ (S.se k).1 48 ≠ r → tr ((mG M 46 (nI k)).bind fun v10 => (mS M 46 (nI k) v10).bind fun M11 => L_X12_goDown_21 (nI r) (fun M' => some M') fl M11 (nI (k + 1))) (fun M' => WM M' (S.sets g)) := by
      intro hc
      refine tr_Gs h hk rfl ?_
      refine tr_S (show k < 16 from hk) (by omega) ?_
      have e0 : (va_up (S.se k).1 46 ((S.se k).1 46), (S.se k).2) = S.se k := by
        have : va_up (S.se k).1 46 ((S.se k).1 46) = (S.se k).1 := by
          funext x
          by_cases e : x = 46
          · subst e; rw [va_up_self]
          · rw [va_up_ne _ _ e]
        rw [this]
      have h' := WM_s (s := k) (f := 46) (v := (S.se k).1 46) (g := S.se) h rfl (fun x _ => by
        by_cases e : x = k
        · subst e; rw [if_pos rfl, e0]
        · rw [if_neg e])
      refine ih (k + 1) fl _ S g hb (by omega) (by omega) h' fun s hs => ?_
      rw [hg s hs]
      by_cases e : s = k
      · subst e
        rw [if_pos (by omega), if_neg (by omega)]
        unfold y_ses4
        rw [if_neg (by omega)]
      · by_cases e2 : k ≤ s
        · rw [if_pos e2, if_pos (by omega)]
        · rw [if_neg e2, if_neg (by omega)]
    refine tr_Gs h hk rfl ?_
    refine tr_jn ?_
    have b46 := (hb k hk).1
    have b48 := (hb k hk).2
    refine tr_eq (b := 1) (by omega) (by decide) (fun c1 => ?_) (fun c1 => ?_)
    · refine tr_Gs h hk rfl ?_
      refine tr_eq (by omega) (by omega) (fun c2 => ?_) (fun c2 => ?_)
      · skip
        refine tr_S (show k < 16 from hk) (by omega) ?_
        have h' := WM_s (s := k) (f := 46) (v := 4) (g := fun x => if x = k then (va_up (S.se k).1 46 4, (S.se k).2) else S.se x) h rfl (fun x _ => rfl)
        refine ih (k + 1) fl _ (S.sets (fun x => if x = k then (va_up (S.se k).1 46 4, (S.se k).2) else S.se x)) g (fun s hs => ?_) (by omega) (by omega) h' fun s hs => ?_
        · show ((if s = k then (va_up (S.se k).1 46 4, (S.se k).2) else S.se s) : Se).1 46 < 2 ^ 31 ∧ ((if s = k then (va_up (S.se k).1 46 4, (S.se k).2) else S.se s) : Se).1 48 < 2 ^ 31
          by_cases e : s = k
          · subst e
            rw [if_pos rfl]
            exact ⟨by show va_up (S.se s).1 46 4 46 < _; rw [va_up_self]; decide, by show va_up (S.se s).1 46 4 48 < _; rw [va_up_ne _ _ (by decide)]; exact (hb s hs).2⟩
          · rw [if_neg e]; exact hb s hs
        · rw [hg s hs]
          by_cases e : s = k
          · subst e
            rw [if_pos (Nat.le_refl _), if_neg (show ¬ s + 1 ≤ s by omega)]
            unfold y_ses4
            rw [if_pos ⟨c1, c2⟩]
            exact (if_pos rfl).symm
          · have e1 : (S.sets (fun x => if x = k then (va_up (S.se k).1 46 4, (S.se k).2) else S.se x)).se s = S.se s := if_neg e
            have e3 : y_ses4 (S.sets (fun x => if x = k then (va_up (S.se k).1 46 4, (S.se k).2) else S.se x)) r s = y_ses4 S r s := by
              unfold y_ses4
              rw [e1]
            rw [e1, e3]
            by_cases e2 : k ≤ s
            · rw [if_pos e2, if_pos (show k + 1 ≤ s by omega)]
            · rw [if_neg e2, if_neg (show ¬ k + 1 ≤ s by omega)]
      · exact keep (Or.inr c2)
    · exact keep (Or.inl c1)
theorem RR_q {V : Nat} {st : Nat → Sta} {lg : Nat → Nat} {w : Nat → Nat → Int32} {R : Rp} {l : List Nat} {j i : Nat} {v : Int32} (h : RR V st lg w R) (hj : j = 26 ∨ j = 27) (h1 : ∀ k, k < l.length → vi_u2 w j i v 26 k = nI (l.getD k 0)) (h2 : vi_u2 w j i v 27 0 = nI l.length) : RR V st lg (vi_u2 w j i v) (R.q l) := by
  have hn : ∀ k x, k ≠ 26 → k ≠ 27 → vi_u2 w j i v k x = w k x := fun k x e1 e2 => vi_u2i _ _ (by omega)
  obtain ⟨a1, a2, a3, a4, a5, a6, a7, a8, a9, a10, a11⟩ := h
  refine ⟨fun k hk => ?_, fun i k b1 b2 b3 => ?_, fun i b1 b2 b3 => ?_, fun i b1 b2 => ?_, fun s hs => ?_, fun s hs => ?_, h1, h2, fun k hk => ?_, ?_, fun a ha => ?_⟩
  · rw [hn k 0 (fun e => by rw [e] at hk; exact absurd hk (by decide)) (fun e => by rw [e] at hk; exact absurd hk (by decide))]; exact a1 k hk
  · rw [hn _ _ (by decide) (by decide)]; exact a2 i k b1 b2 b3
  · rw [hn _ _ (by decide) (by decide)]; exact a3 i b1 b2 b3
  · rw [hn _ _ (by decide) (by decide)]; exact a4 i b1 b2
  · rw [hn _ _ (by decide) (by decide)]; exact a5 s hs
  · rw [hn _ _ (by decide) (by decide)]; exact a6 s hs
  · obtain ⟨q1, q2, q3, q4, q5, q6⟩ := a9 k hk
    have e29 : vi_u2 w j i v 29 = w 29 := funext fun x => hn _ _ (by decide) (by decide)
    refine ⟨?_, ?_, ?_, ?_, fun e => ?_, fun e x hx => ?_⟩
    · rw [hn _ _ (by decide) (by decide)]; exact q1
    · rw [hn _ _ (by decide) (by decide)]; exact q2
    · rw [hn _ _ (by decide) (by decide)]; exact q3
    · rw [hn _ _ (by decide) (by decide)]; exact q4
    · rw [e29]; exact q5 e
    · rw [hn _ _ (by decide) (by decide)]; exact q6 e x hx
  · rw [hn _ _ (by decide) (by decide)]; exact a10
  · rw [hn _ _ (by decide) (by decide)]; exact a11 a ha
/-- the queue's length alone, when it gets shorter -/
theorem WM_ql {M : vM} {S : Sx} {r n : Nat} {R : Rp} (h : WM M (S.set r R)) (hr : r < 9) (hn : n ≤ R.2.1.length) : WM (uE M 27 r (nI n)) (S.set r (R.q (R.2.1.take n))) := by
  have hl : (R.2.1.take n).length = n := by rw [List.length_take]; omega
  have := WM_set (j := 27) (i := 0) (v := nI n) (R' := R.q (R.2.1.take n)) h hr (by decide) (RR_q (WM_r h hr) (Or.inr rfl) (fun k hk => by
    rw [hl] at hk
    rw [vi_u2i _ _ (by decide), (WM_r h hr).2.2.2.2.2.2.1 k (by omega)]
    rw [List.getD_eq_getElem?_getD, List.getD_eq_getElem?_getD, List.getElem?_take, if_pos hk]) (by rw [vi_u2s, hl]))
  rw [show zs 27 = 1 from rfl, Nat.one_mul, Nat.add_zero] at this
  exact this
def SmS (S : Sx) : Prop := ∀ s, s < 16 → (S.se s).1 46 < 2 ^ 31 ∧ (S.se s).1 48 < 2 ^ 31 ∧ (S.se s).1 47 < 2 ^ 31
theorem r_goDown {M : vM} {S : Sx} {r : Nat} {R : Rp} (hs : SmS S) (h : WM M (S.set r R)) (hr : r < 9) : tr (F_X12_goDown M (nI r)) (fun M' => WM M' (y_goDown (S.set r R) r)) := by
  unfold F_X12_goDown
  refine tr_z0 ?_
  refine tr_Sr 0 h hr rfl (by decide) (by decide) (by decide) fun M1 h1 => ?_
  refine tr_bind (r_follow h1 hr) fun M2 h2 => ?_
  refine tr_S (show r < 9 from hr) (by omega) ?_
  have h3 := WM_ql (n := 0) h2 hr (Nat.zero_le _)
  have e : (S.set r ((y_follow (R.u 6 0)).q [])).sets (y_ses4 S r) = y_goDown (S.set r R) r := by
    unfold y_goDown
    rw [set_rp, set_set]; rfl
  rw [← e]
  exact q_gd hr 16 0 fu _ (S.set r ((y_follow (R.u 6 0)).q [])) (y_ses4 S r) (fun s hs' => ⟨(hs s hs').1, (hs s hs').2.1⟩) rfl (by decide) h3 fun s _ => (if_pos (Nat.zero_le _)).symm
