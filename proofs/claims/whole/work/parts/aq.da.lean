/-! ===== the calls: sessions ===== -/
def Se.u (e : Se) (f v : Nat) : Se := (va_up e.1 f v, e.2)
def Se.m (e : Se) (f : Nat) (v : Int32) : Se := (e.1, va_up e.2.1 f v, e.2.2)
def Se.w (e : Se) (k : Nat) (v : Int32) : Se := (e.1, e.2.1, va_up e.2.2 k v)
def Sx.ses (S : Sx) (s : Nat) (e : Se) : Sx := S.sets (fun k => if k = s then e else S.se k)
theorem ses_s (S : Sx) (s : Nat) (e : Se) : (S.ses s e).se s = e := if_pos rfl
theorem ses_n (S : Sx) {s k : Nat} (e : Se) (h : k ≠ s) : (S.ses s e).se k = S.se k := if_neg h
theorem ses_ses (S : Sx) (s : Nat) (a b : Se) : (S.ses s a).ses s b = S.ses s b := by
  unfold Sx.ses
  rw [sets_sets]
  congr 1
  funext k
  by_cases e : k = s
  · rw [if_pos e, if_pos e]
  · rw [if_neg e, if_neg e]; exact if_neg e
theorem ses_id (S : Sx) (s : Nat) : S.ses s (S.se s) = S := by
  unfold Sx.ses
  have : (fun k => if k = s then S.se s else S.se k) = S.se := by
    funext k
    by_cases e : k = s
    · subst e; exact if_pos rfl
    · exact if_neg e
  rw [this, sets_id]
theorem ars {n : Nat} (hn : n < 2 ^ 31) (a : Int32) : (a < 0 ∨ nI n ≤ a) ∨ ∃ k, k < n ∧ a = nI k := by
  by_cases h : a < 0
  · exact Or.inl (Or.inl h)
  · obtain ⟨k, hk, rfl⟩ := nI_of h
    by_cases h2 : n ≤ k
    · exact Or.inl (Or.inr (nI_le h2 hk))
    · exact Or.inr ⟨k, by omega, rfl⟩
theorem tr_Sn {ρ : Type} {M : vM} {S : Sx} {s f : Nat} (v : Nat) {e : Se} {K : vM → Option ρ} {Q : ρ → Prop} (h : WM M (S.ses s e)) (hs : s < 16) (hf : sse f = true) (g : ∀ M', WM M' (S.ses s (e.u f v)) → tr (K M') Q) : tr ((mS M f (nI s) (nI v)).bind K) Q := by
  refine tr_S (by rw [sse_mL hf]; exact hs) (by omega) (g _ ?_)
  have := WM_s (s := s) (f := f) (v := v) (g := fun k => if k = s then e.u f v else S.se k) h hf (fun k hk => ?_)
  · exact this
  · by_cases q : k = s
    · rw [if_pos q, if_pos q, ses_s]; rfl
    · rw [if_neg q, if_neg q, ses_n _ _ q]
theorem tr_Gn {ρ : Type} {M : vM} {S : Sx} {s f : Nat} {e : Se} {K : Int32 → Option ρ} {Q : ρ → Prop} (h : WM M (S.ses s e)) (hs : s < 16) (hf : sse f = true) (g : tr (K (nI (e.1 f))) Q) : tr ((mG M f (nI s)).bind K) Q := by
  refine tr_Gs h hs hf ?_
  rw [ses_s]; exact g
theorem WM_mk {M : vM} {S : Sx} {s j x : Nat} {v : Int32} {e e' : Se} (h : WM M (S.ses s e)) (hj : j = 50 ∨ j = 51 ∨ j = 54) (ho : ∀ k, k < 16 → k ≠ s → RS M.2 k (S.se k) → RS (uE M j x v).2 k (S.se k)) (g : RS M.2 s e → RS (uE M j x v).2 s e') : WM (uE M j x v) (S.ses s e') := by
  obtain ⟨h1, h2, h3, h4, h5, h6⟩ := h
  refine ⟨h1, h2, RT_c (fun f hf => ?_) h3, fun r hr => ?_, fun k hk => ?_, fun i hi => RG_c (fun f f1 f2 => ?_) (h6 i hi)⟩
  · funext i; exact uE_j _ _ _ (by omega)
  · rw [vw_z (zs_45 (by omega))]; exact h4 r hr
  · by_cases q : k = s
    · subst q
      have := h5 k hk
      rw [ses_s] at this ⊢
      exact g this
    · have := h5 k hk
      rw [ses_n _ _ q] at this ⊢
      exact ho k hk q this
  · funext i; exact uE_j _ _ _ (by omega)
theorem tr_Sm {ρ : Type} {M : vM} {S : Sx} {s f : Nat} {v : Int32} {e : Se} {K : vM → Option ρ} {Q : ρ → Prop} (h : WM M (S.ses s e)) (hs : s < 16) (hf : f = 50 ∨ f = 51) (g : ∀ M', WM M' (S.ses s (e.m f v)) → tr (K M') Q) : tr ((mS M f (nI s) v).bind K) Q := by
  have hL : mL f = 16 := by rcases hf with rfl | rfl <;> rfl
  refine tr_S (by rw [hL]; exact hs) (by omega) (g _ (WM_mk h (by omega) (fun k hk hne q => ?_) (fun q => ?_)))
  · obtain ⟨a, b, c, d⟩ := q
    refine ⟨fun f' hf' => ?_, ?_, ?_, fun i hi => ?_⟩
    · rw [uE_i _ _ hne]; exact a f' hf'
    · rw [uE_i _ _ hne]; exact b
    · rw [uE_i _ _ hne]; exact c
    · rw [uE_j _ _ _ (by omega)]; exact d i hi
  · obtain ⟨a, b, c, d⟩ := q
    refine ⟨fun f' hf' => ?_, ?_, ?_, fun i hi => ?_⟩
    · have : f' ≠ f := by
        rcases hf with rfl | rfl <;> (intro q; subst q; exact absurd hf' (by decide))
      rw [uE_j _ _ _ this]; exact a f' hf'
    · rcases hf with rfl | rfl
      · rw [uE_s]; exact (va_up_self e.2.1 50 v).symm
      · rw [uE_j _ _ _ (by decide)]; exact b.trans (va_up_ne e.2.1 v (show 50 ≠ 51 by decide)).symm
    · rcases hf with rfl | rfl
      · rw [uE_j _ _ _ (by decide)]; exact c.trans (va_up_ne e.2.1 v (show 51 ≠ 50 by decide)).symm
      · rw [uE_s]; exact (va_up_self e.2.1 51 v).symm
    · rw [uE_j _ _ _ (by omega)]; exact d i hi
theorem tr_Sv {ρ : Type} {M : vM} {S : Sx} {s k : Nat} {v : Int32} {e : Se} {K : vM → Option ρ} {Q : ρ → Prop} (h : WM M (S.ses s e)) (hs : s < 16) (hk : k < 16) (g : ∀ M', WM M' (S.ses s (e.w k v)) → tr (K M') Q) : tr ((mS M 54 (nI (16 * s + k)) v).bind K) Q := by
  refine tr_S (show 16 * s + k < 256 by omega) (by omega) (g _ (WM_mk h (by omega) (fun x hx hne q => ?_) (fun q => ?_)))
  · obtain ⟨a, b, c, d⟩ := q
    refine ⟨fun f' hf' => ?_, ?_, ?_, fun i hi => ?_⟩
    · rw [uE_j _ _ _ (by have := sse_r hf'; omega)]; exact a f' hf'
    · rw [uE_j _ _ _ (by decide)]; exact b
    · rw [uE_j _ _ _ (by decide)]; exact c
    · rw [uE_i _ _ (by omega)]; exact d i hi
  · obtain ⟨a, b, c, d⟩ := q
    refine ⟨fun f' hf' => ?_, ?_, ?_, fun i hi => ?_⟩
    · rw [uE_j _ _ _ (by have := sse_r hf'; omega)]; exact a f' hf'
    · rw [uE_j _ _ _ (by decide)]; exact b
    · rw [uE_j _ _ _ (by decide)]; exact c
    · by_cases q : i = k
      · subst q; rw [uE_s]; exact (va_up_self _ _ _).symm
      · rw [uE_i _ _ (by omega)]; exact (d i hi).trans (va_up_ne _ _ q).symm
theorem tr_G50 {ρ : Type} {M : vM} {S : Sx} {s : Nat} {e : Se} {K : Int32 → Option ρ} {Q : ρ → Prop} (h : WM M (S.ses s e)) (hs : s < 16) (g : tr (K (e.2.1 50)) Q) : tr ((mG M 50 (nI s)).bind K) Q := by
  refine tr_G (show s < 16 from hs) (by omega) ?_
  have := (h.2.2.2.2.1 s hs).2.1
  rw [ses_s] at this
  rw [this]; exact g
theorem tr_G51 {ρ : Type} {M : vM} {S : Sx} {s : Nat} {e : Se} {K : Int32 → Option ρ} {Q : ρ → Prop} (h : WM M (S.ses s e)) (hs : s < 16) (g : tr (K (e.2.1 51)) Q) : tr ((mG M 51 (nI s)).bind K) Q := by
  refine tr_G (show s < 16 from hs) (by omega) ?_
  have := (h.2.2.2.2.1 s hs).2.2.1
  rw [ses_s] at this
  rw [this]; exact g
theorem tr_G54 {ρ : Type} {M : vM} {S : Sx} {s k : Nat} {e : Se} {K : Int32 → Option ρ} {Q : ρ → Prop} (h : WM M (S.ses s e)) (hs : s < 16) (hk : k < 16) (g : tr (K (e.2.2 k)) Q) : tr ((mG M 54 (nI (16 * s + k))).bind K) Q := by
  refine tr_G (show 16 * s + k < 256 by omega) (by omega) ?_
  have := (h.2.2.2.2.1 s hs).2.2.2 k hk
  rw [ses_s] at this
  rw [this]; exact g
theorem r_isSes {M : vM} {s : Nat} (hs : s < 16) : F_X12_isSession M (nI s) = some (M, 1) := by
  unfold F_X12_isSession
  rw [if_neg (nIn (by omega)), if_neg (show ¬ (16 : Int32) ≤ nI s from nI_ge (b := 16) hs (by decide)), zb1]
theorem r_isSes0 {M : vM} {a : Int32} (h : a < 0 ∨ 16 ≤ a) : F_X12_isSession M a = some (M, 0) := by
  unfold F_X12_isSession
  by_cases h1 : a < 0
  · rw [if_pos h1, zb0]
  · rw [if_neg h1, if_pos (h.resolve_left h1), zb0]
theorem r_isKey {M : vM} {s : Nat} (hs : s < 16) : F_X12_isKey M (nI s) = some (M, 1) := by
  unfold F_X12_isKey
  rw [if_neg (nIn (by omega)), if_neg (show ¬ (16 : Int32) ≤ nI s from nI_ge (b := 16) hs (by decide)), zb1]
theorem r_isKey0 {M : vM} {a : Int32} (h : a < 0 ∨ 16 ≤ a) : F_X12_isKey M a = some (M, 0) := by
  unfold F_X12_isKey
  by_cases h1 : a < 0
  · rw [if_pos h1, zb0]
  · rw [if_neg h1, if_pos (h.resolve_left h1), zb0]
/-! the class's own numbers -/
theorem e_ses {N : Nat} {c : vC} {s : Nat} (hs : s < 16) : F_X11_sessionNumber N c (nI s) = some (c, some s) := by
  unfold F_X11_sessionNumber
  rw [if_neg (nIn (by omega)), if_neg (show ¬ (16 : Int32) ≤ nI s from nI_ge (b := 16) hs (by decide)), ix_n hs (by decide), Option.bind_some]
theorem e_ses0 {N : Nat} {c : vC} {a : Int32} (h : a < 0 ∨ 16 ≤ a) : F_X11_sessionNumber N c a = some (c, none) := by
  unfold F_X11_sessionNumber
  by_cases h1 : a < 0
  · rw [if_pos h1]
  · rw [if_neg h1, if_pos (h.resolve_left h1)]
theorem e_isKey {N : Nat} {c : vC} {s : Nat} (hs : s < 16) : F_X11_isKey N c (nI s) = some (c, 1) := by
  unfold F_X11_isKey
  rw [if_neg (nIn (by omega)), if_neg (show ¬ (16 : Int32) ≤ nI s from nI_ge (b := 16) hs (by decide)), zb1]
theorem e_isKey0 {N : Nat} {c : vC} {a : Int32} (h : a < 0 ∨ 16 ≤ a) : F_X11_isKey N c a = some (c, 0) := by
  unfold F_X11_isKey
  by_cases h1 : a < 0
  · rw [if_pos h1, zb0]
  · rw [if_neg h1, if_pos (h.resolve_left h1), zb0]
theorem e_rep {N : Nat} {c : vC} {r : Nat} (hr : r < N) (hN : N < 2 ^ 31) : F_X11_replicaNumber N c (nI r) = some (c, some r) := by
  unfold F_X11_replicaNumber
  rw [if_neg (nIn (by omega)), if_neg (show ¬ Int32.ofNat N ≤ nI r from nI_ge hr (by omega)), ix_n hr hN, Option.bind_some]
theorem e_rep0 {N : Nat} {c : vC} {a : Int32} (h : a < 0 ∨ nI N ≤ a) : F_X11_replicaNumber N c a = some (c, none) := by
  unfold F_X11_replicaNumber
  by_cases h1 : a < 0
  · rw [if_pos h1]
  · rw [if_neg h1, if_pos (show Int32.ofNat N ≤ a from h.resolve_left h1)]
theorem e_up {mm : Kp} {c : vC} {S : Sx} {r : Nat} (h : WC mm c S) (hr : r < S.N) (hN : S.N < 2 ^ 31) (h6 : (S.rp r).1 6 = 1) : F_X11_upNumber S.N c (nI r) = some (c, some r) := by
  unfold F_X11_upNumber
  have e := (h.2.2.2.2 r hr).1.2.1 711 6 rfl
  rw [e_rep hr hN, b2_, oc_s, gd_ hr, e, h6, if_neg (by decide)]
theorem e_up0 {mm : Kp} {c : vC} {S : Sx} {r : Nat} (h : WC mm c S) (hr : r < S.N) (hN : S.N < 2 ^ 31) (h6 : (S.rp r).1 6 = 0) : F_X11_upNumber S.N c (nI r) = some (c, none) := by
  unfold F_X11_upNumber
  have e := (h.2.2.2.2 r hr).1.2.1 711 6 rfl
  rw [e_rep hr hN, b2_, oc_s, gd_ hr, e, h6, if_pos (by decide)]
theorem e_upX {N : Nat} {c : vC} {a : Int32} (h : a < 0 ∨ nI N ≤ a) : F_X11_upNumber N c a = some (c, none) := by
  unfold F_X11_upNumber
  rw [e_rep0 h, b2_, oc_n]
/-- one call on both machines: they answer alike, and stay alike -/
abbrev K0 : Kp := (none, [])
def Sim (a : Option (vC × Int32)) (b : Option (vM × Int32)) (S' : Sx) : Prop := ∃ v, tr a (fun p => p.2 = v ∧ WC K0 p.1 S') ∧ tr b (fun p => p.2 = v ∧ WM p.1 S')
/-- what the calls take -/
def Bs (S : Sx) : Prop := Cx S ∧ (∀ r, r < S.N → (S.rp r).1 6 ≤ 1) ∧ (∀ s, s < 16 → (S.se s).1 46 ≤ 4)
theorem Bs.i {S : Sx} (h : Bs S) {s : Nat} (hs : s < 16) : (S.se s).1 46 ≤ 4 := h.2.2 s hs
theorem Bs.n {S : Sx} (h : Bs S) : S.N ≤ 9 := h.1.2.1
theorem Bs.u {S : Sx} (h : Bs S) {r : Nat} (hr : r < S.N) (q : ¬ (S.rp r).1 6 = 0) : (S.rp r).1 6 = 1 := by
  have := h.2.1 r hr
  omega
