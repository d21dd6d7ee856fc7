theorem rng {x : Int32} {a b : Nat} (ha : 1 ≤ a) (ha' : a < 2 ^ 31) (hb : b + 1 < 2 ^ 31) (h1 : nI a ≤ x) (h2 : x ≤ nI b) : ∃ v, x = nI v ∧ a ≤ v ∧ v ≤ b := by
  rcases ars (n := b + 1) hb x with hh | ⟨v, hv, rfl⟩
  · exfalso
    rcases hh with hh | hh
    · exact nIn ha' (Int32.lt_of_le_of_lt h1 hh)
    · exact nI_ge (a := b) (b := b + 1) (by omega) hb (Int32.le_trans hh h2)
  · refine ⟨v, rfl, ?_, by omega⟩
    rcases Nat.lt_or_ge v a with q | q
    · exact absurd h1 (nI_ge q ha')
    · exact q
theorem pure_main : PureMain := by
  intro N V L T c M Ln xs h1 h2 hV hL hT hC hM hz hLn
  obtain ⟨v, rfl, v1, v2⟩ := rng (a := 1) (b := 16) (by decide) (by decide) (by decide) hV.1 hV.2
  obtain ⟨l, rfl, l1, l2⟩ := rng (a := 1) (b := 32) (by decide) (by decide) (by decide) hL.1 hL.2
  obtain ⟨t, rfl, t1, t2⟩ := rng (a := 2) (b := 40) (by decide) (by decide) (by decide) hT.1 hT.2
  obtain ⟨R, e, _⟩ := law_run (xs := xs) hLn 513 0 4 c M 0 (y_s0 N v l t) (by decide) (by omega) (by decide) (by decide) (wc_0 h2 hC) (wm_0 h2 hM) (iv_0 ⟨h1, h2⟩ ⟨v1, v2⟩ ⟨l1, l2⟩ ⟨t1, t2⟩)
  exact ⟨R, e⟩
theorem i_vc : Claimed_1_1 ∧ Claimed_1_2 := i_vc_open pure_main
