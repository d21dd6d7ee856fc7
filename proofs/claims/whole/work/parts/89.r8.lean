/-! ===== the reference applies a request ===== -/
def zk (r : Nat) (M' M : vM) : Prop := M'.1 = M.1 ∧ ∀ j x, (x < zs j * r ∨ zs j * r + zs j ≤ x) → M'.2 j x = M.2 j x
theorem zk.refl {r : Nat} {M : vM} : zk r M M := ⟨rfl, fun _ _ _ => rfl⟩
theorem zk.u {r j x : Nat} {v : Int32} {M' M : vM} (h : zk r M' M) (h1 : zs j * r ≤ x) (h2 : x < zs j * r + zs j) : zk r (uE M' j x v) M := by
  refine ⟨h.1, fun k y hy => ?_⟩
  by_cases e : k = j
  · subst e
    rw [uE_i _ _ (by omega)]; exact h.2 k y hy
  · rw [uE_j _ _ _ e]; exact h.2 k y hy
theorem zk.z {r j : Nat} {M' M : vM} (h : zk r M' M) (hj : zs j = 0) : M'.2 j = M.2 j := funext fun x => h.2 j x (Or.inr (by rw [hj, Nat.zero_mul]; exact Nat.zero_le _))
theorem WM_zk {M M' : vM} {S : Sx} {r : Nat} {R R' : Rp} (h : WM M (S.set r R)) (hr : r < 9) (z : zk r M' M) (g : RR S.V S.sta S.lg (vw M' r) R') : WM M' (S.set r R') := by
  obtain ⟨h1, h2, h3, h4, h5, h6⟩ := h
  refine ⟨fun f hf => by rw [z.1]; exact h1 f hf, by rw [z.1]; exact h2, RT_c (fun f hf => z.z ?_) h3, fun k hk => ?_, fun s hs => RS_c (fun f hf => z.z (zs_45 (by omega))) (h5 s hs), fun n hn => RG_c (fun f hf hf2 => z.z ?_) (h6 n hn)⟩
  · refine Decidable.byContradiction fun q => ?_
    have := (zs_0 q).1; omega
  · by_cases e : k = r
    · subst e
      rw [set_rp]; exact g
    · rw [set_ne _ _ e]
      have := h4 k hk
      rw [set_ne _ _ e] at this
      have ev : vw M' k = vw M k := by
        funext j i
        unfold vw
        by_cases hi : i < zs j
        · rw [if_pos hi, if_pos hi]
          refine z.2 j _ ?_
          by_cases q : k < r
          · refine Or.inl (Nat.lt_of_lt_of_le (Nat.add_lt_add_left hi _) ?_)
            rw [← Nat.mul_succ]
            exact Nat.mul_le_mul_left _ q
          · refine Or.inr (Nat.le_trans ?_ (Nat.le_add_right _ _))
            rw [← Nat.mul_succ]
            exact Nat.mul_le_mul_left _ (by omega)
        · rw [if_neg hi, if_neg hi]
      rw [ev]; exact this
  · refine Decidable.byContradiction fun q => ?_
    obtain ⟨z1, z2, z3, z4, z5, _⟩ := zs_0 q
    omega
theorem nI_sle {a b c : Nat} (ha : a < 2 ^ 30) (hb : b < 2 ^ 30) (hc : c < 2 ^ 30) : (nI a - nI b ≤ nI c) ↔ a ≤ c + b := by
  by_cases h : b ≤ a
  · rw [nI_sub h]
    constructor
    · intro e
      refine Nat.le_of_not_lt fun q => ?_
      exact absurd e (nI_ge (by omega) (by omega))
    · intro e
      exact nI_le (by omega) (by omega)
  · constructor
    · intro _; omega
    · intro _
      exact Int32.le_of_lt (Int32.lt_of_lt_of_le (nI_subneg (by omega) (by omega)) (Int32.not_lt.mp (nIn (by omega))))
theorem tr_sle {ρ : Type} {a b c : Nat} {x y : Option ρ} {Q : ρ → Prop} (ha : a < 2 ^ 30) (hb : b < 2 ^ 30) (hc : c < 2 ^ 30) (h1 : a ≤ c + b → tr x Q) (h2 : c + b < a → tr y Q) : tr (if nI a - nI b ≤ nI c then x else y) Q := by
  by_cases e : a ≤ c + b
  · rw [if_pos ((nI_sle ha hb hc).mpr e)]; exact h1 e
  · rw [if_neg (fun q => e ((nI_sle ha hb hc).mp q))]; exact h2 (by omega)
theorem WM_t {M : vM} {S : Sx} {q f : Nat} (h : WM M S) (h0 : 0 < q) (hq : q < S.1 4) (hf : f < 3) : M.2 f q = nI ((S.tb q).1 f) := (h.2.2.1 q h0 hq).1 f hf
theorem any_c (p : Nat → Bool) (a d : Nat) : (List.range' a (d + 1)).any p = (p a || (List.range' (a + 1) d).any p) := by
  rw [List.range'_succ, List.any_cons]
theorem r_verdict {M : vM} {S : Sx} {r q : Nat} {R : Rp} (hC : Cx S) (h : WM M (S.set r R)) (hr : r < 9) (h0 : 0 < q) (hq : q < S.1 4) (hix : R.1 7 < 30000) : F_X12_verdictOf M (nI r) (nI q) = some (M, nI (if y_bad S.V (S.sta (R.1 7)) (R.1 7) (S.tb q) then 2 else 1)) := by
  have hV := hC.V
  have hnr := hC.nr
  have ht := (hC.tb q).2.2
  suffices hh : tr (F_X12_verdictOf M (nI r) (nI q)) (fun p => p = (M, nI (if y_bad S.V (S.sta (R.1 7)) (R.1 7) (S.tb q) then 2 else 1))) by
    obtain ⟨a, e, rfl⟩ := hh
    exact e
  have e2 : M.2 2 q = nI ((S.tb q).1 2) := WM_t (S := S.set r R) h h0 hq (by decide)
  unfold F_X12_verdictOf
  refine tr_G (show q < 4200 by omega) (by omega) ?_
  refine tr_Gr h hr rfl ?_
  rw [e2, show M.1 2 = nI S.V from WM_V h]
  refine tr_jn ?_
  refine tr_sle (by omega) (by omega) (by omega) (fun c => ?_) (fun c => ?_)
  · refine tr_G (show q < 4200 by omega) (by omega) ?_
    rw [e2, show nI ((S.tb q).1 2) + (1 : Int32) = nI ((S.tb q).1 2 + 1) from nI_add _ 1]
    have loop : ∀ d k fl, R.1 7 + 1 = k + d ∨ (R.1 7 < k ∧ d = 0) → (S.tb q).1 2 < k → k < 2 ^ 30 + 2 → d < fl → tr (L_X12_verdictOf_36 (nI r) (nI q) (fun (M14 : vM) (l15 : Int32) => if l15 = 0 then (some (M14, (1 : Int32))) else (some (M14, (2 : Int32)))) fl M 0 (nI k)) (fun p => p = (M, nI (if (List.range' k d).any (fun j => decide (¬ (S.sta (R.1 7)).2.2.2 j &&& (S.tb q).2.1 3 = 0)) then 2 else 1))) := by
      intro d
      induction d with
      | zero =>
        intro k fl hk hk2 hk3 hf
        obtain ⟨fl, rfl⟩ : ∃ f', fl = f' + 1 := ⟨fl - 1, by omega⟩
        rw [L_X12_verdictOf_36]
        refine tr_Gr h hr rfl ?_
        rw [if_pos (Int32.not_le.mp (nI_ge (by omega) (by omega))), if_pos rfl]
        exact tr_some rfl
      | succ d ih =>
        intro k fl hk hk2 hk3 hf
        obtain ⟨fl, rfl⟩ : ∃ f', fl = f' + 1 := ⟨fl - 1, by omega⟩
        rw [L_X12_verdictOf_36]
        refine tr_Gr h hr rfl ?_
        rw [if_neg (Int32.not_lt.mpr (nI_le (by omega) (by omega))), if_pos rfl]
        refine r_at (by omega) ?_
        refine tr_G (show _ < 360 by omega) (by omega) ?_
        rw [WM_m h hr (by omega) (by omega) (by omega), show (S.sta k).2.2.2 k = (S.sta (R.1 7)).2.2.2 k from (ms_st _ (by omega)).symm]
        refine tr_G (show q < 4200 by omega) (by omega) ?_
        rw [(h.2.2.1 q h0 hq).2.1, show nI k + (1 : Int32) = nI (k + 1) from nI_add k 1, any_c]
        by_cases e : (S.sta (R.1 7)).2.2.2 k &&& (S.tb q).2.1 3 = 0
        · rw [if_pos (show (S.sta (R.1 7)).2.2.2 k &&& ((S.set r R).tb q).2.1 3 = 0 from e), decide_eq_false (not_not_intro e), Bool.false_or]
          exact ih (k + 1) fl (by omega) (by omega) (by omega) (by omega)
        · rw [if_neg (show ¬ (S.sta (R.1 7)).2.2.2 k &&& ((S.set r R).tb q).2.1 3 = 0 from e), decide_eq_true e, Bool.true_or]
          obtain ⟨fl, rfl⟩ : ∃ f', fl = f' + 1 := ⟨fl - 1, by omega⟩
          rw [L_X12_verdictOf_36]
          refine tr_Gr h hr rfl ?_
          rw [if_neg (show ¬ (1 : Int32) = 0 by decide), if_neg (show ¬ (1 : Int32) = 0 by decide), ite_self]
          exact tr_some rfl
    have e : y_bad S.V (S.sta (R.1 7)) (R.1 7) (S.tb q) = (List.range' ((S.tb q).1 2 + 1) (R.1 7 - (S.tb q).1 2)).any (fun j => decide (¬ (S.sta (R.1 7)).2.2.2 j &&& (S.tb q).2.1 3 = 0)) := by
      unfold y_bad
      rw [decide_eq_false (by omega), Bool.false_or]
    rw [e]
    exact loop (R.1 7 - (S.tb q).1 2) ((S.tb q).1 2 + 1) fu (by omega) (by omega) (by omega) (by show _ < 32768; omega)
  · refine tr_G (show q < 4200 by omega) (by omega) ?_
    rw [e2, show nI ((S.tb q).1 2) + (1 : Int32) = nI ((S.tb q).1 2 + 1) from nI_add _ 1]
    have e : y_bad S.V (S.sta (R.1 7)) (R.1 7) (S.tb q) = true := by
      unfold y_bad
      rw [decide_eq_true c, Bool.true_or]
    rw [e, show fu = 32767 + 1 from rfl, L_X12_verdictOf_36]
    refine tr_Gr h hr rfl ?_
    rw [if_neg (show ¬ (1 : Int32) = 0 by decide), if_neg (show ¬ (1 : Int32) = 0 by decide), ite_self]
    exact tr_some rfl
