theorem by8_and (v : Int32) : v &&& 255 = nI (by8 v) := pk_and v 8 rfl
/-- only the laying and what is laid changes -/
def agL (S : vS) (sz : Nat) (S1 : vS) (m b : Nat) : Prop := ag S sz S1 (fun c => c = m ∨ c = b + 38) ∧ (∀ i, vP S1 i m = vP S i m) ∧ ∀ i, i ≠ 1245 → vI S1 i m = vI S i m
theorem agL.rf {S : vS} {sz m b : Nat} : agL S sz S m b := ⟨ag.rf, fun _ => rfl, fun _ _ => rfl⟩
theorem agL.tr {S S1 S2 : vS} {sz m b : Nat} (h : agL S sz S1 m b) (g : agL S1 sz S2 m b) : agL S sz S2 m b := ⟨(h.1.tr g.1 (Nat.le_refl _)).mo (Nat.le_refl _) (fun c _ q => q.elim id id), fun i => (g.2.1 i).trans (h.2.1 i), fun i hi => (g.2.2 i hi).trans (h.2.2 i hi)⟩
theorem MO.frL {S S1 : vS} {sz m b : Nat} (M : MO S sz m b) (e : agL S sz S1 m b) : MO S1 sz m b := M.fr e.1 (Nat.le_refl _) e.2.1
theorem LB.lay {S : vS} {m b : Nat} {l : List Nat} (B : LB S m b l) (v : Int32) (hl : l.length < 2400) : LB (sI (sR S (b + 38) l.length (nI (by8 v))) 1245 m (nI (l.length + 1))) m b (l ++ [by8 v]) := by
  obtain ⟨b1, b2, b3, b4⟩ := B
  refine ⟨?_, by simp; omega, fun j hj => ?_, fun c hc => ?_⟩
  · rw [List.length_append]; exact qI_sI_s _ _ _ _
  · rw [qR_sI]
    by_cases e : j = l.length
    · subst e
      rw [qR_sR_s]
      congr 1
      simp
    · rw [qR_sR_i _ _ _ _ _ _ e, b3 j (by simp at hj; omega)]
      congr 1
      simp at hj
      simp [List.getD, List.getElem?_append_left (show j < l.length by omega)]
  · rcases List.mem_append.mp hc with h1 | h1
    · exact b4 c h1
    · rw [List.mem_singleton.mp h1]; exact by8_lt v

set_option maxRecDepth 100000 in
set_option maxHeartbeats 4000000 in
/-- the reference: lay -/
theorem m_X12_lay {E : vE} {S : vS} {sz : Nat} {m b : Nat} {l : List Nat} {v : Int32} (M : MO S sz m b) (B : LB S m b l) (hl : l.length < 2400) : vi_Met E yX12_lay cX12_lay 2 none 0 0 0 [.ref (m), .int (v)] S sz (fun r S1 z1 => r = none ∧ z1 = sz ∧ LB S1 m b (l ++ [by8 v]) ∧ agL S sz S1 m b) := by
  refine vi_met (by decide) (Nat.le_of_ble_eq_true rfl) ?_
  intro X C
  refine vi_aload_n C dX12_lay_0 rfl rfl ?_
  refine vi_getr (i := 1244) C dX12_lay_1 rfl fX12_133 M.2.1 rfl rfl (M.2.2 44 38 21 2400 rfl).1 ?_
  refine vi_aload_n C dX12_lay_4 rfl rfl ?_
  refine vi_geti (i := 1245) C dX12_lay_5 rfl fX12_218 M.2.1 rfl rfl ?_
  refine vi_iload_n C dX12_lay_8 rfl rfl ?_
  refine vi_sipush (v := 255) C dX12_lay_9 rfl (by decide) ?_
  refine vi_iand C dX12_lay_12 rfl ?_
  refine vi_iastore C dX12_lay_13 rfl (M.2.2 44 38 21 2400 rfl).2.1 (by rw [B.1, (M.2.2 44 38 21 2400 rfl).2.2.1]; exact vp_in_nI hl (by omega)) ?_
  refine vi_aload_n C dX12_lay_14 rfl rfl ?_
  refine vi_dup C dX12_lay_15 rfl rfl ?_
  refine vi_geti (i := 1245) C dX12_lay_16 rfl fX12_218 M.2.1 rfl rfl ?_
  refine vi_iconst (v := 1) C dX12_lay_19 rfl (by decide) ?_
  refine vi_iadd C dX12_lay_20 rfl ?_
  refine vi_puti (i := 1245) C dX12_lay_21 rfl (fpX12_218 _) M.2.1 rfl rfl (by decide) rfl rfl ?_
  exact vi_return C dX12_lay_24 rfl (by decide) (by decide) (by
      show none = none ∧ sz = sz ∧ LB (sI (sR S (b + 38) (vI S 1245 m).toNatClampNeg (v &&& 255)) 1245 m (vI S 1245 m + 1)) m b (l ++ [by8 v]) ∧ agL S sz (sI (sR S (b + 38) (vI S 1245 m).toNatClampNeg (v &&& 255)) 1245 m (vI S 1245 m + 1)) m b
      rw [B.1, nI_clamp (by omega), nI_1, by8_and]
      refine ⟨rfl, rfl, B.lay v hl, ((ag.sR (sz := sz)).tr ag.sI (Nat.le_refl _)).mo (Nat.le_refl _) (fun c _ q => q.elim Or.inr Or.inl), fun i => (qP_sI _ _ _ _ _ _).trans (qP_sR _ _ _ _ _ _), fun i hi => (qI_sI_i _ _ _ _ _ _ hi).trans (qI_sR _ _ _ _ _ _)⟩)

