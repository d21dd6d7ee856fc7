/-- the arrays that the constructor leaves as they are hold 0 -/
def MZ (S : vS) (b : Nat) : Prop := ∀ a, b ≤ a → a < b + 55 → a ≠ b + 6 → a ≠ b + 35 → a ≠ b + 32 → a ≠ b + 36 → a ≠ b + 38 → a ≠ b + 34 → ∀ j, vR S a j = 0

set_option maxRecDepth 100000 in
set_option maxHeartbeats 8000000 in
/-- new reference, the loop over its replicas -/
theorem m_X12_init_c {E : vE} {S T0 : vS} {sz m k nn N : Nat} {mc ms : Nat} {Z : State → Prop} (hm : m < sz) (hN : vI T0 1201 m = nI N) (hN9 : N ≤ 9) (hk : k ≤ mc) (hn : nn ≤ ms) (X : vX) (C : vi_C E X yX12_init cX12_init 6 none 3 mc ms (45 * 3)) (go : ∀ T : vS, MO T (sz + 55) m sz → MR T sz N → (∀ f, f ≠ 1245 → vI T f m = vI T0 f m) → MZ T sz → ag S sz T (fun c => c = m) → vi_W E X 6 Z 634 [(0, .ref m)] [] T (sz + 55) k nn) : ∀ (n i : Nat) (T : vS), i + n = N → MO T (sz + 55) m sz → MR T sz i → (∀ f, f ≠ 1245 → vI T f m = vI T0 f m) → MZ T sz → ag S sz T (fun c => c = m) → vi_W E X 6 Z 572 [(0, .ref m), (5, .int (nI i))] [] T (sz + 55) k nn := by
  intro n
  induction n with
  | zero =>
    intro i T hi M R hI Zr e
    refine vi_iload C dX12_init_572 rfl rfl ?_
    refine vi_aload_n C dX12_init_574 rfl rfl ?_
    refine vi_geti (i := 1201) C dX12_init_575 rfl fX12_184 M.2.1 rfl rfl ?_
    refine vi_icmp_ge (t' := 634) C dX12_init_578 rfl (by decide) (fun hc578 => ?_) (fun hc578 => ?_)
    · obtain rfl : i = N := by omega
      exact vi_cut [(0, .ref m)] ⟨rfl, trivial⟩ (go T M R hI Zr e)
    · exact absurd (by rw [hI 1201 (by decide), hN]; exact nI_le (a := N) (b := i) (by omega) (by omega)) hc578
  | succ n ih =>
    intro i T hi M R hI Zr e
    refine vi_iload C dX12_init_572 rfl rfl ?_
    refine vi_aload_n C dX12_init_574 rfl rfl ?_
    refine vi_geti (i := 1201) C dX12_init_575 rfl fX12_184 M.2.1 rfl rfl ?_
    refine vi_icmp_ge (t' := 634) C dX12_init_578 rfl (by decide) (fun hc578 => ?_) (fun hc578 => ?_)
    · exact absurd hc578 (by rw [hI 1201 (by decide), hN]; exact nI_ge (a := i) (b := N) (by omega) (by omega))
    · refine vi_aload_n C dX12_init_581 rfl rfl ?_
      refine vi_getr (i := 1212) C dX12_init_582 rfl fX12_33 M.2.1 rfl rfl (M.2.2 12 6 23 9 rfl).1 ?_
      refine vi_iload C dX12_init_585 rfl rfl ?_
      refine vi_iconst (v := 1) C dX12_init_587 rfl (by decide) ?_
      refine vi_zastore C dX12_init_588 rfl (M.2.2 12 6 23 9 rfl).2.1 (by rw [(M.2.2 12 6 23 9 rfl).2.2.1]; exact vp_in_nI (show i < 9 by omega) (by omega)) rfl ?_
      refine vi_aload_n C dX12_init_589 rfl rfl ?_
      refine vi_getr (i := 1241) C dX12_init_590 rfl fX12_122 M.2.1 rfl rfl (M.2.2 41 35 21 9 rfl).1 ?_
      refine vi_iload C dX12_init_593 rfl rfl ?_
      refine vi_iconst (v := -1) C dX12_init_595 rfl (by decide) ?_
      refine vi_iastore C dX12_init_596 rfl (M.2.2 41 35 21 9 rfl).2.1 (by rw [qN_sR, (M.2.2 41 35 21 9 rfl).2.2.1]; exact vp_in_nI (show i < 9 by omega) (by omega)) ?_
      refine vi_aload_n C dX12_init_597 rfl rfl ?_
      refine vi_getr (i := 1238) C dX12_init_598 rfl fX12_113 M.2.1 rfl rfl (M.2.2 38 32 21 9 rfl).1 ?_
      refine vi_iload C dX12_init_601 rfl rfl ?_
      refine vi_iconst (v := 1) C dX12_init_603 rfl (by decide) ?_
      refine vi_iastore C dX12_init_604 rfl (M.2.2 38 32 21 9 rfl).2.1 (by rw [qN_sR, qN_sR, (M.2.2 38 32 21 9 rfl).2.2.1]; exact vp_in_nI (show i < 9 by omega) (by omega)) ?_
      rw [nI_clamp (show i < 2 ^ 31 by omega)]
      have u1 : vR (sR (sR (sR T (sz + 6) i 1) (sz + 35) i (-1)) (sz + 32) i 1) (sz + 6) = upd (vR T (sz + 6)) i 1 := by
        funext r; rw [qR_sR_a _ _ _ _ _ _ (by omega), qR_sR_a _ _ _ _ _ _ (by omega)]; unfold upd; by_cases c : r = i
        · subst c; rw [if_pos rfl]; exact qR_sR_s _ _ _ _
        · rw [if_neg c]; exact qR_sR_i _ _ _ _ _ _ c
      have d1 : vR (sR (sR (sR T (sz + 6) i 1) (sz + 35) i (-1)) (sz + 32) i 1) (sz + 35) = upd (vR T (sz + 35)) i (-1) := by
        funext r; rw [qR_sR_a _ _ _ _ _ _ (by omega)]; unfold upd; by_cases c : r = i
        · subst c; rw [if_pos rfl]; exact qR_sR_s _ _ _ _
        · rw [if_neg c, qR_sR_i _ _ _ _ _ _ c]; exact qR_sR_a _ _ _ _ _ _ (by omega)
      have w1 : vR (sR (sR (sR T (sz + 6) i 1) (sz + 35) i (-1)) (sz + 32) i 1) (sz + 32) = upd (vR T (sz + 32)) i 1 := by
        funext r; unfold upd; by_cases c : r = i
        · subst c; rw [if_pos rfl]; exact qR_sR_s _ _ _ _
        · rw [if_neg c, qR_sR_i _ _ _ _ _ _ c, qR_sR_a _ _ _ _ _ _ (by omega)]; exact qR_sR_a _ _ _ _ _ _ (by omega)
      have e1 : ag T (sz + 55) (sR (sR (sR T (sz + 6) i 1) (sz + 35) i (-1)) (sz + 32) i 1) (fun c => c = sz + 6 ∨ c = sz + 35 ∨ c = sz + 32) := (((ag.sR (sz := sz + 55)).tr (ag.sR (sz := sz + 55)) (Nat.le_refl _)).tr (ag.sR (sz := sz + 55)) (Nat.le_refl _)).mo (Nat.le_refl _) (fun c _ q => by omega)
      have i1 : ∀ f, vI (sR (sR (sR T (sz + 6) i 1) (sz + 35) i (-1)) (sz + 32) i 1) f m = vI T f m := fun f => by rw [qI_sR, qI_sR, qI_sR]
      have M1 : MO (sR (sR (sR T (sz + 6) i 1) (sz + 35) i (-1)) (sz + 32) i 1) (sz + 55) m sz := M.fr e1 (Nat.le_refl _) (fun f => by rw [qP_sR, qP_sR, qP_sR])
      generalize (sR (sR (sR T (sz + 6) i 1) (sz + 35) i (-1)) (sz + 32) i 1) = T1 at u1 d1 w1 e1 i1 M1 ⊢
      refine vi_aload_n C dX12_init_605 rfl rfl ?_
      refine vi_iconst (v := 0) C dX12_init_606 rfl (by decide) ?_
      refine vi_iconst (v := 1) C dX12_init_607 rfl (by decide) ?_
      refine vi_callV (c := 12) C [.int ((0 : Int32)), .int ((1 : Int32))] [] dX12_init_608 rfl ivX12_196 imX12_layHead rfl rfl M1.2.1 (m_X12_layHead (hf := 0) (gn := 1) M1) rfl (Nat.le_of_ble_eq_true rfl) ⟨by decide, by decide⟩ ⟨by omega, by omega⟩ (fun r608 T2 z608 hq608 => ?_)
      obtain ⟨rfl, rfl, L2, g2⟩ := hq608
      have M2 := M1.frL g2
      have hdu : ¬ vR T2 (sz + 35) i = 0 := by
        rw [((g2.1 (sz + 35) (by omega)).2.2 (by omega)).2.2.1, d1]; unfold upd; rw [if_pos rfl]; decide
      refine vi_aload_n C dX12_init_611 rfl rfl ?_
      refine vi_iload C dX12_init_612 rfl rfl ?_
      refine vi_iconst (v := 1) C dX12_init_614 rfl (by decide) ?_
      refine vi_iconst (v := 0) C dX12_init_615 rfl (by decide) ?_
      refine vi_callV (c := 12) C [.int (nI i), .int (nI 1), .int (nI 0 - nI 0)] [] dX12_init_616 rfl ivX12_200 imX12_putBlock rfl rfl M2.2.1 (m_X12_putBlock (rr := i) (q := 1) (s0 := 0) (u0 := 0) M2 L2 (by omega) (by decide) (by decide) (by decide) hdu) rfl (Nat.le_of_ble_eq_true rfl) ⟨by decide, by decide⟩ ⟨by omega, by omega⟩ (fun r616 T3 z616 hq616 => ?_)
      obtain ⟨rfl, rfl, hD3, hU3, hW3, e3⟩ := hq616
      have M3 : MO T3 (sz + 55) m sz := M2.fr e3 (Nat.le_refl _) (fun f => ((e3 m (by omega)).2.2 (by omega)).2.1 f)
      refine vi_pop C dX12_init_619 rfl rfl ?_
      refine vi_aload_n C dX12_init_620 rfl rfl ?_
      refine vi_getr (i := 1240) C dX12_init_621 rfl fX12_119 M3.2.1 rfl rfl (M3.2.2 40 34 21 9 rfl).1 ?_
      refine vi_iload C dX12_init_624 rfl rfl ?_
      refine vi_iconst (v := 0) C dX12_init_626 rfl (by decide) ?_
      refine vi_iastore C dX12_init_627 rfl (M3.2.2 40 34 21 9 rfl).2.1 (by rw [(M3.2.2 40 34 21 9 rfl).2.2.1]; exact vp_in_nI (show i < 9 by omega) (by omega)) ?_
      refine vi_iinc C dX12_init_628 rfl rfl (by decide) ?_
      refine vi_goto (t' := 572) C dX12_init_631 (by decide) ?_
      rw [nI_clamp (show i < 2 ^ 31 by omega)]
      have e4 : ag T3 (sz + 55) (sR T3 (sz + 34) i 0) (fun c => c = sz + 34) := ag.sR
      have eA : ag T (sz + 55) (sR T3 (sz + 34) i 0) (fun c => c = m ∨ c = sz + 6 ∨ c = sz + 35 ∨ c = sz + 32 ∨ c = sz + 36 ∨ c = sz + 38 ∨ c = sz + 34) := (((e1.tr g2.1 (Nat.le_refl _)).tr e3 (Nat.le_refl _)).tr e4 (Nat.le_refl _)).mo (Nat.le_refl _) (fun c _ q => by omega)
      have M4 : MO (sR T3 (sz + 34) i 0) (sz + 55) m sz := M3.fr e4 (Nat.le_refl _) (fun f => qP_sR _ _ _ _ _ _)
      have r12 : ∀ a, a < sz + 55 → a ≠ m → a ≠ sz + 38 → vR T2 a = vR T1 a := fun a h1 h2 h3 => ((g2.1 a h1).2.2 (by omega)).2.2.1
      have r23 : ∀ a, a < sz + 55 → a ≠ sz + 35 → a ≠ sz + 34 → a ≠ sz + 36 → vR T3 a = vR T2 a := fun a h1 h2 h3 h4 => ((e3 a h1).2.2 (by omega)).2.2.1
      have r34 : ∀ a, a ≠ sz + 34 → vR (sR T3 (sz + 34) i 0) a = vR T3 a := fun a h => funext fun j => qR_sR_a _ _ _ _ _ _ h
      have r01 : ∀ a, a < sz + 55 → a ≠ sz + 6 → a ≠ sz + 35 → a ≠ sz + 32 → vR T1 a = vR T a := fun a h1 h2 h3 h4 => ((e1 a h1).2.2 (by omega)).2.2.1
      have R4 : MR (sR T3 (sz + 34) i 0) sz (i + 1) := by
        refine R.st ?_ (fun r => ?_) ?_ (fun r => ?_) ?_
        · rw [r34 _ (by omega), r23 _ (by omega) (by omega) (by omega) (by omega), r12 _ (by omega) (by omega) (by omega), u1]
        · rw [r34 _ (by omega), hU3, r12 _ (by omega) (by omega) (by omega), d1]
          unfold upd; by_cases c : r = i
          · rw [if_pos c, if_pos rfl, if_pos c]; decide
          · rw [if_neg c]
        · rw [r34 _ (by omega), r23 _ (by omega) (by omega) (by omega) (by omega), r12 _ (by omega) (by omega) (by omega), w1]
        · by_cases c : r = i
          · subst c; exact qR_sR_s _ _ _ _
          · rw [qR_sR_i _ _ _ _ _ _ c, hW3]; unfold upd; rw [if_neg c, r12 _ (by omega) (by omega) (by omega), r01 _ (by omega) (by omega) (by omega) (by omega)]; exact R.2.2.2.1 r
        · rw [r34 _ (by omega), hD3, r12 _ (by omega) (by omega) (by omega), r01 _ (by omega) (by omega) (by omega) (by omega)]
      have I4 : ∀ f, f ≠ 1245 → vI (sR T3 (sz + 34) i 0) f m = vI T0 f m := fun f hf => by rw [qI_sR, ((e3 m (by omega)).2.2 (by omega)).1 f, g2.2.2 f hf, i1 f]; exact hI f hf
      have Z4 : MZ (sR T3 (sz + 34) i 0) sz := fun a h1 h2 h3 h4 h5 h6 h7 h8 j => by rw [r34 a h8, r23 a h2 h4 h8 h6, r12 a h2 (by omega) h7, r01 a h2 h3 h4 h5]; exact Zr a h1 h2 h3 h4 h5 h6 h7 h8 j
      have E4 : ag S sz (sR T3 (sz + 34) i 0) (fun c => c = m) := (e.tr eA (by omega)).mo (Nat.le_refl _) (fun c hc q => by omega)
      exact vi_cut [(0, .ref m), (5, .int (nI (i + 1)))] ⟨rfl, by rw [← nI_1]; rfl, trivial⟩ (ih (i + 1) _ (by omega) M4 R4 I4 Z4 E4)
