theorem ar1 (a b c : Int32) : a - (b - c) = c + a - b := by grind
/-- a block of the disk: from base on, k places; the bytes of l begin at s0, the block at u0 -/
def plM (f0 : Nat → Int32) (l : List Nat) (base u0 s0 k : Nat) : Nat → Int32 := fun p => if base ≤ p ∧ p < base + k ∧ s0 ≤ u0 + (p - base) then sb_b (byA l (u0 + (p - base) - s0)) else f0 p
theorem plM_0 (f0 : Nat → Int32) (l : List Nat) (base u0 s0 : Nat) : plM f0 l base u0 s0 0 = f0 := by
  funext p
  unfold plM
  rw [if_neg (by omega)]
theorem plM_no (f0 : Nat → Int32) (l : List Nat) {base u0 s0 k : Nat} (h : u0 + k < s0) : plM f0 l base u0 s0 (k + 1) = plM f0 l base u0 s0 k := by
  funext p
  unfold plM
  by_cases c : base ≤ p ∧ p < base + k ∧ s0 ≤ u0 + (p - base)
  · rw [if_pos c, if_pos ⟨c.1, by omega, c.2.2⟩]
  · rw [if_neg c, if_neg (fun z => c ⟨z.1, by omega, z.2.2⟩)]
theorem plM_up (f0 : Nat → Int32) (l : List Nat) {base u0 s0 k : Nat} (h : s0 ≤ u0 + k) (p : Nat) : (if p = base + k then sb_b (byA l (u0 + k - s0)) else plM f0 l base u0 s0 k p) = plM f0 l base u0 s0 (k + 1) p := by
  unfold plM
  by_cases e : p = base + k
  · subst e
    rw [if_pos rfl, if_pos ⟨by omega, by omega, by omega⟩, Nat.add_sub_cancel_left]
  · rw [if_neg e]
    by_cases c : base ≤ p ∧ p < base + k ∧ s0 ≤ u0 + (p - base)
    · rw [if_pos c, if_pos ⟨c.1, by omega, c.2.2⟩]
    · rw [if_neg c, if_neg (fun z => c ⟨z.1, by omega, z.2.2⟩)]
/-- how many writes a crash is still due in, behind a write -/
def dueN (d : Int32) : Int32 := d - (if d ≤ 0 then 0 else 1)

set_option maxRecDepth 100000 in
set_option maxHeartbeats 4000000 in
/-- the reference: putBlock where no crash comes -/
theorem m_X12_putBlock {E : vE} {S : vS} {sz : Nat} {m b rr q s0 u0 : Nat} {l : List Nat} (M : MO S sz m b) (B : LB S m b l) (hr : rr < 9) (hq : q < 64) (hs : s0 < 2 ^ 20) (hu : u0 < 2 ^ 20) (hdu : ¬ vR S (b + 35) rr = 0) : vi_Met E yX12_putBlock cX12_putBlock 6 (some .boolean) 0 0 0 [.ref (m), .int (nI rr), .int (nI q), .int (nI s0 - nI u0)] S sz (fun r S1 z1 => r = some (.int 1) ∧ z1 = sz ∧ vR S1 (b + 36) = plM (vR S (b + 36)) l (32768 * rr + 512 * q) u0 s0 512 ∧ vR S1 (b + 35) = upd (vR S (b + 35)) rr (dueN (vR S (b + 35) rr)) ∧ vR S1 (b + 34) = upd (vR S (b + 34)) rr (vR S (b + 34) rr + 1) ∧ ag S sz S1 (fun c => c = b + 35 ∨ c = b + 34 ∨ c = b + 36)) := by
  refine vi_met (by decide) (Nat.le_of_ble_eq_true rfl) ?_
  intro X C
  have hNA := M.1
  have loop : ∀ (n k : Nat) (T : vS), k + n = 512 → vR T (b + 36) = plM (vR S (b + 36)) l (32768 * rr + 512 * q) u0 s0 k → vR T (b + 35) = upd (vR S (b + 35)) rr (dueN (vR S (b + 35) rr)) → vR T (b + 34) = upd (vR S (b + 34)) rr (vR S (b + 34) rr + 1) → ag S sz T (fun c => c = b + 35 ∨ c = b + 34 ∨ c = b + 36) → vi_W E X 6 (vi_Z E X (fun r S1 z1 => r = some (.int 1) ∧ z1 = sz ∧ vR S1 (b + 36) = plM (vR S (b + 36)) l (32768 * rr + 512 * q) u0 s0 512 ∧ vR S1 (b + 35) = upd (vR S (b + 35)) rr (dueN (vR S (b + 35) rr)) ∧ vR S1 (b + 34) = upd (vR S (b + 34)) rr (vR S (b + 34) rr + 1) ∧ ag S sz S1 (fun c => c = b + 35 ∨ c = b + 34 ∨ c = b + 36)) 0 0) 59 [(0, .ref m), (1, .int (nI rr)), (2, .int (nI q)), (3, .int (nI s0 - nI u0)), (4, .int (nI k))] [] T sz 0 0 := by
    intro n
    induction n with
    | zero =>
      intro k T hk hD hU hW e1
      refine vi_iload C dX12_putBlock_59 rfl rfl ?_
      refine vi_sipush (v := 512) C dX12_putBlock_61 rfl (by decide) ?_
      refine vi_icmp_ge (t' := 123) C dX12_putBlock_64 rfl (by decide) (fun hc64 => ?_) (fun hc64 => ?_)
      · refine vi_iconst (v := 1) C dX12_putBlock_123 rfl (by decide) ?_
        exact vi_ireturn C dX12_putBlock_124 rfl rfl (by decide) (by decide) (by
            have h8 : k = 512 := by omega
            subst h8
            exact ⟨rfl, rfl, hD, hU, hW, e1⟩)
      · exact absurd (nI_le (a := 512) (b := k) (by omega) (by omega)) hc64
    | succ n ih =>
      intro k T hk hD hU hW e1
      have M1 : MO T sz m b := M.fr e1 (Nat.le_refl _) (fun i => ((e1 m M.1.1).2.2 (by omega)).2.1 i)
      have L1 : LB T m b l := ⟨(((e1 m M.1.1).2.2 (by omega)).1 1245).trans B.1, B.2.1, fun j hj => by rw [((e1 (b + 38) (by omega)).2.2 (by omega)).2.2.1]; exact B.2.2.1 j hj, B.2.2.2⟩
      refine vi_iload C dX12_putBlock_59 rfl rfl ?_
      refine vi_sipush (v := 512) C dX12_putBlock_61 rfl (by decide) ?_
      refine vi_icmp_ge (t' := 123) C dX12_putBlock_64 rfl (by decide) (fun hc64 => ?_) (fun hc64 => ?_)
      · exact absurd hc64 (nI_ge (a := k) (b := 512) (by omega) (by omega))
      · refine vi_iload C dX12_putBlock_67 rfl rfl ?_
        refine vi_iload_n C dX12_putBlock_69 rfl rfl ?_
        refine vi_isub C dX12_putBlock_70 rfl ?_
        rw [ar1, nI_add]
        refine vi_istore C dX12_putBlock_71 rfl (by decide) ?_
        refine vi_iload C dX12_putBlock_73 rfl rfl ?_
        refine vi_if_lt (t' := 117) C dX12_putBlock_75 rfl (by decide) (fun hc75 => ?_) (fun hc75 => ?_)
        · have hlt : u0 + k < s0 := by
            rcases Nat.lt_or_ge (u0 + k) s0 with h | h
            · exact h
            · exact absurd hc75 (by rw [pk_sub h]; exact nI_pos (by omega))
          refine vi_iinc C dX12_putBlock_117 rfl rfl (by decide) ?_
          refine vi_goto (t' := 59) C dX12_putBlock_120 (by decide) ?_
          exact vi_cut [(0, .ref m), (1, .int (nI rr)), (2, .int (nI q)), (3, .int (nI s0 - nI u0)), (4, .int (nI (k + 1)))] ⟨rfl, rfl, rfl, rfl, by rw [← nI_1]; rfl, trivial⟩ (ih (k + 1) _ (by omega) (by rw [plM_no _ _ hlt]; exact hD) hU hW e1)
        · have hge : s0 ≤ u0 + k := by
            rcases Nat.lt_or_ge (u0 + k) s0 with h | h
            · exact absurd (pk_sneg (by omega) h) hc75
            · exact h
          rw [pk_sub hge]
          refine vi_aload_n C dX12_putBlock_78 rfl rfl ?_
          refine vi_getr (i := 1242) C dX12_putBlock_79 rfl fX12_126 M1.2.1 rfl rfl (M1.2.2 42 36 20 294912 rfl).1 ?_
          refine vi_ldc C dX12_putBlock_82 rfl kX12_241 ?_
          refine vi_iload_n C dX12_putBlock_84 rfl rfl ?_
          refine vi_imul C dX12_putBlock_85 rfl ?_
          refine vi_sipush (v := 512) C dX12_putBlock_86 rfl (by decide) ?_
          refine vi_iload_n C dX12_putBlock_89 rfl rfl ?_
          refine vi_imul C dX12_putBlock_90 rfl ?_
          refine vi_iadd C dX12_putBlock_91 rfl ?_
          refine vi_iload C dX12_putBlock_92 rfl rfl ?_
          refine vi_iadd C dX12_putBlock_94 rfl ?_
          rw [show (32768 : Int32) * nI rr + 512 * nI q + nI k = nI (32768 * rr + 512 * q + k) from by rw [show (32768 : Int32) = nI 32768 from rfl, show (512 : Int32) = nI 512 from rfl, pk_mul, pk_mul, nI_add, nI_add]]
          refine vi_iload C dX12_putBlock_95 rfl rfl ?_
          refine vi_aload_n C dX12_putBlock_97 rfl rfl ?_
          refine vi_geti (i := 1245) C dX12_putBlock_98 rfl fX12_218 M1.2.1 rfl rfl ?_
          refine vi_icmp_ge (t' := 114) C dX12_putBlock_101 rfl (by decide) (fun hc101 => ?_) (fun hc101 => ?_)
          · have hjl : l.length ≤ u0 + k - s0 := by
              rcases Nat.lt_or_ge (u0 + k - s0) l.length with h | h
              · exact absurd hc101 (by rw [L1.1]; exact nI_ge h (by have := B.2.1; omega))
              · exact h
            have hv : (0 : Int32) = nI (byA l (u0 + k - s0)) := by rw [byA_ge hjl]; rfl
            refine vi_iconst (v := 0) C dX12_putBlock_114 rfl (by decide) ?_
            rw [hv]
            refine vi_i2b C dX12_putBlock_115 rfl ?_
            refine vi_bastore C dX12_putBlock_116 rfl (M1.2.2 42 36 20 294912 rfl).2.1 (by rw [(M1.2.2 42 36 20 294912 rfl).2.2.1]; exact vp_in_nI (by omega) (by omega)) ?_
            refine vi_iinc C dX12_putBlock_117 rfl rfl (by decide) ?_
            refine vi_goto (t' := 59) C dX12_putBlock_120 (by decide) ?_
            rw [nI_clamp (show 32768 * rr + 512 * q + k < 2 ^ 31 by omega), by_nb]
            have e9 : ag T sz (sR T (b + 36) (32768 * rr + 512 * q + k) (nI (byA l (u0 + k - s0))).toInt8.toInt32) (fun c => c = b + 36) := ag.sR
            refine vi_cut [(0, .ref m), (1, .int (nI rr)), (2, .int (nI q)), (3, .int (nI s0 - nI u0)), (4, .int (nI (k + 1)))] ⟨rfl, rfl, rfl, rfl, by rw [← nI_1]; rfl, trivial⟩ (ih (k + 1) _ (by omega) ?_ ?_ ?_ ((e1.tr e9 (Nat.le_refl _)).mo (Nat.le_refl _) (fun c _ q => q.elim id (fun q => Or.inr (Or.inr q)))))
            · funext p
              rw [← plM_up _ _ hge]
              by_cases c : p = 32768 * rr + 512 * q + k
              · subst c; rw [if_pos rfl]; exact qR_sR_s _ _ _ _
              · rw [if_neg c, qR_sR_i _ _ _ _ _ _ c, hD]
            · funext p; rw [qR_sR_a _ _ _ _ _ _ (by omega)]; exact congrFun hU p
            · funext p; rw [qR_sR_a _ _ _ _ _ _ (by omega)]; exact congrFun hW p
          · have hjl : u0 + k - s0 < l.length := by
              rcases Nat.lt_or_ge (u0 + k - s0) l.length with h | h
              · exact h
              · exact absurd (by rw [L1.1]; exact nI_le h (by omega)) hc101
            have hv : nI (l.getD (u0 + k - s0) 0) = nI (byA l (u0 + k - s0)) := rfl
            refine vi_aload_n C dX12_putBlock_104 rfl rfl ?_
            refine vi_getr (i := 1244) C dX12_putBlock_105 rfl fX12_133 M1.2.1 rfl rfl (M1.2.2 44 38 21 2400 rfl).1 ?_
            refine vi_iload C dX12_putBlock_108 rfl rfl ?_
            refine vi_iaload C dX12_putBlock_110 rfl (M1.2.2 44 38 21 2400 rfl).2.1 (by rw [(M1.2.2 44 38 21 2400 rfl).2.2.1]; exact vp_in_nI (by have := L1.2.1; omega) (by omega)) ?_
            refine vi_goto (t' := 115) C dX12_putBlock_111 (by decide) ?_
            rw [nI_clamp (show u0 + k - s0 < 2 ^ 31 by omega), L1.2.2.1 _ hjl]
            rw [hv]
            refine vi_i2b C dX12_putBlock_115 rfl ?_
            refine vi_bastore C dX12_putBlock_116 rfl (M1.2.2 42 36 20 294912 rfl).2.1 (by rw [(M1.2.2 42 36 20 294912 rfl).2.2.1]; exact vp_in_nI (by omega) (by omega)) ?_
            refine vi_iinc C dX12_putBlock_117 rfl rfl (by decide) ?_
            refine vi_goto (t' := 59) C dX12_putBlock_120 (by decide) ?_
            rw [nI_clamp (show 32768 * rr + 512 * q + k < 2 ^ 31 by omega), by_nb]
            have e9 : ag T sz (sR T (b + 36) (32768 * rr + 512 * q + k) (nI (byA l (u0 + k - s0))).toInt8.toInt32) (fun c => c = b + 36) := ag.sR
            refine vi_cut [(0, .ref m), (1, .int (nI rr)), (2, .int (nI q)), (3, .int (nI s0 - nI u0)), (4, .int (nI (k + 1)))] ⟨rfl, rfl, rfl, rfl, by rw [← nI_1]; rfl, trivial⟩ (ih (k + 1) _ (by omega) ?_ ?_ ?_ ((e1.tr e9 (Nat.le_refl _)).mo (Nat.le_refl _) (fun c _ q => q.elim id (fun q => Or.inr (Or.inr q)))))
            · funext p
              rw [← plM_up _ _ hge]
              by_cases c : p = 32768 * rr + 512 * q + k
              · subst c; rw [if_pos rfl]; exact qR_sR_s _ _ _ _
              · rw [if_neg c, qR_sR_i _ _ _ _ _ _ c, hD]
            · funext p; rw [qR_sR_a _ _ _ _ _ _ (by omega)]; exact congrFun hU p
            · funext p; rw [qR_sR_a _ _ _ _ _ _ (by omega)]; exact congrFun hW p
  refine vi_aload_n C dX12_putBlock_0 rfl rfl ?_
  refine vi_getr (i := 1241) C dX12_putBlock_1 rfl fX12_122 M.2.1 rfl rfl (M.2.2 41 35 21 9 rfl).1 ?_
  refine vi_iload_n C dX12_putBlock_4 rfl rfl ?_
  refine vi_iaload C dX12_putBlock_5 rfl (M.2.2 41 35 21 9 rfl).2.1 (by rw [(M.2.2 41 35 21 9 rfl).2.2.1]; exact vp_in_nI (by omega) (by omega)) ?_
  refine vi_if_ne (t' := 23) C dX12_putBlock_6 rfl (by decide) (fun hc6 => ?_) (fun hc6 => ?_)
  · refine vi_aload_n C dX12_putBlock_23 rfl rfl ?_
    refine vi_getr (i := 1241) C dX12_putBlock_24 rfl fX12_122 M.2.1 rfl rfl (M.2.2 41 35 21 9 rfl).1 ?_
    refine vi_iload_n C dX12_putBlock_27 rfl rfl ?_
    refine vi_dup2 C dX12_putBlock_28 rfl rfl rfl ?_
    refine vi_iaload C dX12_putBlock_29 rfl (M.2.2 41 35 21 9 rfl).2.1 (by rw [(M.2.2 41 35 21 9 rfl).2.2.1]; exact vp_in_nI (by omega) (by omega)) ?_
    refine vi_aload_n C dX12_putBlock_30 rfl rfl ?_
    refine vi_getr (i := 1241) C dX12_putBlock_31 rfl fX12_122 M.2.1 rfl rfl (M.2.2 41 35 21 9 rfl).1 ?_
    refine vi_iload_n C dX12_putBlock_34 rfl rfl ?_
    refine vi_iaload C dX12_putBlock_35 rfl (M.2.2 41 35 21 9 rfl).2.1 (by rw [(M.2.2 41 35 21 9 rfl).2.2.1]; exact vp_in_nI (by omega) (by omega)) ?_
    refine vi_if_le (t' := 43) C dX12_putBlock_36 rfl (by decide) (fun hc36 => ?_) (fun hc36 => ?_)
    · rw [nI_clamp (show rr < 2 ^ 31 by omega)] at hc36
      refine vi_iconst (v := 0) C dX12_putBlock_43 rfl (by decide) ?_
      refine vi_isub C dX12_putBlock_44 rfl ?_
      refine vi_iastore C dX12_putBlock_45 rfl (M.2.2 41 35 21 9 rfl).2.1 (by rw [(M.2.2 41 35 21 9 rfl).2.2.1]; exact vp_in_nI (by omega) (by omega)) ?_
      refine vi_aload_n C dX12_putBlock_46 rfl rfl ?_
      refine vi_getr (i := 1240) C dX12_putBlock_47 rfl fX12_119 M.2.1 rfl rfl (M.2.2 40 34 21 9 rfl).1 ?_
      refine vi_iload_n C dX12_putBlock_50 rfl rfl ?_
      refine vi_dup2 C dX12_putBlock_51 rfl rfl rfl ?_
      refine vi_iaload C dX12_putBlock_52 rfl (M.2.2 40 34 21 9 rfl).2.1 (by rw [qN_sR, (M.2.2 40 34 21 9 rfl).2.2.1]; exact vp_in_nI (by omega) (by omega)) ?_
      refine vi_iconst (v := 1) C dX12_putBlock_53 rfl (by decide) ?_
      refine vi_iadd C dX12_putBlock_54 rfl ?_
      refine vi_iastore C dX12_putBlock_55 rfl (M.2.2 40 34 21 9 rfl).2.1 (by rw [qN_sR, (M.2.2 40 34 21 9 rfl).2.2.1]; exact vp_in_nI (by omega) (by omega)) ?_
      refine vi_iconst (v := 0) C dX12_putBlock_56 rfl (by decide) ?_
      refine vi_istore C dX12_putBlock_57 rfl (by decide) ?_
      rw [nI_clamp (show rr < 2 ^ 31 by omega)]
      refine vi_cut [(0, .ref m), (1, .int (nI rr)), (2, .int (nI q)), (3, .int (nI s0 - nI u0)), (4, .int (nI 0))] ⟨rfl, rfl, rfl, rfl, rfl, trivial⟩ (loop 512 0 _ rfl ?_ ?_ ?_ (((ag.sR (sz := sz)).tr (ag.sR (sz := sz)) (Nat.le_refl _)).mo (Nat.le_refl _) (fun c _ q => q.elim Or.inl (fun q => Or.inr (Or.inl q)))))
      · rw [plM_0]; funext p; rw [qR_sR_a _ _ _ _ _ _ (by omega), qR_sR_a _ _ _ _ _ _ (by omega)]
      · funext p
        rw [qR_sR_a _ _ _ _ _ _ (by omega)]
        by_cases c : p = rr
        · subst c; rw [qR_sR_s]; unfold dueN; simp only [upd, if_pos]; first | rw [if_pos hc36] | rw [if_neg hc36]
        · rw [qR_sR_i _ _ _ _ _ _ c]; simp [upd, c]
      · funext p
        by_cases c : p = rr
        · subst c; rw [qR_sR_s, qR_sR_a _ _ _ _ _ _ (by omega)]; simp [upd]
        · rw [qR_sR_i _ _ _ _ _ _ c, qR_sR_a _ _ _ _ _ _ (by omega)]; simp [upd, c]
    · rw [nI_clamp (show rr < 2 ^ 31 by omega)] at hc36
      refine vi_iconst (v := 1) C dX12_putBlock_39 rfl (by decide) ?_
      refine vi_goto (t' := 44) C dX12_putBlock_40 (by decide) ?_
      refine vi_isub C dX12_putBlock_44 rfl ?_
      refine vi_iastore C dX12_putBlock_45 rfl (M.2.2 41 35 21 9 rfl).2.1 (by rw [(M.2.2 41 35 21 9 rfl).2.2.1]; exact vp_in_nI (by omega) (by omega)) ?_
      refine vi_aload_n C dX12_putBlock_46 rfl rfl ?_
      refine vi_getr (i := 1240) C dX12_putBlock_47 rfl fX12_119 M.2.1 rfl rfl (M.2.2 40 34 21 9 rfl).1 ?_
      refine vi_iload_n C dX12_putBlock_50 rfl rfl ?_
      refine vi_dup2 C dX12_putBlock_51 rfl rfl rfl ?_
      refine vi_iaload C dX12_putBlock_52 rfl (M.2.2 40 34 21 9 rfl).2.1 (by rw [qN_sR, (M.2.2 40 34 21 9 rfl).2.2.1]; exact vp_in_nI (by omega) (by omega)) ?_
      refine vi_iconst (v := 1) C dX12_putBlock_53 rfl (by decide) ?_
      refine vi_iadd C dX12_putBlock_54 rfl ?_
      refine vi_iastore C dX12_putBlock_55 rfl (M.2.2 40 34 21 9 rfl).2.1 (by rw [qN_sR, (M.2.2 40 34 21 9 rfl).2.2.1]; exact vp_in_nI (by omega) (by omega)) ?_
      refine vi_iconst (v := 0) C dX12_putBlock_56 rfl (by decide) ?_
      refine vi_istore C dX12_putBlock_57 rfl (by decide) ?_
      rw [nI_clamp (show rr < 2 ^ 31 by omega)]
      refine vi_cut [(0, .ref m), (1, .int (nI rr)), (2, .int (nI q)), (3, .int (nI s0 - nI u0)), (4, .int (nI 0))] ⟨rfl, rfl, rfl, rfl, rfl, trivial⟩ (loop 512 0 _ rfl ?_ ?_ ?_ (((ag.sR (sz := sz)).tr (ag.sR (sz := sz)) (Nat.le_refl _)).mo (Nat.le_refl _) (fun c _ q => q.elim Or.inl (fun q => Or.inr (Or.inl q)))))
      · rw [plM_0]; funext p; rw [qR_sR_a _ _ _ _ _ _ (by omega), qR_sR_a _ _ _ _ _ _ (by omega)]
      · funext p
        rw [qR_sR_a _ _ _ _ _ _ (by omega)]
        by_cases c : p = rr
        · subst c; rw [qR_sR_s]; unfold dueN; simp only [upd, if_pos]; first | rw [if_pos hc36] | rw [if_neg hc36]
        · rw [qR_sR_i _ _ _ _ _ _ c]; simp [upd, c]
      · funext p
        by_cases c : p = rr
        · subst c; rw [qR_sR_s, qR_sR_a _ _ _ _ _ _ (by omega)]; simp [upd]
        · rw [qR_sR_i _ _ _ _ _ _ c, qR_sR_a _ _ _ _ _ _ (by omega)]; simp [upd, c]
  · exact absurd (by rw [nI_clamp (show rr < 2 ^ 31 by omega)] at hc6; exact hc6) hdu

