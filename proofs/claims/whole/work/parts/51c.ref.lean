def F_X12_send (M : vM) (a1 : Int32) (a2 : Int32) (a3 : Int32) (a4 : Int32) (a5 : Int32) (a6 : Int32) (a7 : Int32) : Option vM := lt1 (mW M 54 (((M.1 54) + (1 : Int32)))) fun M1 => if (M1.1 53) = (200 : Int32) then (lt1 (mW M1 55 (((M1.1 55) + (1 : Int32)))) fun M18 => some M18) else ((mS M1 39 (((8 : Int32) * (M1.1 53))) (a1)).bind fun M2 => (mS M2 39 ((((8 : Int32) * (M1.1 53)) + (1 : Int32))) (a2)).bind fun M3 => (mS M3 39 ((((8 : Int32) * (M1.1 53)) + (2 : Int32))) (a3)).bind fun M4 => (mS M4 39 ((((8 : Int32) * (M1.1 53)) + (3 : Int32))) (a4)).bind fun M5 => (mS M5 39 ((((8 : Int32) * (M1.1 53)) + (4 : Int32))) (a5)).bind fun M6 => (mS M6 39 ((((8 : Int32) * (M1.1 53)) + (5 : Int32))) (a6)).bind fun M7 => (mS M7 39 ((((8 : Int32) * (M1.1 53)) + (6 : Int32))) (a7)).bind fun M8 => (mS M8 39 ((((8 : Int32) * (M1.1 53)) + (7 : Int32))) ((0 : Int32))).bind fun M9 => jn (fun (s2_146 : Int32) => (mS M9 41 ((M9.1 53)) (s2_146)).bind fun M12 => jn (fun (M16 : vM) => lt1 (mW M16 53 (((M16.1 53) + (1 : Int32)))) fun M17 => some M17) (fun k169_13 => if a1 = (8 : Int32) then ((F_X12_store M12 (a2) (40) (((100 : Int32) * (M12.1 53)))).bind fun M14 => (k169_13 (M14))) else ((k169_13 (M12))))) (fun k146_10 => if a1 = (8 : Int32) then ((k146_10 ((M9.1 50)))) else ((k146_10 ((-1 : Int32))))))

set_option maxRecDepth 100000 in
set_option maxHeartbeats 4000000 in
theorem p_X12_send {M : vM} {R : vM} {a1 : Int32} {a2 : Int32} {a3 : Int32} {a4 : Int32} {a5 : Int32} {a6 : Int32} {a7 : Int32} (h : F_X12_send M a1 a2 a3 a4 a5 a6 a7 = some R) {E : vE} {S0 : vS} {sz m b : Nat} (hR : RM S0 sz m b M) : vi_Met E yX12_send cX12_send 9 none 2 0 0 [.ref m, .int (a1), .int (a2), .int (a3), .int (a4), .int (a5), .int (a6), .int (a7)] S0 sz (Q0 S0 sz m b R) := by
  refine vi_met (by decide) (Nat.le_of_ble_eq_true rfl) ?_
  intro X C
  have hF := rF.refl S0 m b
  unfold F_X12_send at h
  refine vi_aload_n C dX12_send_0 rfl rfl ?_
  refine vi_dup C dX12_send_1 rfl rfl ?_
  refine r_geti C dX12_send_2 rfl fX12_287 rfl hR ?_
  refine vi_iconst (v := 1) C dX12_send_5 rfl (by decide) ?_
  refine vi_iadd C dX12_send_6 rfl ?_
  refine r_puti C dX12_send_7 rfl (fpX12_287 _) rfl hR hF h (fun S M1 h hR hF => ?_)
  refine vi_aload_n C dX12_send_10 rfl rfl ?_
  refine r_geti C dX12_send_11 rfl fX12_290 rfl hR ?_
  refine vi_sipush (v := 200) C dX12_send_14 rfl (by decide) ?_
  refine vi_icmp_ne (t' := 31) C dX12_send_17 rfl (by decide) (fun c19 => ?_) (fun c19 => ?_)
  · replace h := iN c19 h
    refine vi_bipush (v := 8) C dX12_send_31 rfl (by decide) ?_
    refine vi_aload_n C dX12_send_33 rfl rfl ?_
    refine r_geti C dX12_send_34 rfl fX12_290 rfl hR ?_
    refine vi_imul C dX12_send_37 rfl ?_
    refine vi_istore C dX12_send_38 rfl (by decide) ?_
    refine vi_aload_n C dX12_send_40 rfl rfl ?_
    refine r_geta C dX12_send_41 rfl fX12_136 rfl hR rfl ?_
    refine vi_iload C dX12_send_44 rfl rfl ?_
    refine vi_iload_n C dX12_send_46 rfl rfl ?_
    refine r_iastore C dX12_send_47 rfl rfl hR hF h (fun S M2 h hR hF => ?_)
    refine vi_aload_n C dX12_send_48 rfl rfl ?_
    refine r_geta C dX12_send_49 rfl fX12_136 rfl hR rfl ?_
    refine vi_iload C dX12_send_52 rfl rfl ?_
    refine vi_iconst (v := 1) C dX12_send_54 rfl (by decide) ?_
    refine vi_iadd C dX12_send_55 rfl ?_
    refine vi_iload_n C dX12_send_56 rfl rfl ?_
    refine r_iastore C dX12_send_57 rfl rfl hR hF h (fun S M3 h hR hF => ?_)
    refine vi_aload_n C dX12_send_58 rfl rfl ?_
    refine r_geta C dX12_send_59 rfl fX12_136 rfl hR rfl ?_
    refine vi_iload C dX12_send_62 rfl rfl ?_
    refine vi_iconst (v := 2) C dX12_send_64 rfl (by decide) ?_
    refine vi_iadd C dX12_send_65 rfl ?_
    refine vi_iload_n C dX12_send_66 rfl rfl ?_
    refine r_iastore C dX12_send_67 rfl rfl hR hF h (fun S M4 h hR hF => ?_)
    refine vi_aload_n C dX12_send_68 rfl rfl ?_
    refine r_geta C dX12_send_69 rfl fX12_136 rfl hR rfl ?_
    refine vi_iload C dX12_send_72 rfl rfl ?_
    refine vi_iconst (v := 3) C dX12_send_74 rfl (by decide) ?_
    refine vi_iadd C dX12_send_75 rfl ?_
    refine vi_iload C dX12_send_76 rfl rfl ?_
    refine r_iastore C dX12_send_78 rfl rfl hR hF h (fun S M5 h hR hF => ?_)
    refine vi_aload_n C dX12_send_79 rfl rfl ?_
    refine r_geta C dX12_send_80 rfl fX12_136 rfl hR rfl ?_
    refine vi_iload C dX12_send_83 rfl rfl ?_
    refine vi_iconst (v := 4) C dX12_send_85 rfl (by decide) ?_
    refine vi_iadd C dX12_send_86 rfl ?_
    refine vi_iload C dX12_send_87 rfl rfl ?_
    refine r_iastore C dX12_send_89 rfl rfl hR hF h (fun S M6 h hR hF => ?_)
    refine vi_aload_n C dX12_send_90 rfl rfl ?_
    refine r_geta C dX12_send_91 rfl fX12_136 rfl hR rfl ?_
    refine vi_iload C dX12_send_94 rfl rfl ?_
    refine vi_iconst (v := 5) C dX12_send_96 rfl (by decide) ?_
    refine vi_iadd C dX12_send_97 rfl ?_
    refine vi_iload C dX12_send_98 rfl rfl ?_
    refine r_iastore C dX12_send_100 rfl rfl hR hF h (fun S M7 h hR hF => ?_)
    refine vi_aload_n C dX12_send_101 rfl rfl ?_
    refine r_geta C dX12_send_102 rfl fX12_136 rfl hR rfl ?_
    refine vi_iload C dX12_send_105 rfl rfl ?_
    refine vi_bipush (v := 6) C dX12_send_107 rfl (by decide) ?_
    refine vi_iadd C dX12_send_109 rfl ?_
    refine vi_iload C dX12_send_110 rfl rfl ?_
    refine r_iastore C dX12_send_112 rfl rfl hR hF h (fun S M8 h hR hF => ?_)
    refine vi_aload_n C dX12_send_113 rfl rfl ?_
    refine r_geta C dX12_send_114 rfl fX12_136 rfl hR rfl ?_
    refine vi_iload C dX12_send_117 rfl rfl ?_
    refine vi_bipush (v := 7) C dX12_send_119 rfl (by decide) ?_
    refine vi_iadd C dX12_send_121 rfl ?_
    refine vi_iconst (v := 0) C dX12_send_122 rfl (by decide) ?_
    refine r_iastore C dX12_send_123 rfl rfl hR hF h (fun S M9 h hR hF => ?_)
    refine vi_aload_n C dX12_send_124 rfl rfl ?_
    refine r_geta C dX12_send_125 rfl fX12_142 rfl hR rfl ?_
    refine vi_aload_n C dX12_send_128 rfl rfl ?_
    refine r_geti C dX12_send_129 rfl fX12_290 rfl hR ?_
    refine vi_iload_n C dX12_send_132 rfl rfl ?_
    refine vi_bipush (v := 8) C dX12_send_133 rfl (by decide) ?_
    refine r_jn h (fun k => ∀ (s2_146 : Int32), k s2_146 = some R → ∀ S, RM S sz m b M9 → rF S0 S m b → vi_W E X 9 (vi_Z E X (Q0 S0 sz m b R) 0 0) 146 [(0, .ref m), (1, .int (a1)), (2, .int (a2))] [.int (s2_146), .int ((M9.1 53)), .ref (b + 41)] S sz 0 0) ?_ ?_
    · intro s2_146 h S hR hF
      refine r_iastore C dX12_send_146 rfl rfl hR hF h (fun S M12 h hR hF => ?_)
      refine vi_iload_n C dX12_send_147 rfl rfl ?_
      refine vi_bipush (v := 8) C dX12_send_148 rfl (by decide) ?_
      refine r_jn h (fun k => ∀ (M16 : vM), k M16 = some R → ∀ S, RM S sz m b M16 → rF S0 S m b → vi_W E X 9 (vi_Z E X (Q0 S0 sz m b R) 0 0) 169 [(0, .ref m)] [] S sz 0 0) ?_ ?_
      · intro M16 h S hR hF
        refine vi_aload_n C dX12_send_169 rfl rfl ?_
        refine vi_dup C dX12_send_170 rfl rfl ?_
        refine r_geti C dX12_send_171 rfl fX12_290 rfl hR ?_
        refine vi_iconst (v := 1) C dX12_send_174 rfl (by decide) ?_
        refine vi_iadd C dX12_send_175 rfl ?_
        refine r_puti C dX12_send_176 rfl (fpX12_290 _) rfl hR hF h (fun S M17 h hR hF => ?_)
        exact r_ret0 C dX12_send_179 rfl hR hF h
      · intro k169_13 h169_13 h
        refine vi_icmp_ne (t' := 169) C dX12_send_150 rfl (by decide) (fun c15 => ?_) (fun c15 => ?_)
        · replace h := iN c15 h
          exact vi_cut [(0, .ref m)] ⟨rfl, trivial⟩ (h169_13 _ h _ hR hF)
        · replace h := iT c15 h
          refine vi_aload_n C dX12_send_153 rfl rfl ?_
          refine vi_iload_n C dX12_send_154 rfl rfl ?_
          refine vi_aload_n C dX12_send_155 rfl rfl ?_
          refine r_geta C dX12_send_156 rfl fX12_139 rfl hR rfl ?_
          refine vi_bipush (v := 100) C dX12_send_159 rfl (by decide) ?_
          refine vi_aload_n C dX12_send_161 rfl rfl ?_
          refine r_geti C dX12_send_162 rfl fX12_290 rfl hR ?_
          refine vi_imul C dX12_send_165 rfl ?_
          refine r_cv0 C [.int (a2), .ref (b + 40), .int (((100 : Int32) * (M12.1 53)))] [] dX12_send_166 rfl ivX12_260 imX12_store rfl hR hF h (fun _ e => p_X12_store e hR) rfl (Nat.le_of_ble_eq_true rfl) ⟨by decide, by decide⟩ ⟨Nat.le_refl _, Nat.le_refl _⟩ (fun S M14 h hR hF => ?_)
          exact vi_cut [(0, .ref m)] ⟨rfl, trivial⟩ (h169_13 _ h _ hR hF)
    · intro k146_10 h146_10 h
      refine vi_icmp_ne (t' := 145) C dX12_send_135 rfl (by decide) (fun c11 => ?_) (fun c11 => ?_)
      · replace h := iN c11 h
        refine vi_iconst (v := -1) C dX12_send_145 rfl (by decide) ?_
        exact vi_cut [(0, .ref m), (1, .int (a1)), (2, .int (a2))] ⟨rfl, rfl, rfl, trivial⟩ (h146_10 _ h _ hR hF)
      · replace h := iT c11 h
        refine vi_aload_n C dX12_send_138 rfl rfl ?_
        refine r_geti C dX12_send_139 rfl fX12_296 rfl hR ?_
        refine vi_goto (t' := 146) C dX12_send_142 (by decide) ?_
        exact vi_cut [(0, .ref m), (1, .int (a1)), (2, .int (a2))] ⟨rfl, rfl, rfl, trivial⟩ (h146_10 _ h _ hR hF)
  · replace h := iT c19 h
    refine vi_aload_n C dX12_send_20 rfl rfl ?_
    refine vi_dup C dX12_send_21 rfl rfl ?_
    refine r_geti C dX12_send_22 rfl fX12_293 rfl hR ?_
    refine vi_iconst (v := 1) C dX12_send_25 rfl (by decide) ?_
    refine vi_iadd C dX12_send_26 rfl ?_
    refine r_puti C dX12_send_27 rfl (fpX12_293 _) rfl hR hF h (fun S M18 h hR hF => ?_)
    exact r_ret0 C dX12_send_30 rfl hR hF h

def L_X12_sendAll_3 {ρ : Type}  (l1 : Int32) (l2 : Int32) (l3 : Int32) (l4 : Int32) (l5 : Int32) (kx38 : vM → Option ρ) : Nat → vM → Int32 → Option ρ
  | 0, _, _ => none
  | f + 1, M, l6 => if (M.1 1) ≤ l6 then (kx38 M ) else (if l6 = l2 then (L_X12_sendAll_3 l1 l2 l3 l4 l5 kx38 f M ((l6 + (1)))) else ((F_X12_send M (l1) (l2) (l6) (l3) (l4) (l5) ((0 : Int32))).bind fun M1 => L_X12_sendAll_3 l1 l2 l3 l4 l5 kx38 f M1 ((l6 + (1)))))

def F_X12_sendAll (M : vM) (a1 : Int32) (a2 : Int32) (a3 : Int32) (a4 : Int32) (a5 : Int32) : Option vM := L_X12_sendAll_3 (a1) (a2) (a3) (a4) (a5) (fun (M4 : vM)  => some M4) fu M ((0 : Int32))

set_option maxRecDepth 100000 in
set_option maxHeartbeats 4000000 in
theorem w_X12_sendAll_3 {E : vE} {X : vX} {S0 : vS} {sz m b : Nat} {ρ : Type} {R : ρ} {Z : State → Prop} {l1 : Int32} {l2 : Int32} {l3 : Int32} {l4 : Int32} {l5 : Int32} {kx38 : vM → Option ρ} (C : vi_C E X yX12_sendAll cX12_sendAll 7 none 3 0 0 (45 * 3)) (hx38 : ∀ (M : vM) , kx38 M  = some R → ∀ S, RM S sz m b M → rF S0 S m b → vi_W E X 7 Z 38 [] [] S sz 0 0) : ∀ (f : Nat) (M : vM) (l6 : Int32), L_X12_sendAll_3 l1 l2 l3 l4 l5 kx38 f M l6 = some R → ∀ S, RM S sz m b M → rF S0 S m b → vi_W E X 7 Z 3 [(0, .ref m), (1, .int (l1)), (2, .int (l2)), (3, .int (l3)), (4, .int (l4)), (5, .int (l5)), (6, .int (l6))] [] S sz 0 0 := by
  intro f
  induction f with
  | zero => intro M l6 h; cases h
  | succ f ih =>
    intro M l6 h S hR hF
    rw [L_X12_sendAll_3] at h
    refine vi_iload C dX12_sendAll_3 rfl rfl ?_
    refine vi_aload_n C dX12_sendAll_5 rfl rfl ?_
    refine r_geti C dX12_sendAll_6 rfl fX12_184 rfl hR ?_
    refine vi_icmp_ge (t' := 38) C dX12_sendAll_9 rfl (by decide) (fun c3 => ?_) (fun c3 => ?_)
    · replace h := iT c3 h
      exact vi_cut [] trivial (hx38 _  h _ hR hF)
    · replace h := iN c3 h
      refine vi_iload C dX12_sendAll_12 rfl rfl ?_
      refine vi_iload_n C dX12_sendAll_14 rfl rfl ?_
      refine vi_icmp_eq (t' := 32) C dX12_sendAll_15 rfl (by decide) (fun c2 => ?_) (fun c2 => ?_)
      · replace h := iT c2 h
        refine vi_iincv (v := 1) C dX12_sendAll_32 rfl rfl (by decide) (by decide) ?_
        refine vi_goto (t' := 3) C dX12_sendAll_35 (by decide) ?_
        exact vi_cut [(0, .ref m), (1, .int (l1)), (2, .int (l2)), (3, .int (l3)), (4, .int (l4)), (5, .int (l5)), (6, .int ((l6 + (1))))] ⟨rfl, rfl, rfl, rfl, rfl, rfl, rfl, trivial⟩ (ih _ _ h _ hR hF)
      · replace h := iN c2 h
        refine vi_aload_n C dX12_sendAll_18 rfl rfl ?_
        refine vi_iload_n C dX12_sendAll_19 rfl rfl ?_
        refine vi_iload_n C dX12_sendAll_20 rfl rfl ?_
        refine vi_iload C dX12_sendAll_21 rfl rfl ?_
        refine vi_iload_n C dX12_sendAll_23 rfl rfl ?_
        refine vi_iload C dX12_sendAll_24 rfl rfl ?_
        refine vi_iload C dX12_sendAll_26 rfl rfl ?_
        refine vi_iconst (v := 0) C dX12_sendAll_28 rfl (by decide) ?_
        refine r_cv0 C [.int (l1), .int (l2), .int (l6), .int (l3), .int (l4), .int (l5), .int ((0 : Int32))] [] dX12_sendAll_29 rfl ivX12_299 imX12_send rfl hR hF h (fun _ e => p_X12_send e hR) rfl (Nat.le_of_ble_eq_true rfl) ⟨by decide, by decide⟩ ⟨Nat.le_refl _, Nat.le_refl _⟩ (fun S M1 h hR hF => ?_)
        refine vi_iincv (v := 1) C dX12_sendAll_32 rfl rfl (by decide) (by decide) ?_
        refine vi_goto (t' := 3) C dX12_sendAll_35 (by decide) ?_
        exact vi_cut [(0, .ref m), (1, .int (l1)), (2, .int (l2)), (3, .int (l3)), (4, .int (l4)), (5, .int (l5)), (6, .int ((l6 + (1))))] ⟨rfl, rfl, rfl, rfl, rfl, rfl, rfl, trivial⟩ (ih _ _ h _ hR hF)

set_option maxRecDepth 100000 in
set_option maxHeartbeats 4000000 in
theorem p_X12_sendAll {M : vM} {R : vM} {a1 : Int32} {a2 : Int32} {a3 : Int32} {a4 : Int32} {a5 : Int32} (h : F_X12_sendAll M a1 a2 a3 a4 a5 = some R) {E : vE} {S0 : vS} {sz m b : Nat} (hR : RM S0 sz m b M) : vi_Met E yX12_sendAll cX12_sendAll 7 none 3 0 0 [.ref m, .int (a1), .int (a2), .int (a3), .int (a4), .int (a5)] S0 sz (Q0 S0 sz m b R) := by
  refine vi_met (by decide) (Nat.le_of_ble_eq_true rfl) ?_
  intro X C
  have hF := rF.refl S0 m b
  unfold F_X12_sendAll at h
  refine vi_iconst (v := 0) C dX12_sendAll_0 rfl (by decide) ?_
  refine vi_istore C dX12_sendAll_1 rfl (by decide) ?_
  refine vi_cut [(0, .ref m), (1, .int (a1)), (2, .int (a2)), (3, .int (a3)), (4, .int (a4)), (5, .int (a5)), (6, .int ((0 : Int32)))] ⟨rfl, rfl, rfl, rfl, rfl, rfl, rfl, trivial⟩ (w_X12_sendAll_3 C ?_ _ _ _ h _ hR hF)
  · intro M4 h S hR hF
    exact r_ret0 C dX12_sendAll_38 rfl hR hF h

def L_X12_layWhole_13 {ρ : Type}   (kx39 : vM → Option ρ) : Nat → vM → Int32 → Option ρ
  | 0, _, _ => none
  | f + 1, M, l3 => if (M.1 45) ≤ l3 then (kx39 M ) else ((mG M 38 (l3)).bind fun v3 => (mS M 42 (l3) (v3)).bind fun M4 => L_X12_layWhole_13  kx39 f M4 ((l3 + (1))))

def F_X12_layWhole (M : vM) (a1 : Nat) (a2 : Int32) : Option (vM × Int32) := lt1 (mW M 45 ((0 : Int32))) fun M1 => (F_X12_layState M1 (a1) (a2)).bind fun M2 => L_X12_layWhole_13  (fun (M6 : vM)  => some (M6, (M6.1 45))) fu M2 ((0 : Int32))

set_option maxRecDepth 100000 in
set_option maxHeartbeats 4000000 in
theorem w_X12_layWhole_13 {E : vE} {X : vX} {S0 : vS} {sz m b : Nat} {ρ : Type} {R : ρ} {Z : State → Prop}  {kx39 : vM → Option ρ} (C : vi_C E X yX12_layWhole cX12_layWhole 4 (some .int) 4 0 0 (45 * 4)) (hx39 : ∀ (M : vM) , kx39 M  = some R → ∀ S, RM S sz m b M → rF S0 S m b → vi_W E X 4 Z 39 [(0, .ref m)] [] S sz 0 0) : ∀ (f : Nat) (M : vM) (l3 : Int32), L_X12_layWhole_13  kx39 f M l3 = some R → ∀ S, RM S sz m b M → rF S0 S m b → vi_W E X 4 Z 13 [(0, .ref m), (3, .int (l3))] [] S sz 0 0 := by
  intro f
  induction f with
  | zero => intro M l3 h; cases h
  | succ f ih =>
    intro M l3 h S hR hF
    rw [L_X12_layWhole_13] at h
    refine vi_iload_n C dX12_layWhole_13 rfl rfl ?_
    refine vi_aload_n C dX12_layWhole_14 rfl rfl ?_
    refine r_geti C dX12_layWhole_15 rfl fX12_218 rfl hR ?_
    refine vi_icmp_ge (t' := 39) C dX12_layWhole_18 rfl (by decide) (fun c5 => ?_) (fun c5 => ?_)
    · replace h := iT c5 h
      exact vi_cut [(0, .ref m)] ⟨rfl, trivial⟩ (hx39 _  h _ hR hF)
    · replace h := iN c5 h
      refine vi_aload_n C dX12_layWhole_21 rfl rfl ?_
      refine r_geta C dX12_layWhole_22 rfl fX12_145 rfl hR rfl ?_
      refine vi_iload_n C dX12_layWhole_25 rfl rfl ?_
      refine vi_aload_n C dX12_layWhole_26 rfl rfl ?_
      refine r_geta C dX12_layWhole_27 rfl fX12_133 rfl hR rfl ?_
      refine vi_iload_n C dX12_layWhole_30 rfl rfl ?_
      refine r_iaload C dX12_layWhole_31 rfl rfl hR h (fun v3 h => ?_)
      refine r_iastore C dX12_layWhole_32 rfl rfl hR hF h (fun S M4 h hR hF => ?_)
      refine vi_iincv (v := 1) C dX12_layWhole_33 rfl rfl (by decide) (by decide) ?_
      refine vi_goto (t' := 13) C dX12_layWhole_36 (by decide) ?_
      exact vi_cut [(0, .ref m), (3, .int ((l3 + (1))))] ⟨rfl, rfl, trivial⟩ (ih _ _ h _ hR hF)

set_option maxRecDepth 100000 in
set_option maxHeartbeats 4000000 in
theorem p_X12_layWhole {M : vM} {R : (vM × Int32)} {a1 : Nat} {a2 : Int32} (h : F_X12_layWhole M a1 a2 = some R) {E : vE} {S0 : vS} {sz m b : Nat} (hR : RM S0 sz m b M) : vi_Met E yX12_layWhole cX12_layWhole 4 (some .int) 4 0 0 [.ref m, .ref (b + a1), .int (a2)] S0 sz (Q1 S0 sz m b R) := by
  refine vi_met (by decide) (Nat.le_of_ble_eq_true rfl) ?_
  intro X C
  have hF := rF.refl S0 m b
  unfold F_X12_layWhole at h
  refine vi_aload_n C dX12_layWhole_0 rfl rfl ?_
  refine vi_iconst (v := 0) C dX12_layWhole_1 rfl (by decide) ?_
  refine r_puti C dX12_layWhole_2 rfl (fpX12_218 _) rfl hR hF h (fun S M1 h hR hF => ?_)
  refine vi_aload_n C dX12_layWhole_5 rfl rfl ?_
  refine vi_aload_n C dX12_layWhole_6 rfl rfl ?_
  refine vi_iload_n C dX12_layWhole_7 rfl rfl ?_
  refine r_cv0 C [.ref (b + a1), .int (a2)] [] dX12_layWhole_8 rfl ivX12_264 imX12_layState rfl hR hF h (fun _ e => p_X12_layState e hR) rfl (Nat.le_of_ble_eq_true rfl) ⟨by decide, by decide⟩ ⟨Nat.le_refl _, Nat.le_refl _⟩ (fun S M2 h hR hF => ?_)
  refine vi_iconst (v := 0) C dX12_layWhole_11 rfl (by decide) ?_
  refine vi_istore_n C dX12_layWhole_12 rfl (by decide) ?_
  refine vi_cut [(0, .ref m), (3, .int ((0 : Int32)))] ⟨rfl, rfl, trivial⟩ (w_X12_layWhole_13 C ?_ _ _ _ h _ hR hF)
  · intro M6 h S hR hF
    refine vi_aload_n C dX12_layWhole_39 rfl rfl ?_
    refine r_geti C dX12_layWhole_40 rfl fX12_218 rfl hR ?_
    exact r_ret1 C dX12_layWhole_43 rfl hR hF h

def L_X12_layFrame_251 {ρ : Type}  (l1 : Int32) (l2 : Int32) (l5 : Int32) (kx285 : vM → Option ρ) : Nat → vM → Int32 → Option ρ
  | 0, _, _ => none
  | f + 1, M, l6 => if l5 ≤ l6 then (kx285 M ) else ((mG M 41 (l1)).bind fun v46 => (mG M 42 ((((64 : Int32) * v46) + l6))).bind fun v47 => (F_X12_lay M (v47)).bind fun M48 => L_X12_layFrame_251 l1 l2 l5 kx285 f M48 ((l6 + (1))))

def F_X12_layFrame (M : vM) (a1 : Int32) : Option vM := (mG M 39 (((8 : Int32) * a1))).bind fun v1 => jn (fun (M6 : vM) (s0_34 : Int32) => lt1 (mW M6 45 ((0 : Int32))) fun M7 => (F_X12_lay M7 ((165 : Int32))).bind fun M8 => (F_X12_lay M8 (v1)).bind fun M9 => (mG M9 39 ((((8 : Int32) * a1) + (1 : Int32)))).bind fun v10 => (mG M9 39 ((((8 : Int32) * a1) + (2 : Int32)))).bind fun v11 => (F_X12_lay M9 ((((16 : Int32) * v10) + v11))).bind fun M12 => (mG M12 39 ((((8 : Int32) * a1) + (3 : Int32)))).bind fun v13 => (F_X12_layU M12 (v13)).bind fun M14 => (mG M14 39 ((((8 : Int32) * a1) + (4 : Int32)))).bind fun v15 => (F_X12_layU M14 (v15)).bind fun M16 => jn (fun (M23 : vM) => jn (fun (M30 : vM) => (mG M30 39 ((((8 : Int32) * a1) + (5 : Int32)))).bind fun v31 => jn (fun (M36 : vM) => jn (fun (M52 : vM) => (F_X12_layCheck M52 ((0 : Int32))).bind fun M53 => (mG M53 39 ((((8 : Int32) * a1) + (7 : Int32)))).bind fun v54 => if v54 ≤ 0 then (some M53) else ((mG M53 39 ((((8 : Int32) * a1) + (7 : Int32)))).bind fun v55 => (mG M53 38 (((v55 - (1 : Int32)) / (8 : Int32)))).bind fun v56 => (mS M53 38 (((v55 - (1 : Int32)) / (8 : Int32))) ((v56 ^^^ ((1 : Int32) <<< (((v55 - (1 : Int32)) - (v55 - (1 : Int32)) / (8 : Int32) * (8 : Int32)) &&& 31))))).bind fun M57 => some M57)) (fun k285_37 => if v1 = (8 : Int32) then ((mG M36 41 (a1)).bind fun v38 => jn (fun (s0_218 : Int32) => (mG M36 41 (a1)).bind fun v42 => (F_X12_lay M36 (v42)).bind fun M43 => (F_X12_lay M43 (((s0_34 + (63 : Int32)) / (64 : Int32)))).bind fun M44 => (F_X12_lay M44 (s0_218)).bind fun M45 => L_X12_layFrame_251 (a1) (((8 : Int32) * a1)) (s0_218) (fun (M50 : vM)  => (k285_37 (M50))) fu M45 ((0 : Int32))) (fun k218_39 => if (64 : Int32) ≤ (s0_34 - ((64 : Int32) * v38)) then ((k218_39 ((64 : Int32)))) else ((mG M36 41 (a1)).bind fun v40 => (k218_39 ((s0_34 - ((64 : Int32) * v40))))))) else ((k285_37 (M36))))) (fun k178_32 => if v31 ≤ 0 then ((k178_32 (M30))) else ((mG M30 39 ((((8 : Int32) * a1) + (5 : Int32)))).bind fun v33 => (F_X12_layRequest M30 (v33)).bind fun M34 => (k178_32 (M34))))) (fun k155_24 => if v1 = (2 : Int32) then ((mG M23 39 ((((8 : Int32) * a1) + (5 : Int32)))).bind fun v25 => if v25 ≤ 0 then ((k155_24 (M23))) else ((mG M23 39 ((((8 : Int32) * a1) + (6 : Int32)))).bind fun v26 => (F_X12_layU M23 (v26)).bind fun M27 => (k155_24 (M27)))) else ((k155_24 (M23))))) (fun k126_17 => if v1 = (2 : Int32) then ((mG M16 39 ((((8 : Int32) * a1) + (5 : Int32)))).bind fun v18 => if v18 ≤ 0 then ((F_X12_lay M16 ((0 : Int32))).bind fun M19 => (k126_17 (M19))) else ((F_X12_lay M16 ((1 : Int32))).bind fun M20 => (k126_17 (M20)))) else ((k126_17 (M16))))) (fun k34_2 => if v1 = (8 : Int32) then (b2 (F_X12_layWhole M (40) (((100 : Int32) * a1))) fun M3 v4 => (k34_2 (M3) (v4))) else ((k34_2 (M) ((0 : Int32)))))

set_option maxRecDepth 100000 in
set_option maxHeartbeats 4000000 in
theorem w_X12_layFrame_251 {E : vE} {X : vX} {S0 : vS} {sz m b : Nat} {ρ : Type} {R : ρ} {Z : State → Prop} {l1 : Int32} {l2 : Int32} {l5 : Int32} {kx285 : vM → Option ρ} (C : vi_C E X yX12_layFrame cX12_layFrame 7 none 5 0 0 (45 * 5)) (hx285 : ∀ (M : vM) , kx285 M  = some R → ∀ S, RM S sz m b M → rF S0 S m b → vi_W E X 7 Z 285 [(0, .ref m), (2, .int (l2))] [] S sz 0 0) : ∀ (f : Nat) (M : vM) (l6 : Int32), L_X12_layFrame_251 l1 l2 l5 kx285 f M l6 = some R → ∀ S, RM S sz m b M → rF S0 S m b → vi_W E X 7 Z 251 [(0, .ref m), (1, .int (l1)), (2, .int (l2)), (5, .int (l5)), (6, .int (l6))] [] S sz 0 0 := by
  intro f
  induction f with
  | zero => intro M l6 h; cases h
  | succ f ih =>
    intro M l6 h S hR hF
    rw [L_X12_layFrame_251] at h
    refine vi_iload C dX12_layFrame_251 rfl rfl ?_
    refine vi_iload C dX12_layFrame_253 rfl rfl ?_
    refine vi_icmp_ge (t' := 285) C dX12_layFrame_255 rfl (by decide) (fun c49 => ?_) (fun c49 => ?_)
    · replace h := iT c49 h
      exact vi_cut [(0, .ref m), (2, .int (l2))] ⟨rfl, rfl, trivial⟩ (hx285 _  h _ hR hF)
    · replace h := iN c49 h
      refine vi_aload_n C dX12_layFrame_258 rfl rfl ?_
      refine vi_aload_n C dX12_layFrame_259 rfl rfl ?_
      refine r_geta C dX12_layFrame_260 rfl fX12_145 rfl hR rfl ?_
      refine vi_bipush (v := 64) C dX12_layFrame_263 rfl (by decide) ?_
      refine vi_aload_n C dX12_layFrame_265 rfl rfl ?_
      refine r_geta C dX12_layFrame_266 rfl fX12_142 rfl hR rfl ?_
      refine vi_iload_n C dX12_layFrame_269 rfl rfl ?_
      refine r_iaload C dX12_layFrame_270 rfl rfl hR h (fun v46 h => ?_)
      refine vi_imul C dX12_layFrame_271 rfl ?_
      refine vi_iload C dX12_layFrame_272 rfl rfl ?_
      refine vi_iadd C dX12_layFrame_274 rfl ?_
      refine r_iaload C dX12_layFrame_275 rfl rfl hR h (fun v47 h => ?_)
      refine r_cv0 C [.int (v47)] [] dX12_layFrame_276 rfl ivX12_221 imX12_lay rfl hR hF h (fun _ e => p_X12_lay e hR) rfl (Nat.le_of_ble_eq_true rfl) ⟨by decide, by decide⟩ ⟨Nat.le_refl _, Nat.le_refl _⟩ (fun S M48 h hR hF => ?_)
      refine vi_iincv (v := 1) C dX12_layFrame_279 rfl rfl (by decide) (by decide) ?_
      refine vi_goto (t' := 251) C dX12_layFrame_282 (by decide) ?_
      exact vi_cut [(0, .ref m), (1, .int (l1)), (2, .int (l2)), (5, .int (l5)), (6, .int ((l6 + (1))))] ⟨rfl, rfl, rfl, rfl, rfl, trivial⟩ (ih _ _ h _ hR hF)

set_option maxRecDepth 100000 in
set_option maxHeartbeats 4000000 in
theorem p_X12_layFrame {M : vM} {R : vM} {a1 : Int32} (h : F_X12_layFrame M a1 = some R) {E : vE} {S0 : vS} {sz m b : Nat} (hR : RM S0 sz m b M) : vi_Met E yX12_layFrame cX12_layFrame 7 none 5 0 0 [.ref m, .int (a1)] S0 sz (Q0 S0 sz m b R) := by
  refine vi_met (by decide) (Nat.le_of_ble_eq_true rfl) ?_
  intro X C
  have hF := rF.refl S0 m b
  unfold F_X12_layFrame at h
  refine vi_bipush (v := 8) C dX12_layFrame_0 rfl (by decide) ?_
  refine vi_iload_n C dX12_layFrame_2 rfl rfl ?_
  refine vi_imul C dX12_layFrame_3 rfl ?_
  refine vi_istore_n C dX12_layFrame_4 rfl (by decide) ?_
  refine vi_aload_n C dX12_layFrame_5 rfl rfl ?_
  refine r_geta C dX12_layFrame_6 rfl fX12_136 rfl hR rfl ?_
  refine vi_iload_n C dX12_layFrame_9 rfl rfl ?_
  refine r_iaload C dX12_layFrame_10 rfl rfl hR h (fun v1 h => ?_)
  refine vi_istore_n C dX12_layFrame_11 rfl (by decide) ?_
  refine vi_iload_n C dX12_layFrame_12 rfl rfl ?_
  refine vi_bipush (v := 8) C dX12_layFrame_13 rfl (by decide) ?_
  refine r_jn h (fun k => ∀ (M6 : vM) (s0_34 : Int32), k M6 s0_34 = some R → ∀ S, RM S sz m b M6 → rF S0 S m b → vi_W E X 7 (vi_Z E X (Q0 S0 sz m b R) 0 0) 34 [(0, .ref m), (1, .int (a1)), (2, .int (((8 : Int32) * a1))), (3, .int (v1))] [.int (s0_34)] S sz 0 0) ?_ ?_
  · intro M6 s0_34 h S hR hF
    refine vi_istore C dX12_layFrame_34 rfl (by decide) ?_
    refine vi_aload_n C dX12_layFrame_36 rfl rfl ?_
    refine vi_iconst (v := 0) C dX12_layFrame_37 rfl (by decide) ?_
    refine r_puti C dX12_layFrame_38 rfl (fpX12_218 _) rfl hR hF h (fun S M7 h hR hF => ?_)
    refine vi_aload_n C dX12_layFrame_41 rfl rfl ?_
    refine vi_sipush (v := 165) C dX12_layFrame_42 rfl (by decide) ?_
    refine r_cv0 C [.int ((165 : Int32))] [] dX12_layFrame_45 rfl ivX12_221 imX12_lay rfl hR hF h (fun _ e => p_X12_lay e hR) rfl (Nat.le_of_ble_eq_true rfl) ⟨by decide, by decide⟩ ⟨Nat.le_refl _, Nat.le_refl _⟩ (fun S M8 h hR hF => ?_)
    refine vi_aload_n C dX12_layFrame_48 rfl rfl ?_
    refine vi_iload_n C dX12_layFrame_49 rfl rfl ?_
    refine r_cv0 C [.int (v1)] [] dX12_layFrame_50 rfl ivX12_221 imX12_lay rfl hR hF h (fun _ e => p_X12_lay e hR) rfl (Nat.le_of_ble_eq_true rfl) ⟨by decide, by decide⟩ ⟨Nat.le_refl _, Nat.le_refl _⟩ (fun S M9 h hR hF => ?_)
    refine vi_aload_n C dX12_layFrame_53 rfl rfl ?_
    refine vi_bipush (v := 16) C dX12_layFrame_54 rfl (by decide) ?_
    refine vi_aload_n C dX12_layFrame_56 rfl rfl ?_
    refine r_geta C dX12_layFrame_57 rfl fX12_136 rfl hR rfl ?_
    refine vi_iload_n C dX12_layFrame_60 rfl rfl ?_
    refine vi_iconst (v := 1) C dX12_layFrame_61 rfl (by decide) ?_
    refine vi_iadd C dX12_layFrame_62 rfl ?_
    refine r_iaload C dX12_layFrame_63 rfl rfl hR h (fun v10 h => ?_)
    refine vi_imul C dX12_layFrame_64 rfl ?_
    refine vi_aload_n C dX12_layFrame_65 rfl rfl ?_
    refine r_geta C dX12_layFrame_66 rfl fX12_136 rfl hR rfl ?_
    refine vi_iload_n C dX12_layFrame_69 rfl rfl ?_
    refine vi_iconst (v := 2) C dX12_layFrame_70 rfl (by decide) ?_
    refine vi_iadd C dX12_layFrame_71 rfl ?_
    refine r_iaload C dX12_layFrame_72 rfl rfl hR h (fun v11 h => ?_)
    refine vi_iadd C dX12_layFrame_73 rfl ?_
    refine r_cv0 C [.int ((((16 : Int32) * v10) + v11))] [] dX12_layFrame_74 rfl ivX12_221 imX12_lay rfl hR hF h (fun _ e => p_X12_lay e hR) rfl (Nat.le_of_ble_eq_true rfl) ⟨by decide, by decide⟩ ⟨Nat.le_refl _, Nat.le_refl _⟩ (fun S M12 h hR hF => ?_)
    refine vi_aload_n C dX12_layFrame_77 rfl rfl ?_
    refine vi_aload_n C dX12_layFrame_78 rfl rfl ?_
    refine r_geta C dX12_layFrame_79 rfl fX12_136 rfl hR rfl ?_
    refine vi_iload_n C dX12_layFrame_82 rfl rfl ?_
    refine vi_iconst (v := 3) C dX12_layFrame_83 rfl (by decide) ?_
    refine vi_iadd C dX12_layFrame_84 rfl ?_
    refine r_iaload C dX12_layFrame_85 rfl rfl hR h (fun v13 h => ?_)
    refine r_cv0 C [.int (v13)] [] dX12_layFrame_86 rfl ivX12_228 imX12_layU rfl hR hF h (fun _ e => p_X12_layU e hR) rfl (Nat.le_of_ble_eq_true rfl) ⟨by decide, by decide⟩ ⟨Nat.le_refl _, Nat.le_refl _⟩ (fun S M14 h hR hF => ?_)
    refine vi_aload_n C dX12_layFrame_89 rfl rfl ?_
    refine vi_aload_n C dX12_layFrame_90 rfl rfl ?_
    refine r_geta C dX12_layFrame_91 rfl fX12_136 rfl hR rfl ?_
    refine vi_iload_n C dX12_layFrame_94 rfl rfl ?_
    refine vi_iconst (v := 4) C dX12_layFrame_95 rfl (by decide) ?_
    refine vi_iadd C dX12_layFrame_96 rfl ?_
    refine r_iaload C dX12_layFrame_97 rfl rfl hR h (fun v15 h => ?_)
    refine r_cv0 C [.int (v15)] [] dX12_layFrame_98 rfl ivX12_228 imX12_layU rfl hR hF h (fun _ e => p_X12_layU e hR) rfl (Nat.le_of_ble_eq_true rfl) ⟨by decide, by decide⟩ ⟨Nat.le_refl _, Nat.le_refl _⟩ (fun S M16 h hR hF => ?_)
    refine vi_iload_n C dX12_layFrame_101 rfl rfl ?_
    refine vi_iconst (v := 2) C dX12_layFrame_102 rfl (by decide) ?_
    refine r_jn h (fun k => ∀ (M23 : vM), k M23 = some R → ∀ S, RM S sz m b M23 → rF S0 S m b → vi_W E X 7 (vi_Z E X (Q0 S0 sz m b R) 0 0) 126 [(0, .ref m), (1, .int (a1)), (2, .int (((8 : Int32) * a1))), (3, .int (v1)), (4, .int (s0_34))] [] S sz 0 0) ?_ ?_
    · intro M23 h S hR hF
      refine vi_iload_n C dX12_layFrame_126 rfl rfl ?_
      refine vi_iconst (v := 2) C dX12_layFrame_127 rfl (by decide) ?_
      refine r_jn h (fun k => ∀ (M30 : vM), k M30 = some R → ∀ S, RM S sz m b M30 → rF S0 S m b → vi_W E X 7 (vi_Z E X (Q0 S0 sz m b R) 0 0) 155 [(0, .ref m), (1, .int (a1)), (2, .int (((8 : Int32) * a1))), (3, .int (v1)), (4, .int (s0_34))] [] S sz 0 0) ?_ ?_
      · intro M30 h S hR hF
        refine vi_aload_n C dX12_layFrame_155 rfl rfl ?_
        refine r_geta C dX12_layFrame_156 rfl fX12_136 rfl hR rfl ?_
        refine vi_iload_n C dX12_layFrame_159 rfl rfl ?_
        refine vi_iconst (v := 5) C dX12_layFrame_160 rfl (by decide) ?_
        refine vi_iadd C dX12_layFrame_161 rfl ?_
        refine r_iaload C dX12_layFrame_162 rfl rfl hR h (fun v31 h => ?_)
        refine r_jn h (fun k => ∀ (M36 : vM), k M36 = some R → ∀ S, RM S sz m b M36 → rF S0 S m b → vi_W E X 7 (vi_Z E X (Q0 S0 sz m b R) 0 0) 178 [(0, .ref m), (1, .int (a1)), (2, .int (((8 : Int32) * a1))), (3, .int (v1)), (4, .int (s0_34))] [] S sz 0 0) ?_ ?_
        · intro M36 h S hR hF
          refine vi_iload_n C dX12_layFrame_178 rfl rfl ?_
          refine vi_bipush (v := 8) C dX12_layFrame_179 rfl (by decide) ?_
          refine r_jn h (fun k => ∀ (M52 : vM), k M52 = some R → ∀ S, RM S sz m b M52 → rF S0 S m b → vi_W E X 7 (vi_Z E X (Q0 S0 sz m b R) 0 0) 285 [(0, .ref m), (2, .int (((8 : Int32) * a1)))] [] S sz 0 0) ?_ ?_
          · intro M52 h S hR hF
            refine vi_aload_n C dX12_layFrame_285 rfl rfl ?_
            refine vi_iconst (v := 0) C dX12_layFrame_286 rfl (by decide) ?_
            refine r_cv0 C [.int ((0 : Int32))] [] dX12_layFrame_287 rfl ivX12_235 imX12_layCheck rfl hR hF h (fun _ e => p_X12_layCheck e hR) rfl (Nat.le_of_ble_eq_true rfl) ⟨by decide, by decide⟩ ⟨Nat.le_refl _, Nat.le_refl _⟩ (fun S M53 h hR hF => ?_)
            refine vi_aload_n C dX12_layFrame_290 rfl rfl ?_
            refine r_geta C dX12_layFrame_291 rfl fX12_136 rfl hR rfl ?_
            refine vi_iload_n C dX12_layFrame_294 rfl rfl ?_
            refine vi_bipush (v := 7) C dX12_layFrame_295 rfl (by decide) ?_
            refine vi_iadd C dX12_layFrame_297 rfl ?_
            refine r_iaload C dX12_layFrame_298 rfl rfl hR h (fun v54 h => ?_)
            refine vi_if_le (t' := 335) C dX12_layFrame_299 rfl (by decide) (fun c58 => ?_) (fun c58 => ?_)
            · replace h := iT c58 h
              exact r_ret0 C dX12_layFrame_335 rfl hR hF h
            · replace h := iN c58 h
              refine vi_aload_n C dX12_layFrame_302 rfl rfl ?_
              refine r_geta C dX12_layFrame_303 rfl fX12_136 rfl hR rfl ?_
              refine vi_iload_n C dX12_layFrame_306 rfl rfl ?_
              refine vi_bipush (v := 7) C dX12_layFrame_307 rfl (by decide) ?_
              refine vi_iadd C dX12_layFrame_309 rfl ?_
              refine r_iaload C dX12_layFrame_310 rfl rfl hR h (fun v55 h => ?_)
              refine vi_iconst (v := 1) C dX12_layFrame_311 rfl (by decide) ?_
              refine vi_isub C dX12_layFrame_312 rfl ?_
              refine vi_istore C dX12_layFrame_313 rfl (by decide) ?_
              refine vi_aload_n C dX12_layFrame_315 rfl rfl ?_
              refine r_geta C dX12_layFrame_316 rfl fX12_133 rfl hR rfl ?_
              refine vi_iload C dX12_layFrame_319 rfl rfl ?_
              refine vi_bipush (v := 8) C dX12_layFrame_321 rfl (by decide) ?_
              refine vi_idiv C dX12_layFrame_323 rfl (by decide) ?_
              refine vi_dup2 C dX12_layFrame_324 rfl rfl rfl ?_
              refine r_iaload C dX12_layFrame_325 rfl rfl hR h (fun v56 h => ?_)
              refine vi_iconst (v := 1) C dX12_layFrame_326 rfl (by decide) ?_
              refine vi_iload C dX12_layFrame_327 rfl rfl ?_
              refine vi_bipush (v := 8) C dX12_layFrame_329 rfl (by decide) ?_
              refine vi_irem C dX12_layFrame_331 rfl (by decide) ?_
              refine vi_ishl C dX12_layFrame_332 rfl ?_
              refine vi_ixor C dX12_layFrame_333 rfl ?_
              refine r_iastore C dX12_layFrame_334 rfl rfl hR hF h (fun S M57 h hR hF => ?_)
              exact r_ret0 C dX12_layFrame_335 rfl hR hF h
          · intro k285_37 h285_37 h
            refine vi_icmp_ne (t' := 285) C dX12_layFrame_181 rfl (by decide) (fun c51 => ?_) (fun c51 => ?_)
            · replace h := iN c51 h
              exact vi_cut [(0, .ref m), (2, .int (((8 : Int32) * a1)))] ⟨rfl, rfl, trivial⟩ (h285_37 _ h _ hR hF)
            · replace h := iT c51 h
              refine vi_iload C dX12_layFrame_184 rfl rfl ?_
              refine vi_bipush (v := 64) C dX12_layFrame_186 rfl (by decide) ?_
              refine vi_aload_n C dX12_layFrame_188 rfl rfl ?_
              refine r_geta C dX12_layFrame_189 rfl fX12_142 rfl hR rfl ?_
              refine vi_iload_n C dX12_layFrame_192 rfl rfl ?_
              refine r_iaload C dX12_layFrame_193 rfl rfl hR h (fun v38 h => ?_)
              refine vi_imul C dX12_layFrame_194 rfl ?_
              refine vi_isub C dX12_layFrame_195 rfl ?_
              refine vi_bipush (v := 64) C dX12_layFrame_196 rfl (by decide) ?_
              refine r_jn h (fun k => ∀ (s0_218 : Int32), k s0_218 = some R → ∀ S, RM S sz m b M36 → rF S0 S m b → vi_W E X 7 (vi_Z E X (Q0 S0 sz m b R) 0 0) 218 [(0, .ref m), (1, .int (a1)), (2, .int (((8 : Int32) * a1))), (4, .int (s0_34))] [.int (s0_218)] S sz 0 0) ?_ ?_
              · intro s0_218 h S hR hF
                refine vi_istore C dX12_layFrame_218 rfl (by decide) ?_
                refine vi_aload_n C dX12_layFrame_220 rfl rfl ?_
                refine vi_aload_n C dX12_layFrame_221 rfl rfl ?_
                refine r_geta C dX12_layFrame_222 rfl fX12_142 rfl hR rfl ?_
                refine vi_iload_n C dX12_layFrame_225 rfl rfl ?_
                refine r_iaload C dX12_layFrame_226 rfl rfl hR h (fun v42 h => ?_)
                refine r_cv0 C [.int (v42)] [] dX12_layFrame_227 rfl ivX12_221 imX12_lay rfl hR hF h (fun _ e => p_X12_lay e hR) rfl (Nat.le_of_ble_eq_true rfl) ⟨by decide, by decide⟩ ⟨Nat.le_refl _, Nat.le_refl _⟩ (fun S M43 h hR hF => ?_)
                refine vi_aload_n C dX12_layFrame_230 rfl rfl ?_
                refine vi_iload C dX12_layFrame_231 rfl rfl ?_
                refine vi_bipush (v := 63) C dX12_layFrame_233 rfl (by decide) ?_
                refine vi_iadd C dX12_layFrame_235 rfl ?_
                refine vi_bipush (v := 64) C dX12_layFrame_236 rfl (by decide) ?_
                refine vi_idiv C dX12_layFrame_238 rfl (by decide) ?_
                refine r_cv0 C [.int (((s0_34 + (63 : Int32)) / (64 : Int32)))] [] dX12_layFrame_239 rfl ivX12_221 imX12_lay rfl hR hF h (fun _ e => p_X12_lay e hR) rfl (Nat.le_of_ble_eq_true rfl) ⟨by decide, by decide⟩ ⟨Nat.le_refl _, Nat.le_refl _⟩ (fun S M44 h hR hF => ?_)
                refine vi_aload_n C dX12_layFrame_242 rfl rfl ?_
                refine vi_iload C dX12_layFrame_243 rfl rfl ?_
                refine r_cv0 C [.int (s0_218)] [] dX12_layFrame_245 rfl ivX12_221 imX12_lay rfl hR hF h (fun _ e => p_X12_lay e hR) rfl (Nat.le_of_ble_eq_true rfl) ⟨by decide, by decide⟩ ⟨Nat.le_refl _, Nat.le_refl _⟩ (fun S M45 h hR hF => ?_)
                refine vi_iconst (v := 0) C dX12_layFrame_248 rfl (by decide) ?_
                refine vi_istore C dX12_layFrame_249 rfl (by decide) ?_
                refine vi_cut [(0, .ref m), (1, .int (a1)), (2, .int (((8 : Int32) * a1))), (5, .int (s0_218)), (6, .int ((0 : Int32)))] ⟨rfl, rfl, rfl, rfl, rfl, trivial⟩ (w_X12_layFrame_251 C ?_ _ _ _ h _ hR hF)
                · intro M50 h S hR hF
                  exact vi_cut [(0, .ref m), (2, .int (((8 : Int32) * a1)))] ⟨rfl, rfl, trivial⟩ (h285_37 _ h _ hR hF)
              · intro k218_39 h218_39 h
                refine vi_icmp_ge (t' := 216) C dX12_layFrame_198 rfl (by decide) (fun c41 => ?_) (fun c41 => ?_)
                · replace h := iT c41 h
                  refine vi_bipush (v := 64) C dX12_layFrame_216 rfl (by decide) ?_
                  exact vi_cut [(0, .ref m), (1, .int (a1)), (2, .int (((8 : Int32) * a1))), (4, .int (s0_34))] ⟨rfl, rfl, rfl, rfl, trivial⟩ (h218_39 _ h _ hR hF)
                · replace h := iN c41 h
                  refine vi_iload C dX12_layFrame_201 rfl rfl ?_
                  refine vi_bipush (v := 64) C dX12_layFrame_203 rfl (by decide) ?_
                  refine vi_aload_n C dX12_layFrame_205 rfl rfl ?_
                  refine r_geta C dX12_layFrame_206 rfl fX12_142 rfl hR rfl ?_
                  refine vi_iload_n C dX12_layFrame_209 rfl rfl ?_
                  refine r_iaload C dX12_layFrame_210 rfl rfl hR h (fun v40 h => ?_)
                  refine vi_imul C dX12_layFrame_211 rfl ?_
                  refine vi_isub C dX12_layFrame_212 rfl ?_
                  refine vi_goto (t' := 218) C dX12_layFrame_213 (by decide) ?_
                  exact vi_cut [(0, .ref m), (1, .int (a1)), (2, .int (((8 : Int32) * a1))), (4, .int (s0_34))] ⟨rfl, rfl, rfl, rfl, trivial⟩ (h218_39 _ h _ hR hF)
        · intro k178_32 h178_32 h
          refine vi_if_le (t' := 178) C dX12_layFrame_163 rfl (by decide) (fun c35 => ?_) (fun c35 => ?_)
          · replace h := iT c35 h
            exact vi_cut [(0, .ref m), (1, .int (a1)), (2, .int (((8 : Int32) * a1))), (3, .int (v1)), (4, .int (s0_34))] ⟨rfl, rfl, rfl, rfl, rfl, trivial⟩ (h178_32 _ h _ hR hF)
          · replace h := iN c35 h
            refine vi_aload_n C dX12_layFrame_166 rfl rfl ?_
            refine vi_aload_n C dX12_layFrame_167 rfl rfl ?_
            refine r_geta C dX12_layFrame_168 rfl fX12_136 rfl hR rfl ?_
            refine vi_iload_n C dX12_layFrame_171 rfl rfl ?_
            refine vi_iconst (v := 5) C dX12_layFrame_172 rfl (by decide) ?_
            refine vi_iadd C dX12_layFrame_173 rfl ?_
            refine r_iaload C dX12_layFrame_174 rfl rfl hR h (fun v33 h => ?_)
            refine r_cv0 C [.int (v33)] [] dX12_layFrame_175 rfl ivX12_257 imX12_layRequest rfl hR hF h (fun _ e => p_X12_layRequest e hR) rfl (Nat.le_of_ble_eq_true rfl) ⟨by decide, by decide⟩ ⟨Nat.le_refl _, Nat.le_refl _⟩ (fun S M34 h hR hF => ?_)
            exact vi_cut [(0, .ref m), (1, .int (a1)), (2, .int (((8 : Int32) * a1))), (3, .int (v1)), (4, .int (s0_34))] ⟨rfl, rfl, rfl, rfl, rfl, trivial⟩ (h178_32 _ h _ hR hF)
      · intro k155_24 h155_24 h
        refine vi_icmp_ne (t' := 155) C dX12_layFrame_128 rfl (by decide) (fun c29 => ?_) (fun c29 => ?_)
        · replace h := iN c29 h
          exact vi_cut [(0, .ref m), (1, .int (a1)), (2, .int (((8 : Int32) * a1))), (3, .int (v1)), (4, .int (s0_34))] ⟨rfl, rfl, rfl, rfl, rfl, trivial⟩ (h155_24 _ h _ hR hF)
        · replace h := iT c29 h
          refine vi_aload_n C dX12_layFrame_131 rfl rfl ?_
          refine r_geta C dX12_layFrame_132 rfl fX12_136 rfl hR rfl ?_
          refine vi_iload_n C dX12_layFrame_135 rfl rfl ?_
          refine vi_iconst (v := 5) C dX12_layFrame_136 rfl (by decide) ?_
          refine vi_iadd C dX12_layFrame_137 rfl ?_
          refine r_iaload C dX12_layFrame_138 rfl rfl hR h (fun v25 h => ?_)
          refine vi_if_le (t' := 155) C dX12_layFrame_139 rfl (by decide) (fun c28 => ?_) (fun c28 => ?_)
          · replace h := iT c28 h
            exact vi_cut [(0, .ref m), (1, .int (a1)), (2, .int (((8 : Int32) * a1))), (3, .int (v1)), (4, .int (s0_34))] ⟨rfl, rfl, rfl, rfl, rfl, trivial⟩ (h155_24 _ h _ hR hF)
          · replace h := iN c28 h
            refine vi_aload_n C dX12_layFrame_142 rfl rfl ?_
            refine vi_aload_n C dX12_layFrame_143 rfl rfl ?_
            refine r_geta C dX12_layFrame_144 rfl fX12_136 rfl hR rfl ?_
            refine vi_iload_n C dX12_layFrame_147 rfl rfl ?_
            refine vi_bipush (v := 6) C dX12_layFrame_148 rfl (by decide) ?_
            refine vi_iadd C dX12_layFrame_150 rfl ?_
            refine r_iaload C dX12_layFrame_151 rfl rfl hR h (fun v26 h => ?_)
            refine r_cv0 C [.int (v26)] [] dX12_layFrame_152 rfl ivX12_228 imX12_layU rfl hR hF h (fun _ e => p_X12_layU e hR) rfl (Nat.le_of_ble_eq_true rfl) ⟨by decide, by decide⟩ ⟨Nat.le_refl _, Nat.le_refl _⟩ (fun S M27 h hR hF => ?_)
            exact vi_cut [(0, .ref m), (1, .int (a1)), (2, .int (((8 : Int32) * a1))), (3, .int (v1)), (4, .int (s0_34))] ⟨rfl, rfl, rfl, rfl, rfl, trivial⟩ (h155_24 _ h _ hR hF)
    · intro k126_17 h126_17 h
      refine vi_icmp_ne (t' := 126) C dX12_layFrame_103 rfl (by decide) (fun c22 => ?_) (fun c22 => ?_)
      · replace h := iN c22 h
        exact vi_cut [(0, .ref m), (1, .int (a1)), (2, .int (((8 : Int32) * a1))), (3, .int (v1)), (4, .int (s0_34))] ⟨rfl, rfl, rfl, rfl, rfl, trivial⟩ (h126_17 _ h _ hR hF)
      · replace h := iT c22 h
        refine vi_aload_n C dX12_layFrame_106 rfl rfl ?_
        refine vi_aload_n C dX12_layFrame_107 rfl rfl ?_
        refine r_geta C dX12_layFrame_108 rfl fX12_136 rfl hR rfl ?_
        refine vi_iload_n C dX12_layFrame_111 rfl rfl ?_
        refine vi_iconst (v := 5) C dX12_layFrame_112 rfl (by decide) ?_
        refine vi_iadd C dX12_layFrame_113 rfl ?_
        refine r_iaload C dX12_layFrame_114 rfl rfl hR h (fun v18 h => ?_)
        refine vi_if_le (t' := 122) C dX12_layFrame_115 rfl (by decide) (fun c21 => ?_) (fun c21 => ?_)
        · replace h := iT c21 h
          refine vi_iconst (v := 0) C dX12_layFrame_122 rfl (by decide) ?_
          refine r_cv0 C [.int ((0 : Int32))] [] dX12_layFrame_123 rfl ivX12_221 imX12_lay rfl hR hF h (fun _ e => p_X12_lay e hR) rfl (Nat.le_of_ble_eq_true rfl) ⟨by decide, by decide⟩ ⟨Nat.le_refl _, Nat.le_refl _⟩ (fun S M19 h hR hF => ?_)
          exact vi_cut [(0, .ref m), (1, .int (a1)), (2, .int (((8 : Int32) * a1))), (3, .int (v1)), (4, .int (s0_34))] ⟨rfl, rfl, rfl, rfl, rfl, trivial⟩ (h126_17 _ h _ hR hF)
        · replace h := iN c21 h
          refine vi_iconst (v := 1) C dX12_layFrame_118 rfl (by decide) ?_
          refine vi_goto (t' := 123) C dX12_layFrame_119 (by decide) ?_
          refine r_cv0 C [.int ((1 : Int32))] [] dX12_layFrame_123 rfl ivX12_221 imX12_lay rfl hR hF h (fun _ e => p_X12_lay e hR) rfl (Nat.le_of_ble_eq_true rfl) ⟨by decide, by decide⟩ ⟨Nat.le_refl _, Nat.le_refl _⟩ (fun S M20 h hR hF => ?_)
          exact vi_cut [(0, .ref m), (1, .int (a1)), (2, .int (((8 : Int32) * a1))), (3, .int (v1)), (4, .int (s0_34))] ⟨rfl, rfl, rfl, rfl, rfl, trivial⟩ (h126_17 _ h _ hR hF)
  · intro k34_2 h34_2 h
    refine vi_icmp_ne (t' := 33) C dX12_layFrame_15 rfl (by decide) (fun c5 => ?_) (fun c5 => ?_)
    · replace h := iN c5 h
      refine vi_iconst (v := 0) C dX12_layFrame_33 rfl (by decide) ?_
      exact vi_cut [(0, .ref m), (1, .int (a1)), (2, .int (((8 : Int32) * a1))), (3, .int (v1))] ⟨rfl, rfl, rfl, rfl, trivial⟩ (h34_2 _ _ h _ hR hF)
    · replace h := iT c5 h
      refine vi_aload_n C dX12_layFrame_18 rfl rfl ?_
      refine vi_aload_n C dX12_layFrame_19 rfl rfl ?_
      refine r_geta C dX12_layFrame_20 rfl fX12_139 rfl hR rfl ?_
      refine vi_bipush (v := 100) C dX12_layFrame_23 rfl (by decide) ?_
      refine vi_iload_n C dX12_layFrame_25 rfl rfl ?_
      refine vi_imul C dX12_layFrame_26 rfl ?_
      refine r_cv1 C [.ref (b + 40), .int (((100 : Int32) * a1))] [] dX12_layFrame_27 rfl ivX12_303 imX12_layWhole rfl hR hF h (fun _ e => p_X12_layWhole e hR) rfl (Nat.le_of_ble_eq_true rfl) ⟨by decide, by decide⟩ ⟨Nat.le_refl _, Nat.le_refl _⟩ (fun S M3 v4 h hR hF => ?_)
      refine vi_goto (t' := 34) C dX12_layFrame_30 (by decide) ?_
      exact vi_cut [(0, .ref m), (1, .int (a1)), (2, .int (((8 : Int32) * a1))), (3, .int (v1))] ⟨rfl, rfl, rfl, rfl, trivial⟩ (h34_2 _ _ h _ hR hF)

def L_X12_remove_15 {ρ : Type}  (l1 : Int32) (kx47 : vM → Option ρ) : Nat → vM → Int32 → Option ρ
  | 0, _, _ => none
  | f + 1, M, l2 => if ((8 : Int32) * (M.1 53)) ≤ l2 then (kx47 M ) else ((mG M 39 ((l2 + (8 : Int32)))).bind fun v2 => (mS M 39 (l2) (v2)).bind fun M3 => L_X12_remove_15 l1 kx47 f M3 ((l2 + (1))))

def L_X12_remove_52 {ρ : Type}  (l1 : Int32) (kx84 : vM → Option ρ) : Nat → vM → Int32 → Option ρ
  | 0, _, _ => none
  | f + 1, M, l2 => if ((100 : Int32) * (M.1 53)) ≤ l2 then (kx84 M ) else ((mG M 40 ((l2 + (100 : Int32)))).bind fun v6 => (mS M 40 (l2) (v6)).bind fun M7 => L_X12_remove_52 l1 kx84 f M7 ((l2 + (1))))

def L_X12_remove_86 {ρ : Type}   (kx114 : vM → Option ρ) : Nat → vM → Int32 → Option ρ
  | 0, _, _ => none
  | f + 1, M, l2 => if (M.1 53) ≤ l2 then (kx114 M ) else ((mG M 41 ((l2 + (1 : Int32)))).bind fun v10 => (mS M 41 (l2) (v10)).bind fun M11 => L_X12_remove_86  kx114 f M11 ((l2 + (1))))

def F_X12_remove (M : vM) (a1 : Int32) : Option vM := lt1 (mW M 53 (((M.1 53) - (1 : Int32)))) fun M1 => L_X12_remove_15 (a1) (fun (M5 : vM)  => L_X12_remove_52 (a1) (fun (M9 : vM)  => L_X12_remove_86  (fun (M13 : vM)  => some M13) fu M9 (a1)) fu M5 (((100 : Int32) * a1))) fu M1 (((8 : Int32) * a1))

set_option maxRecDepth 100000 in
set_option maxHeartbeats 4000000 in
theorem w_X12_remove_15 {E : vE} {X : vX} {S0 : vS} {sz m b : Nat} {ρ : Type} {R : ρ} {Z : State → Prop} {l1 : Int32} {kx47 : vM → Option ρ} (C : vi_C E X yX12_remove cX12_remove 3 none 0 0 0 (45 * 0)) (hx47 : ∀ (M : vM) , kx47 M  = some R → ∀ S, RM S sz m b M → rF S0 S m b → vi_W E X 3 Z 47 [(0, .ref m), (1, .int (l1))] [] S sz 0 0) : ∀ (f : Nat) (M : vM) (l2 : Int32), L_X12_remove_15 l1 kx47 f M l2 = some R → ∀ S, RM S sz m b M → rF S0 S m b → vi_W E X 3 Z 15 [(0, .ref m), (1, .int (l1)), (2, .int (l2))] [] S sz 0 0 := by
  intro f
  induction f with
  | zero => intro M l2 h; cases h
  | succ f ih =>
    intro M l2 h S hR hF
    rw [L_X12_remove_15] at h
    refine vi_iload_n C dX12_remove_15 rfl rfl ?_
    refine vi_bipush (v := 8) C dX12_remove_16 rfl (by decide) ?_
    refine vi_aload_n C dX12_remove_18 rfl rfl ?_
    refine r_geti C dX12_remove_19 rfl fX12_290 rfl hR ?_
    refine vi_imul C dX12_remove_22 rfl ?_
    refine vi_icmp_ge (t' := 47) C dX12_remove_23 rfl (by decide) (fun c4 => ?_) (fun c4 => ?_)
    · replace h := iT c4 h
      exact vi_cut [(0, .ref m), (1, .int (l1))] ⟨rfl, rfl, trivial⟩ (hx47 _  h _ hR hF)
    · replace h := iN c4 h
      refine vi_aload_n C dX12_remove_26 rfl rfl ?_
      refine r_geta C dX12_remove_27 rfl fX12_136 rfl hR rfl ?_
      refine vi_iload_n C dX12_remove_30 rfl rfl ?_
      refine vi_aload_n C dX12_remove_31 rfl rfl ?_
      refine r_geta C dX12_remove_32 rfl fX12_136 rfl hR rfl ?_
      refine vi_iload_n C dX12_remove_35 rfl rfl ?_
      refine vi_bipush (v := 8) C dX12_remove_36 rfl (by decide) ?_
      refine vi_iadd C dX12_remove_38 rfl ?_
      refine r_iaload C dX12_remove_39 rfl rfl hR h (fun v2 h => ?_)
      refine r_iastore C dX12_remove_40 rfl rfl hR hF h (fun S M3 h hR hF => ?_)
      refine vi_iincv (v := 1) C dX12_remove_41 rfl rfl (by decide) (by decide) ?_
      refine vi_goto (t' := 15) C dX12_remove_44 (by decide) ?_
      exact vi_cut [(0, .ref m), (1, .int (l1)), (2, .int ((l2 + (1))))] ⟨rfl, rfl, rfl, trivial⟩ (ih _ _ h _ hR hF)

set_option maxRecDepth 100000 in
set_option maxHeartbeats 4000000 in
theorem w_X12_remove_52 {E : vE} {X : vX} {S0 : vS} {sz m b : Nat} {ρ : Type} {R : ρ} {Z : State → Prop} {l1 : Int32} {kx84 : vM → Option ρ} (C : vi_C E X yX12_remove cX12_remove 3 none 0 0 0 (45 * 0)) (hx84 : ∀ (M : vM) , kx84 M  = some R → ∀ S, RM S sz m b M → rF S0 S m b → vi_W E X 3 Z 84 [(0, .ref m), (1, .int (l1))] [] S sz 0 0) : ∀ (f : Nat) (M : vM) (l2 : Int32), L_X12_remove_52 l1 kx84 f M l2 = some R → ∀ S, RM S sz m b M → rF S0 S m b → vi_W E X 3 Z 52 [(0, .ref m), (1, .int (l1)), (2, .int (l2))] [] S sz 0 0 := by
  intro f
  induction f with
  | zero => intro M l2 h; cases h
  | succ f ih =>
    intro M l2 h S hR hF
    rw [L_X12_remove_52] at h
    refine vi_iload_n C dX12_remove_52 rfl rfl ?_
    refine vi_bipush (v := 100) C dX12_remove_53 rfl (by decide) ?_
    refine vi_aload_n C dX12_remove_55 rfl rfl ?_
    refine r_geti C dX12_remove_56 rfl fX12_290 rfl hR ?_
    refine vi_imul C dX12_remove_59 rfl ?_
    refine vi_icmp_ge (t' := 84) C dX12_remove_60 rfl (by decide) (fun c8 => ?_) (fun c8 => ?_)
    · replace h := iT c8 h
      exact vi_cut [(0, .ref m), (1, .int (l1))] ⟨rfl, rfl, trivial⟩ (hx84 _  h _ hR hF)
    · replace h := iN c8 h
      refine vi_aload_n C dX12_remove_63 rfl rfl ?_
      refine r_geta C dX12_remove_64 rfl fX12_139 rfl hR rfl ?_
      refine vi_iload_n C dX12_remove_67 rfl rfl ?_
      refine vi_aload_n C dX12_remove_68 rfl rfl ?_
      refine r_geta C dX12_remove_69 rfl fX12_139 rfl hR rfl ?_
      refine vi_iload_n C dX12_remove_72 rfl rfl ?_
      refine vi_bipush (v := 100) C dX12_remove_73 rfl (by decide) ?_
      refine vi_iadd C dX12_remove_75 rfl ?_
      refine r_iaload C dX12_remove_76 rfl rfl hR h (fun v6 h => ?_)
      refine r_iastore C dX12_remove_77 rfl rfl hR hF h (fun S M7 h hR hF => ?_)
      refine vi_iincv (v := 1) C dX12_remove_78 rfl rfl (by decide) (by decide) ?_
      refine vi_goto (t' := 52) C dX12_remove_81 (by decide) ?_
      exact vi_cut [(0, .ref m), (1, .int (l1)), (2, .int ((l2 + (1))))] ⟨rfl, rfl, rfl, trivial⟩ (ih _ _ h _ hR hF)

set_option maxRecDepth 100000 in
set_option maxHeartbeats 4000000 in
theorem w_X12_remove_86 {E : vE} {X : vX} {S0 : vS} {sz m b : Nat} {ρ : Type} {R : ρ} {Z : State → Prop}  {kx114 : vM → Option ρ} (C : vi_C E X yX12_remove cX12_remove 3 none 0 0 0 (45 * 0)) (hx114 : ∀ (M : vM) , kx114 M  = some R → ∀ S, RM S sz m b M → rF S0 S m b → vi_W E X 3 Z 114 [] [] S sz 0 0) : ∀ (f : Nat) (M : vM) (l2 : Int32), L_X12_remove_86  kx114 f M l2 = some R → ∀ S, RM S sz m b M → rF S0 S m b → vi_W E X 3 Z 86 [(0, .ref m), (2, .int (l2))] [] S sz 0 0 := by
  intro f
  induction f with
  | zero => intro M l2 h; cases h
  | succ f ih =>
    intro M l2 h S hR hF
    rw [L_X12_remove_86] at h
    refine vi_iload_n C dX12_remove_86 rfl rfl ?_
    refine vi_aload_n C dX12_remove_87 rfl rfl ?_
    refine r_geti C dX12_remove_88 rfl fX12_290 rfl hR ?_
    refine vi_icmp_ge (t' := 114) C dX12_remove_91 rfl (by decide) (fun c12 => ?_) (fun c12 => ?_)
    · replace h := iT c12 h
      exact vi_cut [] trivial (hx114 _  h _ hR hF)
    · replace h := iN c12 h
      refine vi_aload_n C dX12_remove_94 rfl rfl ?_
      refine r_geta C dX12_remove_95 rfl fX12_142 rfl hR rfl ?_
      refine vi_iload_n C dX12_remove_98 rfl rfl ?_
      refine vi_aload_n C dX12_remove_99 rfl rfl ?_
      refine r_geta C dX12_remove_100 rfl fX12_142 rfl hR rfl ?_
      refine vi_iload_n C dX12_remove_103 rfl rfl ?_
      refine vi_iconst (v := 1) C dX12_remove_104 rfl (by decide) ?_
      refine vi_iadd C dX12_remove_105 rfl ?_
      refine r_iaload C dX12_remove_106 rfl rfl hR h (fun v10 h => ?_)
      refine r_iastore C dX12_remove_107 rfl rfl hR hF h (fun S M11 h hR hF => ?_)
      refine vi_iincv (v := 1) C dX12_remove_108 rfl rfl (by decide) (by decide) ?_
      refine vi_goto (t' := 86) C dX12_remove_111 (by decide) ?_
      exact vi_cut [(0, .ref m), (2, .int ((l2 + (1))))] ⟨rfl, rfl, trivial⟩ (ih _ _ h _ hR hF)

set_option maxRecDepth 100000 in
set_option maxHeartbeats 4000000 in
theorem p_X12_remove {M : vM} {R : vM} {a1 : Int32} (h : F_X12_remove M a1 = some R) {E : vE} {S0 : vS} {sz m b : Nat} (hR : RM S0 sz m b M) : vi_Met E yX12_remove cX12_remove 3 none 0 0 0 [.ref m, .int (a1)] S0 sz (Q0 S0 sz m b R) := by
  refine vi_met (by decide) (Nat.le_of_ble_eq_true rfl) ?_
  intro X C
  have hF := rF.refl S0 m b
  unfold F_X12_remove at h
  refine vi_aload_n C dX12_remove_0 rfl rfl ?_
  refine vi_dup C dX12_remove_1 rfl rfl ?_
  refine r_geti C dX12_remove_2 rfl fX12_290 rfl hR ?_
  refine vi_iconst (v := 1) C dX12_remove_5 rfl (by decide) ?_
  refine vi_isub C dX12_remove_6 rfl ?_
  refine r_puti C dX12_remove_7 rfl (fpX12_290 _) rfl hR hF h (fun S M1 h hR hF => ?_)
  refine vi_bipush (v := 8) C dX12_remove_10 rfl (by decide) ?_
  refine vi_iload_n C dX12_remove_12 rfl rfl ?_
  refine vi_imul C dX12_remove_13 rfl ?_
  refine vi_istore_n C dX12_remove_14 rfl (by decide) ?_
  refine vi_cut [(0, .ref m), (1, .int (a1)), (2, .int (((8 : Int32) * a1)))] ⟨rfl, rfl, rfl, trivial⟩ (w_X12_remove_15 C ?_ _ _ _ h _ hR hF)
  · intro M5 h S hR hF
    refine vi_bipush (v := 100) C dX12_remove_47 rfl (by decide) ?_
    refine vi_iload_n C dX12_remove_49 rfl rfl ?_
    refine vi_imul C dX12_remove_50 rfl ?_
    refine vi_istore_n C dX12_remove_51 rfl (by decide) ?_
    refine vi_cut [(0, .ref m), (1, .int (a1)), (2, .int (((100 : Int32) * a1)))] ⟨rfl, rfl, rfl, trivial⟩ (w_X12_remove_52 C ?_ _ _ _ h _ hR hF)
    · intro M9 h S hR hF
      refine vi_iload_n C dX12_remove_84 rfl rfl ?_
      refine vi_istore_n C dX12_remove_85 rfl (by decide) ?_
      refine vi_cut [(0, .ref m), (2, .int (a1))] ⟨rfl, rfl, trivial⟩ (w_X12_remove_86 C ?_ _ _ _ h _ hR hF)
      · intro M13 h S hR hF
        exact r_ret0 C dX12_remove_114 rfl hR hF h

def L_X12_campaign_44 {ρ : Type}  (l1 : Int32) (l2 : Int32) (kx59 : vM → Int32 → Option ρ) : Nat → vM → Int32 → Option ρ
  | 0, _, _ => none
  | f + 1, M, l3 => if l2 < l3 then (kx59 M (l3)) else (L_X12_campaign_44 l1 l2 kx59 f M ((l3 + (M.1 1))))

def F_X12_campaign (M : vM) (a1 : Int32) : Option vM := (mG M 10 (a1)).bind fun v1 => (mG M 25 (a1)).bind fun v2 => jn (fun (s0_30 : Int32) => jn (fun (s0_43 : Int32) => L_X12_campaign_44 (a1) (s0_30) (fun (M10 : vM) (l11 : Int32) => b2 (F_X12_notePromise M10 (a1) (l11)) fun M12 v13 => if v13 = 0 then (some M12) else ((mS M12 10 (a1) (l11)).bind fun M14 => b2 (F_X12_checkpoint M14 (a1)) fun M15 v16 => if v16 = 0 then (some M15) else ((F_X12_follow M15 (a1)).bind fun M17 => (mS M17 19 (a1) ((1 : Int32))).bind fun M18 => (mS M18 20 (a1) (l11)).bind fun M19 => (mS M19 21 (a1) (((1 : Int32) <<< (a1 &&& 31)))).bind fun M20 => (mG M20 12 (a1)).bind fun v21 => (mS M20 23 (a1) (v21)).bind fun M22 => (mG M22 11 (a1)).bind fun v23 => (mS M22 24 (a1) (v23)).bind fun M24 => (mS M24 13 (a1) ((0 : Int32))).bind fun M25 => (mG M25 7 (a1)).bind fun v26 => (F_X12_sendAll M25 ((1 : Int32)) (a1) (l11) ((v26 + (1 : Int32))) ((0 : Int32))).bind fun M27 => some M27))) fu M (s0_43)) (fun k43_7 => if a1 = 0 then ((k43_7 ((M.1 1)))) else ((k43_7 (a1))))) (fun k30_3 => if v1 ≤ v2 then ((mG M 25 (a1)).bind fun v4 => (k30_3 (v4))) else ((mG M 10 (a1)).bind fun v5 => (k30_3 (v5))))

set_option maxRecDepth 100000 in
set_option maxHeartbeats 4000000 in
theorem w_X12_campaign_44 {E : vE} {X : vX} {S0 : vS} {sz m b : Nat} {ρ : Type} {R : ρ} {Z : State → Prop} {l1 : Int32} {l2 : Int32} {kx59 : vM → Int32 → Option ρ} (C : vi_C E X yX12_campaign cX12_campaign 4 none 6 0 0 (45 * 6)) (hx59 : ∀ (M : vM) (l3 : Int32), kx59 M l3 = some R → ∀ S, RM S sz m b M → rF S0 S m b → vi_W E X 4 Z 59 [(0, .ref m), (1, .int (l1)), (3, .int (l3))] [] S sz 0 0) : ∀ (f : Nat) (M : vM) (l3 : Int32), L_X12_campaign_44 l1 l2 kx59 f M l3 = some R → ∀ S, RM S sz m b M → rF S0 S m b → vi_W E X 4 Z 44 [(0, .ref m), (1, .int (l1)), (2, .int (l2)), (3, .int (l3))] [] S sz 0 0 := by
  intro f
  induction f with
  | zero => intro M l3 h; cases h
  | succ f ih =>
    intro M l3 h S hR hF
    rw [L_X12_campaign_44] at h
    refine vi_iload_n C dX12_campaign_44 rfl rfl ?_
    refine vi_iload_n C dX12_campaign_45 rfl rfl ?_
    refine vi_icmp_gt (t' := 59) C dX12_campaign_46 rfl (by decide) (fun c9 => ?_) (fun c9 => ?_)
    · replace h := iT c9 h
      exact vi_cut [(0, .ref m), (1, .int (l1)), (3, .int (l3))] ⟨rfl, rfl, rfl, trivial⟩ (hx59 _ _ h _ hR hF)
    · replace h := iN c9 h
      refine vi_iload_n C dX12_campaign_49 rfl rfl ?_
      refine vi_aload_n C dX12_campaign_50 rfl rfl ?_
      refine r_geti C dX12_campaign_51 rfl fX12_184 rfl hR ?_
      refine vi_iadd C dX12_campaign_54 rfl ?_
      refine vi_istore_n C dX12_campaign_55 rfl (by decide) ?_
      refine vi_goto (t' := 44) C dX12_campaign_56 (by decide) ?_
      exact vi_cut [(0, .ref m), (1, .int (l1)), (2, .int (l2)), (3, .int ((l3 + (M.1 1))))] ⟨rfl, rfl, rfl, rfl, trivial⟩ (ih _ _ h _ hR hF)

set_option maxRecDepth 100000 in
set_option maxHeartbeats 4000000 in
theorem p_X12_campaign {M : vM} {R : vM} {a1 : Int32} (h : F_X12_campaign M a1 = some R) {E : vE} {S0 : vS} {sz m b : Nat} (hR : RM S0 sz m b M) : vi_Met E yX12_campaign cX12_campaign 4 none 6 0 0 [.ref m, .int (a1)] S0 sz (Q0 S0 sz m b R) := by
  refine vi_met (by decide) (Nat.le_of_ble_eq_true rfl) ?_
  intro X C
  have hF := rF.refl S0 m b
  unfold F_X12_campaign at h
  refine vi_aload_n C dX12_campaign_0 rfl rfl ?_
  refine r_geta C dX12_campaign_1 rfl fX12_46 rfl hR rfl ?_
  refine vi_iload_n C dX12_campaign_4 rfl rfl ?_
  refine r_iaload C dX12_campaign_5 rfl rfl hR h (fun v1 h => ?_)
  refine vi_aload_n C dX12_campaign_6 rfl rfl ?_
  refine r_geta C dX12_campaign_7 rfl fX12_91 rfl hR rfl ?_
  refine vi_iload_n C dX12_campaign_10 rfl rfl ?_
  refine r_iaload C dX12_campaign_11 rfl rfl hR h (fun v2 h => ?_)
  refine r_jn h (fun k => ∀ (s0_30 : Int32), k s0_30 = some R → ∀ S, RM S sz m b M → rF S0 S m b → vi_W E X 4 (vi_Z E X (Q0 S0 sz m b R) 0 0) 30 [(0, .ref m), (1, .int (a1))] [.int (s0_30)] S sz 0 0) ?_ ?_
  · intro s0_30 h S hR hF
    refine vi_istore_n C dX12_campaign_30 rfl (by decide) ?_
    refine vi_iload_n C dX12_campaign_31 rfl rfl ?_
    refine r_jn h (fun k => ∀ (s0_43 : Int32), k s0_43 = some R → ∀ S, RM S sz m b M → rF S0 S m b → vi_W E X 4 (vi_Z E X (Q0 S0 sz m b R) 0 0) 43 [(0, .ref m), (1, .int (a1)), (2, .int (s0_30))] [.int (s0_43)] S sz 0 0) ?_ ?_
    · intro s0_43 h S hR hF
      refine vi_istore_n C dX12_campaign_43 rfl (by decide) ?_
      refine vi_cut [(0, .ref m), (1, .int (a1)), (2, .int (s0_30)), (3, .int (s0_43))] ⟨rfl, rfl, rfl, rfl, trivial⟩ (w_X12_campaign_44 C ?_ _ _ _ h _ hR hF)
      · intro M10 l11 h S hR hF
        refine vi_aload_n C dX12_campaign_59 rfl rfl ?_
        refine vi_iload_n C dX12_campaign_60 rfl rfl ?_
        refine vi_iload_n C dX12_campaign_61 rfl rfl ?_
        refine r_cv1 C [.int (a1), .int (l11)] [] dX12_campaign_62 rfl ivX12_307 imX12_notePromise rfl hR hF h (fun _ e => p_X12_notePromise e hR) rfl (Nat.le_of_ble_eq_true rfl) ⟨by decide, by decide⟩ ⟨Nat.le_refl _, Nat.le_refl _⟩ (fun S M12 v13 h hR hF => ?_)
        refine vi_if_ne (t' := 69) C dX12_campaign_65 rfl (by decide) (fun c29 => ?_) (fun c29 => ?_)
        · replace h := iN c29 h
          refine vi_aload_n C dX12_campaign_69 rfl rfl ?_
          refine r_geta C dX12_campaign_70 rfl fX12_46 rfl hR rfl ?_
          refine vi_iload_n C dX12_campaign_73 rfl rfl ?_
          refine vi_iload_n C dX12_campaign_74 rfl rfl ?_
          refine r_iastore C dX12_campaign_75 rfl rfl hR hF h (fun S M14 h hR hF => ?_)
          refine vi_aload_n C dX12_campaign_76 rfl rfl ?_
          refine vi_iload_n C dX12_campaign_77 rfl rfl ?_
          refine r_cv1 C [.int (a1)] [] dX12_campaign_78 rfl ivX12_281 imX12_checkpoint rfl hR hF h (fun _ e => p_X12_checkpoint e hR) rfl (Nat.le_of_ble_eq_true rfl) ⟨by decide, by decide⟩ ⟨Nat.le_refl _, Nat.le_refl _⟩ (fun S M15 v16 h hR hF => ?_)
          refine vi_if_ne (t' := 85) C dX12_campaign_81 rfl (by decide) (fun c28 => ?_) (fun c28 => ?_)
          · replace h := iN c28 h
            refine vi_aload_n C dX12_campaign_85 rfl rfl ?_
            refine vi_iload_n C dX12_campaign_86 rfl rfl ?_
            refine r_cv0 C [.int (a1)] [] dX12_campaign_87 rfl ivX12_284 imX12_follow rfl hR hF h (fun _ e => p_X12_follow e hR) rfl (Nat.le_of_ble_eq_true rfl) ⟨by decide, by decide⟩ ⟨Nat.le_refl _, Nat.le_refl _⟩ (fun S M17 h hR hF => ?_)
            refine vi_aload_n C dX12_campaign_90 rfl rfl ?_
            refine r_geta C dX12_campaign_91 rfl fX12_73 rfl hR rfl ?_
            refine vi_iload_n C dX12_campaign_94 rfl rfl ?_
            refine vi_iconst (v := 1) C dX12_campaign_95 rfl (by decide) ?_
            refine r_iastore C dX12_campaign_96 rfl rfl hR hF h (fun S M18 h hR hF => ?_)
            refine vi_aload_n C dX12_campaign_97 rfl rfl ?_
            refine r_geta C dX12_campaign_98 rfl fX12_76 rfl hR rfl ?_
            refine vi_iload_n C dX12_campaign_101 rfl rfl ?_
            refine vi_iload_n C dX12_campaign_102 rfl rfl ?_
            refine r_iastore C dX12_campaign_103 rfl rfl hR hF h (fun S M19 h hR hF => ?_)
            refine vi_aload_n C dX12_campaign_104 rfl rfl ?_
            refine r_geta C dX12_campaign_105 rfl fX12_79 rfl hR rfl ?_
            refine vi_iload_n C dX12_campaign_108 rfl rfl ?_
            refine vi_iconst (v := 1) C dX12_campaign_109 rfl (by decide) ?_
            refine vi_iload_n C dX12_campaign_110 rfl rfl ?_
            refine vi_ishl C dX12_campaign_111 rfl ?_
            refine r_iastore C dX12_campaign_112 rfl rfl hR hF h (fun S M20 h hR hF => ?_)
            refine vi_aload_n C dX12_campaign_113 rfl rfl ?_
            refine r_geta C dX12_campaign_114 rfl fX12_85 rfl hR rfl ?_
            refine vi_iload_n C dX12_campaign_117 rfl rfl ?_
            refine vi_aload_n C dX12_campaign_118 rfl rfl ?_
            refine r_geta C dX12_campaign_119 rfl fX12_52 rfl hR rfl ?_
            refine vi_iload_n C dX12_campaign_122 rfl rfl ?_
            refine r_iaload C dX12_campaign_123 rfl rfl hR h (fun v21 h => ?_)
            refine r_iastore C dX12_campaign_124 rfl rfl hR hF h (fun S M22 h hR hF => ?_)
            refine vi_aload_n C dX12_campaign_125 rfl rfl ?_
            refine r_geta C dX12_campaign_126 rfl fX12_88 rfl hR rfl ?_
            refine vi_iload_n C dX12_campaign_129 rfl rfl ?_
            refine vi_aload_n C dX12_campaign_130 rfl rfl ?_
            refine r_geta C dX12_campaign_131 rfl fX12_49 rfl hR rfl ?_
            refine vi_iload_n C dX12_campaign_134 rfl rfl ?_
            refine r_iaload C dX12_campaign_135 rfl rfl hR h (fun v23 h => ?_)
            refine r_iastore C dX12_campaign_136 rfl rfl hR hF h (fun S M24 h hR hF => ?_)
            refine vi_aload_n C dX12_campaign_137 rfl rfl ?_
            refine r_geta C dX12_campaign_138 rfl fX12_55 rfl hR rfl ?_
            refine vi_iload_n C dX12_campaign_141 rfl rfl ?_
            refine vi_iconst (v := 0) C dX12_campaign_142 rfl (by decide) ?_
            refine r_iastore C dX12_campaign_143 rfl rfl hR hF h (fun S M25 h hR hF => ?_)
            refine vi_aload_n C dX12_campaign_144 rfl rfl ?_
            refine vi_iconst (v := 1) C dX12_campaign_145 rfl (by decide) ?_
            refine vi_iload_n C dX12_campaign_146 rfl rfl ?_
            refine vi_iload_n C dX12_campaign_147 rfl rfl ?_
            refine vi_aload_n C dX12_campaign_148 rfl rfl ?_
            refine r_geta C dX12_campaign_149 rfl fX12_37 rfl hR rfl ?_
            refine vi_iload_n C dX12_campaign_152 rfl rfl ?_
            refine r_iaload C dX12_campaign_153 rfl rfl hR h (fun v26 h => ?_)
            refine vi_iconst (v := 1) C dX12_campaign_154 rfl (by decide) ?_
            refine vi_iadd C dX12_campaign_155 rfl ?_
            refine vi_iconst (v := 0) C dX12_campaign_156 rfl (by decide) ?_
            refine r_cv0 C [.int ((1 : Int32)), .int (a1), .int (l11), .int ((v26 + (1 : Int32))), .int ((0 : Int32))] [] dX12_campaign_157 rfl ivX12_311 imX12_sendAll rfl hR hF h (fun _ e => p_X12_sendAll e hR) rfl (Nat.le_of_ble_eq_true rfl) ⟨by decide, by decide⟩ ⟨Nat.le_refl _, Nat.le_refl _⟩ (fun S M27 h hR hF => ?_)
            exact r_ret0 C dX12_campaign_160 rfl hR hF h
          · replace h := iT c28 h
            exact r_ret0 C dX12_campaign_84 rfl hR hF h
        · replace h := iT c29 h
          exact r_ret0 C dX12_campaign_68 rfl hR hF h
    · intro k43_7 h43_7 h
      refine vi_if_ne (t' := 42) C dX12_campaign_32 rfl (by decide) (fun c8 => ?_) (fun c8 => ?_)
      · replace h := iN c8 h
        refine vi_iload_n C dX12_campaign_42 rfl rfl ?_
        exact vi_cut [(0, .ref m), (1, .int (a1)), (2, .int (s0_30))] ⟨rfl, rfl, rfl, trivial⟩ (h43_7 _ h _ hR hF)
      · replace h := iT c8 h
        refine vi_aload_n C dX12_campaign_35 rfl rfl ?_
        refine r_geti C dX12_campaign_36 rfl fX12_184 rfl hR ?_
        refine vi_goto (t' := 43) C dX12_campaign_39 (by decide) ?_
        exact vi_cut [(0, .ref m), (1, .int (a1)), (2, .int (s0_30))] ⟨rfl, rfl, rfl, trivial⟩ (h43_7 _ h _ hR hF)
  · intro k30_3 h30_3 h
    refine vi_icmp_le (t' := 24) C dX12_campaign_12 rfl (by decide) (fun c6 => ?_) (fun c6 => ?_)
    · replace h := iT c6 h
      refine vi_aload_n C dX12_campaign_24 rfl rfl ?_
      refine r_geta C dX12_campaign_25 rfl fX12_91 rfl hR rfl ?_
      refine vi_iload_n C dX12_campaign_28 rfl rfl ?_
      refine r_iaload C dX12_campaign_29 rfl rfl hR h (fun v4 h => ?_)
      exact vi_cut [(0, .ref m), (1, .int (a1))] ⟨rfl, rfl, trivial⟩ (h30_3 _ h _ hR hF)
    · replace h := iN c6 h
      refine vi_aload_n C dX12_campaign_15 rfl rfl ?_
      refine r_geta C dX12_campaign_16 rfl fX12_46 rfl hR rfl ?_
      refine vi_iload_n C dX12_campaign_19 rfl rfl ?_
      refine r_iaload C dX12_campaign_20 rfl rfl hR h (fun v5 h => ?_)
      refine vi_goto (t' := 30) C dX12_campaign_21 (by decide) ?_
      exact vi_cut [(0, .ref m), (1, .int (a1))] ⟨rfl, rfl, trivial⟩ (h30_3 _ h _ hR hF)

def F_X12_accepts (M : vM) (a1 : Int32) (a2 : Int32) (a3 : Int32) : Option (vM × Int32) := lt1 (mW M 45 ((0 : Int32))) fun M1 => (mG M1 7 (a1)).bind fun v2 => (F_X12_layAccepted M1 (a2) ((v2 + (1 : Int32))) (a3)).bind fun M3 => (mG M3 7 (a1)).bind fun v4 => b2 (F_X12_note M3 (a1) ((2 : Int32)) (a2) ((v4 + (1 : Int32))) (a3)) fun M5 v6 => if v6 = 0 then (zb ((0 : Int32)) (some (M5, (0 : Int32)))) else ((mS M5 10 (a1) (a2)).bind fun M7 => (F_X12_accept M7 (a1) (a2) (a3)).bind fun M8 => b2 (F_X12_checkpoint M8 (a1)) fun M9 v10 => zb (v10) (some (M9, v10)))

set_option maxRecDepth 100000 in
set_option maxHeartbeats 4000000 in
theorem p_X12_accepts {M : vM} {R : (vM × Int32)} {a1 : Int32} {a2 : Int32} {a3 : Int32} (h : F_X12_accepts M a1 a2 a3 = some R) {E : vE} {S0 : vS} {sz m b : Nat} (hR : RM S0 sz m b M) : vi_Met E yX12_accepts cX12_accepts 4 (some .boolean) 6 0 0 [.ref m, .int (a1), .int (a2), .int (a3)] S0 sz (Q1 S0 sz m b R) := by
  refine vi_met (by decide) (Nat.le_of_ble_eq_true rfl) ?_
  intro X C
  have hF := rF.refl S0 m b
  unfold F_X12_accepts at h
  refine vi_aload_n C dX12_accepts_0 rfl rfl ?_
  refine vi_iconst (v := 0) C dX12_accepts_1 rfl (by decide) ?_
  refine r_puti C dX12_accepts_2 rfl (fpX12_218 _) rfl hR hF h (fun S M1 h hR hF => ?_)
  refine vi_aload_n C dX12_accepts_5 rfl rfl ?_
  refine vi_iload_n C dX12_accepts_6 rfl rfl ?_
  refine vi_aload_n C dX12_accepts_7 rfl rfl ?_
  refine r_geta C dX12_accepts_8 rfl fX12_37 rfl hR rfl ?_
  refine vi_iload_n C dX12_accepts_11 rfl rfl ?_
  refine r_iaload C dX12_accepts_12 rfl rfl hR h (fun v2 h => ?_)
  refine vi_iconst (v := 1) C dX12_accepts_13 rfl (by decide) ?_
  refine vi_iadd C dX12_accepts_14 rfl ?_
  refine vi_iload_n C dX12_accepts_15 rfl rfl ?_
  refine r_cv0 C [.int (a2), .int ((v2 + (1 : Int32))), .int (a3)] [] dX12_accepts_16 rfl ivX12_268 imX12_layAccepted rfl hR hF h (fun _ e => p_X12_layAccepted e hR) rfl (Nat.le_of_ble_eq_true rfl) ⟨by decide, by decide⟩ ⟨Nat.le_refl _, Nat.le_refl _⟩ (fun S M3 h hR hF => ?_)
  refine vi_aload_n C dX12_accepts_19 rfl rfl ?_
  refine vi_iload_n C dX12_accepts_20 rfl rfl ?_
  refine vi_iconst (v := 2) C dX12_accepts_21 rfl (by decide) ?_
  refine vi_iload_n C dX12_accepts_22 rfl rfl ?_
  refine vi_aload_n C dX12_accepts_23 rfl rfl ?_
  refine r_geta C dX12_accepts_24 rfl fX12_37 rfl hR rfl ?_
  refine vi_iload_n C dX12_accepts_27 rfl rfl ?_
  refine r_iaload C dX12_accepts_28 rfl rfl hR h (fun v4 h => ?_)
  refine vi_iconst (v := 1) C dX12_accepts_29 rfl (by decide) ?_
  refine vi_iadd C dX12_accepts_30 rfl ?_
  refine vi_iload_n C dX12_accepts_31 rfl rfl ?_
  refine r_cv1 C [.int (a1), .int ((2 : Int32)), .int (a2), .int ((v4 + (1 : Int32))), .int (a3)] [] dX12_accepts_32 rfl ivX12_253 imX12_note rfl hR hF h (fun _ e => p_X12_note e hR) rfl (Nat.le_of_ble_eq_true rfl) ⟨by decide, by decide⟩ ⟨Nat.le_refl _, Nat.le_refl _⟩ (fun S M5 v6 h hR hF => ?_)
  refine vi_if_ne (t' := 40) C dX12_accepts_35 rfl (by decide) (fun c11 => ?_) (fun c11 => ?_)
  · replace h := iN c11 h
    refine vi_aload_n C dX12_accepts_40 rfl rfl ?_
    refine r_geta C dX12_accepts_41 rfl fX12_46 rfl hR rfl ?_
    refine vi_iload_n C dX12_accepts_44 rfl rfl ?_
    refine vi_iload_n C dX12_accepts_45 rfl rfl ?_
    refine r_iastore C dX12_accepts_46 rfl rfl hR hF h (fun S M7 h hR hF => ?_)
    refine vi_aload_n C dX12_accepts_47 rfl rfl ?_
    refine vi_iload_n C dX12_accepts_48 rfl rfl ?_
    refine vi_iload_n C dX12_accepts_49 rfl rfl ?_
    refine vi_iload_n C dX12_accepts_50 rfl rfl ?_
    refine r_cv0 C [.int (a1), .int (a2), .int (a3)] [] dX12_accepts_51 rfl ivX12_272 imX12_accept rfl hR hF h (fun _ e => p_X12_accept e hR) rfl (Nat.le_of_ble_eq_true rfl) ⟨by decide, by decide⟩ ⟨Nat.le_refl _, Nat.le_refl _⟩ (fun S M8 h hR hF => ?_)
    refine vi_aload_n C dX12_accepts_54 rfl rfl ?_
    refine vi_iload_n C dX12_accepts_55 rfl rfl ?_
    refine r_cv1 C [.int (a1)] [] dX12_accepts_56 rfl ivX12_281 imX12_checkpoint rfl hR hF h (fun _ e => p_X12_checkpoint e hR) rfl (Nat.le_of_ble_eq_true rfl) ⟨by decide, by decide⟩ ⟨Nat.le_refl _, Nat.le_refl _⟩ (fun S M9 v10 h hR hF => ?_)
    exact r_retz C dX12_accepts_59 rfl hR hF h
  · replace h := iT c11 h
    refine vi_iconst (v := 0) C dX12_accepts_38 rfl (by decide) ?_
    exact r_retz C dX12_accepts_39 rfl hR hF h

def F_X12_proposeIt (M : vM) (a1 : Int32) (a2 : Int32) : Option vM := (mG M 20 (a1)).bind fun v1 => b2 (F_X12_accepts M (a1) (v1) (a2)) fun M2 v3 => if v3 = 0 then (some M2) else ((mS M2 22 (a1) (a2)).bind fun M4 => (mS M4 21 (a1) (((1 : Int32) <<< (a1 &&& 31)))).bind fun M5 => (mS M5 13 (a1) ((0 : Int32))).bind fun M6 => (mG M6 20 (a1)).bind fun v7 => (mG M6 7 (a1)).bind fun v8 => (F_X12_sendAll M6 ((3 : Int32)) (a1) (v7) ((v8 + (1 : Int32))) (a2)).bind fun M9 => some M9)

set_option maxRecDepth 100000 in
set_option maxHeartbeats 4000000 in
theorem p_X12_proposeIt {M : vM} {R : vM} {a1 : Int32} {a2 : Int32} (h : F_X12_proposeIt M a1 a2 = some R) {E : vE} {S0 : vS} {sz m b : Nat} (hR : RM S0 sz m b M) : vi_Met E yX12_proposeIt cX12_proposeIt 3 none 7 0 0 [.ref m, .int (a1), .int (a2)] S0 sz (Q0 S0 sz m b R) := by
  refine vi_met (by decide) (Nat.le_of_ble_eq_true rfl) ?_
  intro X C
  have hF := rF.refl S0 m b
  unfold F_X12_proposeIt at h
  refine vi_aload_n C dX12_proposeIt_0 rfl rfl ?_
  refine vi_iload_n C dX12_proposeIt_1 rfl rfl ?_
  refine vi_aload_n C dX12_proposeIt_2 rfl rfl ?_
  refine r_geta C dX12_proposeIt_3 rfl fX12_76 rfl hR rfl ?_
  refine vi_iload_n C dX12_proposeIt_6 rfl rfl ?_
  refine r_iaload C dX12_proposeIt_7 rfl rfl hR h (fun v1 h => ?_)
  refine vi_iload_n C dX12_proposeIt_8 rfl rfl ?_
  refine r_cv1 C [.int (a1), .int (v1), .int (a2)] [] dX12_proposeIt_9 rfl ivX12_314 imX12_accepts rfl hR hF h (fun _ e => p_X12_accepts e hR) rfl (Nat.le_of_ble_eq_true rfl) ⟨by decide, by decide⟩ ⟨Nat.le_refl _, Nat.le_refl _⟩ (fun S M2 v3 h hR hF => ?_)
  refine vi_if_ne (t' := 16) C dX12_proposeIt_12 rfl (by decide) (fun c10 => ?_) (fun c10 => ?_)
  · replace h := iN c10 h
    refine vi_aload_n C dX12_proposeIt_16 rfl rfl ?_
    refine r_geta C dX12_proposeIt_17 rfl fX12_82 rfl hR rfl ?_
    refine vi_iload_n C dX12_proposeIt_20 rfl rfl ?_
    refine vi_iload_n C dX12_proposeIt_21 rfl rfl ?_
    refine r_iastore C dX12_proposeIt_22 rfl rfl hR hF h (fun S M4 h hR hF => ?_)
    refine vi_aload_n C dX12_proposeIt_23 rfl rfl ?_
    refine r_geta C dX12_proposeIt_24 rfl fX12_79 rfl hR rfl ?_
    refine vi_iload_n C dX12_proposeIt_27 rfl rfl ?_
    refine vi_iconst (v := 1) C dX12_proposeIt_28 rfl (by decide) ?_
    refine vi_iload_n C dX12_proposeIt_29 rfl rfl ?_
    refine vi_ishl C dX12_proposeIt_30 rfl ?_
    refine r_iastore C dX12_proposeIt_31 rfl rfl hR hF h (fun S M5 h hR hF => ?_)
    refine vi_aload_n C dX12_proposeIt_32 rfl rfl ?_
    refine r_geta C dX12_proposeIt_33 rfl fX12_55 rfl hR rfl ?_
    refine vi_iload_n C dX12_proposeIt_36 rfl rfl ?_
    refine vi_iconst (v := 0) C dX12_proposeIt_37 rfl (by decide) ?_
    refine r_iastore C dX12_proposeIt_38 rfl rfl hR hF h (fun S M6 h hR hF => ?_)
    refine vi_aload_n C dX12_proposeIt_39 rfl rfl ?_
    refine vi_iconst (v := 3) C dX12_proposeIt_40 rfl (by decide) ?_
    refine vi_iload_n C dX12_proposeIt_41 rfl rfl ?_
    refine vi_aload_n C dX12_proposeIt_42 rfl rfl ?_
    refine r_geta C dX12_proposeIt_43 rfl fX12_76 rfl hR rfl ?_
    refine vi_iload_n C dX12_proposeIt_46 rfl rfl ?_
    refine r_iaload C dX12_proposeIt_47 rfl rfl hR h (fun v7 h => ?_)
    refine vi_aload_n C dX12_proposeIt_48 rfl rfl ?_
    refine r_geta C dX12_proposeIt_49 rfl fX12_37 rfl hR rfl ?_
    refine vi_iload_n C dX12_proposeIt_52 rfl rfl ?_
    refine r_iaload C dX12_proposeIt_53 rfl rfl hR h (fun v8 h => ?_)
    refine vi_iconst (v := 1) C dX12_proposeIt_54 rfl (by decide) ?_
    refine vi_iadd C dX12_proposeIt_55 rfl ?_
    refine vi_iload_n C dX12_proposeIt_56 rfl rfl ?_
    refine r_cv0 C [.int ((3 : Int32)), .int (a1), .int (v7), .int ((v8 + (1 : Int32))), .int (a2)] [] dX12_proposeIt_57 rfl ivX12_311 imX12_sendAll rfl hR hF h (fun _ e => p_X12_sendAll e hR) rfl (Nat.le_of_ble_eq_true rfl) ⟨by decide, by decide⟩ ⟨Nat.le_refl _, Nat.le_refl _⟩ (fun S M9 h hR hF => ?_)
    exact r_ret0 C dX12_proposeIt_60 rfl hR hF h
  · replace h := iT c10 h
    exact r_ret0 C dX12_proposeIt_15 rfl hR hF h

def L_X12_dropFirst_12 {ρ : Type}  (l1 : Int32) (kx52 : vM → Option ρ) : Nat → vM → Int32 → Option ρ
  | 0, _, _ => none
  | f + 1, M, l3 => (mG M 27 (l1)).bind fun v3 => if v3 ≤ l3 then (kx52 M ) else ((mG M 26 (((((8 : Int32) * l1) + l3) + (1 : Int32)))).bind fun v4 => (mS M 26 ((((8 : Int32) * l1) + l3)) (v4)).bind fun M5 => L_X12_dropFirst_12 l1 kx52 f M5 ((l3 + (1))))

def F_X12_dropFirst (M : vM) (a1 : Int32) (a2 : Int32) : Option vM := (mG M 27 (a1)).bind fun v1 => (mS M 27 (a1) ((v1 - (1 : Int32)))).bind fun M2 => L_X12_dropFirst_12 (a1) (fun (M7 : vM)  => some M7) fu M2 (a2)

set_option maxRecDepth 100000 in
set_option maxHeartbeats 4000000 in
theorem w_X12_dropFirst_12 {E : vE} {X : vX} {S0 : vS} {sz m b : Nat} {ρ : Type} {R : ρ} {Z : State → Prop} {l1 : Int32} {kx52 : vM → Option ρ} (C : vi_C E X yX12_dropFirst cX12_dropFirst 4 none 0 0 0 (45 * 0)) (hx52 : ∀ (M : vM) , kx52 M  = some R → ∀ S, RM S sz m b M → rF S0 S m b → vi_W E X 4 Z 52 [] [] S sz 0 0) : ∀ (f : Nat) (M : vM) (l3 : Int32), L_X12_dropFirst_12 l1 kx52 f M l3 = some R → ∀ S, RM S sz m b M → rF S0 S m b → vi_W E X 4 Z 12 [(0, .ref m), (1, .int (l1)), (3, .int (l3))] [] S sz 0 0 := by
  intro f
  induction f with
  | zero => intro M l3 h; cases h
  | succ f ih =>
    intro M l3 h S hR hF
    rw [L_X12_dropFirst_12] at h
    refine vi_iload_n C dX12_dropFirst_12 rfl rfl ?_
    refine vi_aload_n C dX12_dropFirst_13 rfl rfl ?_
    refine r_geta C dX12_dropFirst_14 rfl fX12_97 rfl hR rfl ?_
    refine vi_iload_n C dX12_dropFirst_17 rfl rfl ?_
    refine r_iaload C dX12_dropFirst_18 rfl rfl hR h (fun v3 h => ?_)
    refine vi_icmp_ge (t' := 52) C dX12_dropFirst_19 rfl (by decide) (fun c6 => ?_) (fun c6 => ?_)
    · replace h := iT c6 h
      exact vi_cut [] trivial (hx52 _  h _ hR hF)
    · replace h := iN c6 h
      refine vi_aload_n C dX12_dropFirst_22 rfl rfl ?_
      refine r_geta C dX12_dropFirst_23 rfl fX12_94 rfl hR rfl ?_
      refine vi_bipush (v := 8) C dX12_dropFirst_26 rfl (by decide) ?_
      refine vi_iload_n C dX12_dropFirst_28 rfl rfl ?_
      refine vi_imul C dX12_dropFirst_29 rfl ?_
      refine vi_iload_n C dX12_dropFirst_30 rfl rfl ?_
      refine vi_iadd C dX12_dropFirst_31 rfl ?_
      refine vi_aload_n C dX12_dropFirst_32 rfl rfl ?_
      refine r_geta C dX12_dropFirst_33 rfl fX12_94 rfl hR rfl ?_
      refine vi_bipush (v := 8) C dX12_dropFirst_36 rfl (by decide) ?_
      refine vi_iload_n C dX12_dropFirst_38 rfl rfl ?_
      refine vi_imul C dX12_dropFirst_39 rfl ?_
      refine vi_iload_n C dX12_dropFirst_40 rfl rfl ?_
      refine vi_iadd C dX12_dropFirst_41 rfl ?_
      refine vi_iconst (v := 1) C dX12_dropFirst_42 rfl (by decide) ?_
      refine vi_iadd C dX12_dropFirst_43 rfl ?_
      refine r_iaload C dX12_dropFirst_44 rfl rfl hR h (fun v4 h => ?_)
      refine r_iastore C dX12_dropFirst_45 rfl rfl hR hF h (fun S M5 h hR hF => ?_)
      refine vi_iincv (v := 1) C dX12_dropFirst_46 rfl rfl (by decide) (by decide) ?_
      refine vi_goto (t' := 12) C dX12_dropFirst_49 (by decide) ?_
      exact vi_cut [(0, .ref m), (1, .int (l1)), (3, .int ((l3 + (1))))] ⟨rfl, rfl, rfl, trivial⟩ (ih _ _ h _ hR hF)

set_option maxRecDepth 100000 in
set_option maxHeartbeats 4000000 in
theorem p_X12_dropFirst {M : vM} {R : vM} {a1 : Int32} {a2 : Int32} (h : F_X12_dropFirst M a1 a2 = some R) {E : vE} {S0 : vS} {sz m b : Nat} (hR : RM S0 sz m b M) : vi_Met E yX12_dropFirst cX12_dropFirst 4 none 0 0 0 [.ref m, .int (a1), .int (a2)] S0 sz (Q0 S0 sz m b R) := by
  refine vi_met (by decide) (Nat.le_of_ble_eq_true rfl) ?_
  intro X C
  have hF := rF.refl S0 m b
  unfold F_X12_dropFirst at h
  refine vi_aload_n C dX12_dropFirst_0 rfl rfl ?_
  refine r_geta C dX12_dropFirst_1 rfl fX12_97 rfl hR rfl ?_
  refine vi_iload_n C dX12_dropFirst_4 rfl rfl ?_
  refine vi_dup2 C dX12_dropFirst_5 rfl rfl rfl ?_
  refine r_iaload C dX12_dropFirst_6 rfl rfl hR h (fun v1 h => ?_)
  refine vi_iconst (v := 1) C dX12_dropFirst_7 rfl (by decide) ?_
  refine vi_isub C dX12_dropFirst_8 rfl ?_
  refine r_iastore C dX12_dropFirst_9 rfl rfl hR hF h (fun S M2 h hR hF => ?_)
  refine vi_iload_n C dX12_dropFirst_10 rfl rfl ?_
  refine vi_istore_n C dX12_dropFirst_11 rfl (by decide) ?_
  refine vi_cut [(0, .ref m), (1, .int (a1)), (3, .int (a2))] ⟨rfl, rfl, rfl, trivial⟩ (w_X12_dropFirst_12 C ?_ _ _ _ h _ hR hF)
  · intro M7 h S hR hF
    exact r_ret0 C dX12_dropFirst_52 rfl hR hF h

def F_X12_isKnown (M : vM) (a1 : Int32) (a2 : Int32) : Option (vM × Int32) := (mG M 1 (a2)).bind fun v1 => (mG M 0 (a2)).bind fun v2 => (mG M 17 ((((16 : Int32) * a1) + v2))).bind fun v3 => if v3 < v1 then (zb ((0 : Int32)) (some (M, (0 : Int32)))) else (zb ((1 : Int32)) (some (M, (1 : Int32))))

set_option maxRecDepth 100000 in
set_option maxHeartbeats 4000000 in
theorem p_X12_isKnown {M : vM} {R : (vM × Int32)} {a1 : Int32} {a2 : Int32} (h : F_X12_isKnown M a1 a2 = some R) {E : vE} {S0 : vS} {sz m b : Nat} (hR : RM S0 sz m b M) : vi_Met E yX12_isKnown cX12_isKnown 3 (some .boolean) 0 0 0 [.ref m, .int (a1), .int (a2)] S0 sz (Q1 S0 sz m b R) := by
  refine vi_met (by decide) (Nat.le_of_ble_eq_true rfl) ?_
  intro X C
  have hF := rF.refl S0 m b
  unfold F_X12_isKnown at h
  refine vi_aload_n C dX12_isKnown_0 rfl rfl ?_
  refine r_geta C dX12_isKnown_1 rfl fX12_17 rfl hR rfl ?_
  refine vi_iload_n C dX12_isKnown_4 rfl rfl ?_
  refine r_iaload C dX12_isKnown_5 rfl rfl hR h (fun v1 h => ?_)
  refine vi_aload_n C dX12_isKnown_6 rfl rfl ?_
  refine r_geta C dX12_isKnown_7 rfl fX12_67 rfl hR rfl ?_
  refine vi_bipush (v := 16) C dX12_isKnown_10 rfl (by decide) ?_
  refine vi_iload_n C dX12_isKnown_12 rfl rfl ?_
  refine vi_imul C dX12_isKnown_13 rfl ?_
  refine vi_aload_n C dX12_isKnown_14 rfl rfl ?_
  refine r_geta C dX12_isKnown_15 rfl fX12_13 rfl hR rfl ?_
  refine vi_iload_n C dX12_isKnown_18 rfl rfl ?_
  refine r_iaload C dX12_isKnown_19 rfl rfl hR h (fun v2 h => ?_)
  refine vi_iadd C dX12_isKnown_20 rfl ?_
  refine r_iaload C dX12_isKnown_21 rfl rfl hR h (fun v3 h => ?_)
  refine vi_icmp_gt (t' := 29) C dX12_isKnown_22 rfl (by decide) (fun c4 => ?_) (fun c4 => ?_)
  · replace h := iT c4 h
    refine vi_iconst (v := 0) C dX12_isKnown_29 rfl (by decide) ?_
    exact r_retz C dX12_isKnown_30 rfl hR hF h
  · replace h := iN c4 h
    refine vi_iconst (v := 1) C dX12_isKnown_25 rfl (by decide) ?_
    refine vi_goto (t' := 30) C dX12_isKnown_26 (by decide) ?_
    exact r_retz C dX12_isKnown_30 rfl hR hF h

def L_X12_propose_2 {ρ : Type}  (l1 : Int32) (kx37 : vM → Int32 → Option ρ) : Nat → vM → Int32 → Option ρ
  | 0, _, _ => none
  | f + 1, M, l2 => (mG M 27 (l1)).bind fun v1 => if v1 ≤ l2 then (kx37 M (l2)) else ((mG M 26 ((((8 : Int32) * l1) + l2))).bind fun v2 => b2 (F_X12_isKnown M (l1) (v2)) fun M3 v4 => if v4 = 0 then (kx37 M3 (l2)) else (L_X12_propose_2 l1 kx37 f M3 ((l2 + (1)))))

def L_X12_propose_51 {ρ : Type}  (l1 : Int32) (l2 : Int32) (kx68 : vM → Option ρ) : Nat → vM → Int32 → Option ρ
  | 0, _, _ => none
  | f + 1, M, l3 => if l2 ≤ l3 then (kx68 M ) else ((F_X12_dropFirst M (l1) ((0 : Int32))).bind fun M10 => L_X12_propose_51 l1 l2 kx68 f M10 ((l3 + (1))))

def F_X12_propose (M : vM) (a1 : Int32) : Option (vM × Int32) := L_X12_propose_2 (a1) (fun (M7 : vM) (l8 : Int32) => (mG M7 27 (a1)).bind fun v9 => if l8 = v9 then (zb ((0 : Int32)) (some (M7, (0 : Int32)))) else (L_X12_propose_51 (a1) (l8) (fun (M12 : vM)  => (mG M12 26 (((8 : Int32) * a1))).bind fun v13 => (F_X12_proposeIt M12 (a1) (v13)).bind fun M14 => zb ((1 : Int32)) (some (M14, (1 : Int32)))) fu M7 ((0 : Int32)))) fu M ((0 : Int32))

set_option maxRecDepth 100000 in
set_option maxHeartbeats 4000000 in
theorem w_X12_propose_2 {E : vE} {X : vX} {S0 : vS} {sz m b : Nat} {ρ : Type} {R : ρ} {Z : State → Prop} {l1 : Int32} {kx37 : vM → Int32 → Option ρ} (C : vi_C E X yX12_propose cX12_propose 4 (some .boolean) 8 0 0 (45 * 8)) (hx37 : ∀ (M : vM) (l2 : Int32), kx37 M l2 = some R → ∀ S, RM S sz m b M → rF S0 S m b → vi_W E X 4 Z 37 [(0, .ref m), (1, .int (l1)), (2, .int (l2))] [] S sz 0 0) : ∀ (f : Nat) (M : vM) (l2 : Int32), L_X12_propose_2 l1 kx37 f M l2 = some R → ∀ S, RM S sz m b M → rF S0 S m b → vi_W E X 4 Z 2 [(0, .ref m), (1, .int (l1)), (2, .int (l2))] [] S sz 0 0 := by
  intro f
  induction f with
  | zero => intro M l2 h; cases h
  | succ f ih =>
    intro M l2 h S hR hF
    rw [L_X12_propose_2] at h
    refine vi_iload_n C dX12_propose_2 rfl rfl ?_
    refine vi_aload_n C dX12_propose_3 rfl rfl ?_
    refine r_geta C dX12_propose_4 rfl fX12_97 rfl hR rfl ?_
    refine vi_iload_n C dX12_propose_7 rfl rfl ?_
    refine r_iaload C dX12_propose_8 rfl rfl hR h (fun v1 h => ?_)
    refine vi_icmp_ge (t' := 37) C dX12_propose_9 rfl (by decide) (fun c6 => ?_) (fun c6 => ?_)
    · replace h := iT c6 h
      exact vi_cut [(0, .ref m), (1, .int (l1)), (2, .int (l2))] ⟨rfl, rfl, rfl, trivial⟩ (hx37 _ _ h _ hR hF)
    · replace h := iN c6 h
      refine vi_aload_n C dX12_propose_12 rfl rfl ?_
      refine vi_iload_n C dX12_propose_13 rfl rfl ?_
      refine vi_aload_n C dX12_propose_14 rfl rfl ?_
      refine r_geta C dX12_propose_15 rfl fX12_94 rfl hR rfl ?_
      refine vi_bipush (v := 8) C dX12_propose_18 rfl (by decide) ?_
      refine vi_iload_n C dX12_propose_20 rfl rfl ?_
      refine vi_imul C dX12_propose_21 rfl ?_
      refine vi_iload_n C dX12_propose_22 rfl rfl ?_
      refine vi_iadd C dX12_propose_23 rfl ?_
      refine r_iaload C dX12_propose_24 rfl rfl hR h (fun v2 h => ?_)
      refine r_cv1 C [.int (l1), .int (v2)] [] dX12_propose_25 rfl ivX12_317 imX12_isKnown rfl hR hF h (fun _ e => p_X12_isKnown e hR) rfl (Nat.le_of_ble_eq_true rfl) ⟨by decide, by decide⟩ ⟨Nat.le_refl _, Nat.le_refl _⟩ (fun S M3 v4 h hR hF => ?_)
      refine vi_if_eq (t' := 37) C dX12_propose_28 rfl (by decide) (fun c5 => ?_) (fun c5 => ?_)
      · replace h := iT c5 h
        exact vi_cut [(0, .ref m), (1, .int (l1)), (2, .int (l2))] ⟨rfl, rfl, rfl, trivial⟩ (hx37 _ _ h _ hR hF)
      · replace h := iN c5 h
        refine vi_iincv (v := 1) C dX12_propose_31 rfl rfl (by decide) (by decide) ?_
        refine vi_goto (t' := 2) C dX12_propose_34 (by decide) ?_
        exact vi_cut [(0, .ref m), (1, .int (l1)), (2, .int ((l2 + (1))))] ⟨rfl, rfl, rfl, trivial⟩ (ih _ _ h _ hR hF)

set_option maxRecDepth 100000 in
set_option maxHeartbeats 4000000 in
theorem w_X12_propose_51 {E : vE} {X : vX} {S0 : vS} {sz m b : Nat} {ρ : Type} {R : ρ} {Z : State → Prop} {l1 : Int32} {l2 : Int32} {kx68 : vM → Option ρ} (C : vi_C E X yX12_propose cX12_propose 4 (some .boolean) 8 0 0 (45 * 8)) (hx68 : ∀ (M : vM) , kx68 M  = some R → ∀ S, RM S sz m b M → rF S0 S m b → vi_W E X 4 Z 68 [(0, .ref m), (1, .int (l1))] [] S sz 0 0) : ∀ (f : Nat) (M : vM) (l3 : Int32), L_X12_propose_51 l1 l2 kx68 f M l3 = some R → ∀ S, RM S sz m b M → rF S0 S m b → vi_W E X 4 Z 51 [(0, .ref m), (1, .int (l1)), (2, .int (l2)), (3, .int (l3))] [] S sz 0 0 := by
  intro f
  induction f with
  | zero => intro M l3 h; cases h
  | succ f ih =>
    intro M l3 h S hR hF
    rw [L_X12_propose_51] at h
    refine vi_iload_n C dX12_propose_51 rfl rfl ?_
    refine vi_iload_n C dX12_propose_52 rfl rfl ?_
    refine vi_icmp_ge (t' := 68) C dX12_propose_53 rfl (by decide) (fun c11 => ?_) (fun c11 => ?_)
    · replace h := iT c11 h
      exact vi_cut [(0, .ref m), (1, .int (l1))] ⟨rfl, rfl, trivial⟩ (hx68 _  h _ hR hF)
    · replace h := iN c11 h
      refine vi_aload_n C dX12_propose_56 rfl rfl ?_
      refine vi_iload_n C dX12_propose_57 rfl rfl ?_
      refine vi_iconst (v := 0) C dX12_propose_58 rfl (by decide) ?_
      refine r_cv0 C [.int (l1), .int ((0 : Int32))] [] dX12_propose_59 rfl ivX12_320 imX12_dropFirst rfl hR hF h (fun _ e => p_X12_dropFirst e hR) rfl (Nat.le_of_ble_eq_true rfl) ⟨by decide, by decide⟩ ⟨Nat.le_refl _, Nat.le_refl _⟩ (fun S M10 h hR hF => ?_)
      refine vi_iincv (v := 1) C dX12_propose_62 rfl rfl (by decide) (by decide) ?_
      refine vi_goto (t' := 51) C dX12_propose_65 (by decide) ?_
      exact vi_cut [(0, .ref m), (1, .int (l1)), (2, .int (l2)), (3, .int ((l3 + (1))))] ⟨rfl, rfl, rfl, rfl, trivial⟩ (ih _ _ h _ hR hF)

set_option maxRecDepth 100000 in
set_option maxHeartbeats 4000000 in
theorem p_X12_propose {M : vM} {R : (vM × Int32)} {a1 : Int32} (h : F_X12_propose M a1 = some R) {E : vE} {S0 : vS} {sz m b : Nat} (hR : RM S0 sz m b M) : vi_Met E yX12_propose cX12_propose 4 (some .boolean) 8 0 0 [.ref m, .int (a1)] S0 sz (Q1 S0 sz m b R) := by
  refine vi_met (by decide) (Nat.le_of_ble_eq_true rfl) ?_
  intro X C
  have hF := rF.refl S0 m b
  unfold F_X12_propose at h
  refine vi_iconst (v := 0) C dX12_propose_0 rfl (by decide) ?_
  refine vi_istore_n C dX12_propose_1 rfl (by decide) ?_
  refine vi_cut [(0, .ref m), (1, .int (a1)), (2, .int ((0 : Int32)))] ⟨rfl, rfl, rfl, trivial⟩ (w_X12_propose_2 C ?_ _ _ _ h _ hR hF)
  · intro M7 l8 h S hR hF
    refine vi_iload_n C dX12_propose_37 rfl rfl ?_
    refine vi_aload_n C dX12_propose_38 rfl rfl ?_
    refine r_geta C dX12_propose_39 rfl fX12_97 rfl hR rfl ?_
    refine vi_iload_n C dX12_propose_42 rfl rfl ?_
    refine r_iaload C dX12_propose_43 rfl rfl hR h (fun v9 h => ?_)
    refine vi_icmp_ne (t' := 49) C dX12_propose_44 rfl (by decide) (fun c15 => ?_) (fun c15 => ?_)
    · replace h := iN c15 h
      refine vi_iconst (v := 0) C dX12_propose_49 rfl (by decide) ?_
      refine vi_istore_n C dX12_propose_50 rfl (by decide) ?_
      refine vi_cut [(0, .ref m), (1, .int (a1)), (2, .int (l8)), (3, .int ((0 : Int32)))] ⟨rfl, rfl, rfl, rfl, trivial⟩ (w_X12_propose_51 C ?_ _ _ _ h _ hR hF)
      · intro M12 h S hR hF
        refine vi_aload_n C dX12_propose_68 rfl rfl ?_
        refine vi_iload_n C dX12_propose_69 rfl rfl ?_
        refine vi_aload_n C dX12_propose_70 rfl rfl ?_
        refine r_geta C dX12_propose_71 rfl fX12_94 rfl hR rfl ?_
        refine vi_bipush (v := 8) C dX12_propose_74 rfl (by decide) ?_
        refine vi_iload_n C dX12_propose_76 rfl rfl ?_
        refine vi_imul C dX12_propose_77 rfl ?_
        refine r_iaload C dX12_propose_78 rfl rfl hR h (fun v13 h => ?_)
        refine r_cv0 C [.int (a1), .int (v13)] [] dX12_propose_79 rfl ivX12_323 imX12_proposeIt rfl hR hF h (fun _ e => p_X12_proposeIt e hR) rfl (Nat.le_of_ble_eq_true rfl) ⟨by decide, by decide⟩ ⟨Nat.le_refl _, Nat.le_refl _⟩ (fun S M14 h hR hF => ?_)
        refine vi_iconst (v := 1) C dX12_propose_82 rfl (by decide) ?_
        exact r_retz C dX12_propose_83 rfl hR hF h
    · replace h := iT c15 h
      refine vi_iconst (v := 0) C dX12_propose_47 rfl (by decide) ?_
      exact r_retz C dX12_propose_48 rfl hR hF h

def L_X12_tell_31 {ρ : Type}  (l1 : Int32) (kx102 : vM → Option ρ) : Nat → vM → Int32 → Option ρ
  | 0, _, _ => none
  | f + 1, M, l2 => if (16 : Int32) ≤ l2 then (kx102 M ) else ((mG M 46 (l2)).bind fun v8 => if v8 = (2 : Int32) then ((mG M 48 (l2)).bind fun v9 => if v9 = l1 then ((mG M 17 ((((16 : Int32) * l1) + l2))).bind fun v10 => (mG M 47 (l2)).bind fun v11 => if v10 = v11 then ((mG M 18 ((((16 : Int32) * l1) + l2))).bind fun v12 => (mS M 46 (l2) (((2 : Int32) + v12))).bind fun M13 => L_X12_tell_31 l1 kx102 f M13 ((l2 + (1)))) else (L_X12_tell_31 l1 kx102 f M ((l2 + (1))))) else (L_X12_tell_31 l1 kx102 f M ((l2 + (1))))) else (L_X12_tell_31 l1 kx102 f M ((l2 + (1)))))

def L_X12_tell_111 {ρ : Type}  (l1 : Int32) (kx146 : vM → Option ρ) : Nat → vM → Int32 → Option ρ
  | 0, _, _ => none
  | f + 1, M, l2 => if l2 < 0 then (kx146 M ) else ((mG M 26 ((((8 : Int32) * l1) + l2))).bind fun v20 => b2 (F_X12_isKnown M (l1) (v20)) fun M21 v22 => if v22 = 0 then (L_X12_tell_111 l1 kx146 f M21 ((l2 + (-1)))) else ((F_X12_dropFirst M21 (l1) (l2)).bind fun M23 => L_X12_tell_111 l1 kx146 f M23 ((l2 + (-1)))))

def F_X12_tell (M : vM) (a1 : Int32) : Option vM := (mG M 43 (a1)).bind fun v1 => (mG M 7 (a1)).bind fun v2 => jn (fun (M7 : vM) => L_X12_tell_31 (a1) (fun (M18 : vM)  => (mG M18 27 (a1)).bind fun v19 => L_X12_tell_111 (a1) (fun (M26 : vM)  => some M26) fu M18 ((v19 - (1 : Int32)))) fu M7 ((0 : Int32))) (fun k29_3 => if v2 < v1 then ((k29_3 (M))) else ((mS M 43 (a1) ((0 : Int32))).bind fun M4 => (mS M4 44 (a1) ((0 : Int32))).bind fun M5 => (k29_3 (M5))))

set_option maxRecDepth 100000 in
set_option maxHeartbeats 4000000 in
theorem w_X12_tell_31 {E : vE} {X : vX} {S0 : vS} {sz m b : Nat} {ρ : Type} {R : ρ} {Z : State → Prop} {l1 : Int32} {kx102 : vM → Option ρ} (C : vi_C E X yX12_tell cX12_tell 3 none 1 0 0 (45 * 1)) (hx102 : ∀ (M : vM) , kx102 M  = some R → ∀ S, RM S sz m b M → rF S0 S m b → vi_W E X 3 Z 102 [(0, .ref m), (1, .int (l1))] [] S sz 0 0) : ∀ (f : Nat) (M : vM) (l2 : Int32), L_X12_tell_31 l1 kx102 f M l2 = some R → ∀ S, RM S sz m b M → rF S0 S m b → vi_W E X 3 Z 31 [(0, .ref m), (1, .int (l1)), (2, .int (l2))] [] S sz 0 0 := by
  intro f
  induction f with
  | zero => intro M l2 h; cases h
  | succ f ih =>
    intro M l2 h S hR hF
    rw [L_X12_tell_31] at h
    refine vi_iload_n C dX12_tell_31 rfl rfl ?_
    refine vi_bipush (v := 16) C dX12_tell_32 rfl (by decide) ?_
    refine vi_icmp_ge (t' := 102) C dX12_tell_34 rfl (by decide) (fun c17 => ?_) (fun c17 => ?_)
    · replace h := iT c17 h
      exact vi_cut [(0, .ref m), (1, .int (l1))] ⟨rfl, rfl, trivial⟩ (hx102 _  h _ hR hF)
    · replace h := iN c17 h
      refine vi_aload_n C dX12_tell_37 rfl rfl ?_
      refine r_geta C dX12_tell_38 rfl fX12_157 rfl hR rfl ?_
      refine vi_iload_n C dX12_tell_41 rfl rfl ?_
      refine r_iaload C dX12_tell_42 rfl rfl hR h (fun v8 h => ?_)
      refine vi_iconst (v := 2) C dX12_tell_43 rfl (by decide) ?_
      refine vi_icmp_ne (t' := 96) C dX12_tell_44 rfl (by decide) (fun c16 => ?_) (fun c16 => ?_)
      · replace h := iN c16 h
        refine vi_iincv (v := 1) C dX12_tell_96 rfl rfl (by decide) (by decide) ?_
        refine vi_goto (t' := 31) C dX12_tell_99 (by decide) ?_
        exact vi_cut [(0, .ref m), (1, .int (l1)), (2, .int ((l2 + (1))))] ⟨rfl, rfl, rfl, trivial⟩ (ih _ _ h _ hR hF)
      · replace h := iT c16 h
        refine vi_aload_n C dX12_tell_47 rfl rfl ?_
        refine r_geta C dX12_tell_48 rfl fX12_163 rfl hR rfl ?_
        refine vi_iload_n C dX12_tell_51 rfl rfl ?_
        refine r_iaload C dX12_tell_52 rfl rfl hR h (fun v9 h => ?_)
        refine vi_iload_n C dX12_tell_53 rfl rfl ?_
        refine vi_icmp_ne (t' := 96) C dX12_tell_54 rfl (by decide) (fun c15 => ?_) (fun c15 => ?_)
        · replace h := iN c15 h
          refine vi_iincv (v := 1) C dX12_tell_96 rfl rfl (by decide) (by decide) ?_
          refine vi_goto (t' := 31) C dX12_tell_99 (by decide) ?_
          exact vi_cut [(0, .ref m), (1, .int (l1)), (2, .int ((l2 + (1))))] ⟨rfl, rfl, rfl, trivial⟩ (ih _ _ h _ hR hF)
        · replace h := iT c15 h
          refine vi_aload_n C dX12_tell_57 rfl rfl ?_
          refine r_geta C dX12_tell_58 rfl fX12_67 rfl hR rfl ?_
          refine vi_bipush (v := 16) C dX12_tell_61 rfl (by decide) ?_
          refine vi_iload_n C dX12_tell_63 rfl rfl ?_
          refine vi_imul C dX12_tell_64 rfl ?_
          refine vi_iload_n C dX12_tell_65 rfl rfl ?_
          refine vi_iadd C dX12_tell_66 rfl ?_
          refine r_iaload C dX12_tell_67 rfl rfl hR h (fun v10 h => ?_)
          refine vi_aload_n C dX12_tell_68 rfl rfl ?_
          refine r_geta C dX12_tell_69 rfl fX12_160 rfl hR rfl ?_
          refine vi_iload_n C dX12_tell_72 rfl rfl ?_
          refine r_iaload C dX12_tell_73 rfl rfl hR h (fun v11 h => ?_)
          refine vi_icmp_ne (t' := 96) C dX12_tell_74 rfl (by decide) (fun c14 => ?_) (fun c14 => ?_)
          · replace h := iN c14 h
            refine vi_iincv (v := 1) C dX12_tell_96 rfl rfl (by decide) (by decide) ?_
            refine vi_goto (t' := 31) C dX12_tell_99 (by decide) ?_
            exact vi_cut [(0, .ref m), (1, .int (l1)), (2, .int ((l2 + (1))))] ⟨rfl, rfl, rfl, trivial⟩ (ih _ _ h _ hR hF)
          · replace h := iT c14 h
            refine vi_aload_n C dX12_tell_77 rfl rfl ?_
            refine r_geta C dX12_tell_78 rfl fX12_157 rfl hR rfl ?_
            refine vi_iload_n C dX12_tell_81 rfl rfl ?_
            refine vi_iconst (v := 2) C dX12_tell_82 rfl (by decide) ?_
            refine vi_aload_n C dX12_tell_83 rfl rfl ?_
            refine r_geta C dX12_tell_84 rfl fX12_70 rfl hR rfl ?_
            refine vi_bipush (v := 16) C dX12_tell_87 rfl (by decide) ?_
            refine vi_iload_n C dX12_tell_89 rfl rfl ?_
            refine vi_imul C dX12_tell_90 rfl ?_
            refine vi_iload_n C dX12_tell_91 rfl rfl ?_
            refine vi_iadd C dX12_tell_92 rfl ?_
            refine r_iaload C dX12_tell_93 rfl rfl hR h (fun v12 h => ?_)
            refine vi_iadd C dX12_tell_94 rfl ?_
            refine r_iastore C dX12_tell_95 rfl rfl hR hF h (fun S M13 h hR hF => ?_)
            refine vi_iincv (v := 1) C dX12_tell_96 rfl rfl (by decide) (by decide) ?_
            refine vi_goto (t' := 31) C dX12_tell_99 (by decide) ?_
            exact vi_cut [(0, .ref m), (1, .int (l1)), (2, .int ((l2 + (1))))] ⟨rfl, rfl, rfl, trivial⟩ (ih _ _ h _ hR hF)

set_option maxRecDepth 100000 in
set_option maxHeartbeats 4000000 in
theorem w_X12_tell_111 {E : vE} {X : vX} {S0 : vS} {sz m b : Nat} {ρ : Type} {R : ρ} {Z : State → Prop} {l1 : Int32} {kx146 : vM → Option ρ} (C : vi_C E X yX12_tell cX12_tell 3 none 1 0 0 (45 * 1)) (hx146 : ∀ (M : vM) , kx146 M  = some R → ∀ S, RM S sz m b M → rF S0 S m b → vi_W E X 3 Z 146 [] [] S sz 0 0) : ∀ (f : Nat) (M : vM) (l2 : Int32), L_X12_tell_111 l1 kx146 f M l2 = some R → ∀ S, RM S sz m b M → rF S0 S m b → vi_W E X 3 Z 111 [(0, .ref m), (1, .int (l1)), (2, .int (l2))] [] S sz 0 0 := by
  intro f
  induction f with
  | zero => intro M l2 h; cases h
  | succ f ih =>
    intro M l2 h S hR hF
    rw [L_X12_tell_111] at h
    refine vi_iload_n C dX12_tell_111 rfl rfl ?_
    refine vi_if_lt (t' := 146) C dX12_tell_112 rfl (by decide) (fun c25 => ?_) (fun c25 => ?_)
    · replace h := iT c25 h
      exact vi_cut [] trivial (hx146 _  h _ hR hF)
    · replace h := iN c25 h
      refine vi_aload_n C dX12_tell_115 rfl rfl ?_
      refine vi_iload_n C dX12_tell_116 rfl rfl ?_
      refine vi_aload_n C dX12_tell_117 rfl rfl ?_
      refine r_geta C dX12_tell_118 rfl fX12_94 rfl hR rfl ?_
      refine vi_bipush (v := 8) C dX12_tell_121 rfl (by decide) ?_
      refine vi_iload_n C dX12_tell_123 rfl rfl ?_
      refine vi_imul C dX12_tell_124 rfl ?_
      refine vi_iload_n C dX12_tell_125 rfl rfl ?_
      refine vi_iadd C dX12_tell_126 rfl ?_
      refine r_iaload C dX12_tell_127 rfl rfl hR h (fun v20 h => ?_)
      refine r_cv1 C [.int (l1), .int (v20)] [] dX12_tell_128 rfl ivX12_317 imX12_isKnown rfl hR hF h (fun _ e => p_X12_isKnown e hR) rfl (Nat.le_of_ble_eq_true rfl) ⟨by decide, by decide⟩ ⟨Nat.le_refl _, Nat.le_refl _⟩ (fun S M21 v22 h hR hF => ?_)
      refine vi_if_eq (t' := 140) C dX12_tell_131 rfl (by decide) (fun c24 => ?_) (fun c24 => ?_)
      · replace h := iT c24 h
        refine vi_iincv (v := -1) C dX12_tell_140 rfl rfl (by decide) (by decide) ?_
        refine vi_goto (t' := 111) C dX12_tell_143 (by decide) ?_
        exact vi_cut [(0, .ref m), (1, .int (l1)), (2, .int ((l2 + (-1))))] ⟨rfl, rfl, rfl, trivial⟩ (ih _ _ h _ hR hF)
      · replace h := iN c24 h
        refine vi_aload_n C dX12_tell_134 rfl rfl ?_
        refine vi_iload_n C dX12_tell_135 rfl rfl ?_
        refine vi_iload_n C dX12_tell_136 rfl rfl ?_
        refine r_cv0 C [.int (l1), .int (l2)] [] dX12_tell_137 rfl ivX12_320 imX12_dropFirst rfl hR hF h (fun _ e => p_X12_dropFirst e hR) rfl (Nat.le_of_ble_eq_true rfl) ⟨by decide, by decide⟩ ⟨Nat.le_refl _, Nat.le_refl _⟩ (fun S M23 h hR hF => ?_)
        refine vi_iincv (v := -1) C dX12_tell_140 rfl rfl (by decide) (by decide) ?_
        refine vi_goto (t' := 111) C dX12_tell_143 (by decide) ?_
        exact vi_cut [(0, .ref m), (1, .int (l1)), (2, .int ((l2 + (-1))))] ⟨rfl, rfl, rfl, trivial⟩ (ih _ _ h _ hR hF)

set_option maxRecDepth 100000 in
set_option maxHeartbeats 4000000 in
theorem p_X12_tell {M : vM} {R : vM} {a1 : Int32} (h : F_X12_tell M a1 = some R) {E : vE} {S0 : vS} {sz m b : Nat} (hR : RM S0 sz m b M) : vi_Met E yX12_tell cX12_tell 3 none 1 0 0 [.ref m, .int (a1)] S0 sz (Q0 S0 sz m b R) := by
  refine vi_met (by decide) (Nat.le_of_ble_eq_true rfl) ?_
  intro X C
  have hF := rF.refl S0 m b
  unfold F_X12_tell at h
  refine vi_aload_n C dX12_tell_0 rfl rfl ?_
  refine r_geta C dX12_tell_1 rfl fX12_148 rfl hR rfl ?_
  refine vi_iload_n C dX12_tell_4 rfl rfl ?_
  refine r_iaload C dX12_tell_5 rfl rfl hR h (fun v1 h => ?_)
  refine vi_aload_n C dX12_tell_6 rfl rfl ?_
  refine r_geta C dX12_tell_7 rfl fX12_37 rfl hR rfl ?_
  refine vi_iload_n C dX12_tell_10 rfl rfl ?_
  refine r_iaload C dX12_tell_11 rfl rfl hR h (fun v2 h => ?_)
  refine r_jn h (fun k => ∀ (M7 : vM), k M7 = some R → ∀ S, RM S sz m b M7 → rF S0 S m b → vi_W E X 3 (vi_Z E X (Q0 S0 sz m b R) 0 0) 29 [(0, .ref m), (1, .int (a1))] [] S sz 0 0) ?_ ?_
  · intro M7 h S hR hF
    refine vi_iconst (v := 0) C dX12_tell_29 rfl (by decide) ?_
    refine vi_istore_n C dX12_tell_30 rfl (by decide) ?_
    refine vi_cut [(0, .ref m), (1, .int (a1)), (2, .int ((0 : Int32)))] ⟨rfl, rfl, rfl, trivial⟩ (w_X12_tell_31 C ?_ _ _ _ h _ hR hF)
    · intro M18 h S hR hF
      refine vi_aload_n C dX12_tell_102 rfl rfl ?_
      refine r_geta C dX12_tell_103 rfl fX12_97 rfl hR rfl ?_
      refine vi_iload_n C dX12_tell_106 rfl rfl ?_
      refine r_iaload C dX12_tell_107 rfl rfl hR h (fun v19 h => ?_)
      refine vi_iconst (v := 1) C dX12_tell_108 rfl (by decide) ?_
      refine vi_isub C dX12_tell_109 rfl ?_
      refine vi_istore_n C dX12_tell_110 rfl (by decide) ?_
      refine vi_cut [(0, .ref m), (1, .int (a1)), (2, .int ((v19 - (1 : Int32))))] ⟨rfl, rfl, rfl, trivial⟩ (w_X12_tell_111 C ?_ _ _ _ h _ hR hF)
      · intro M26 h S hR hF
        exact r_ret0 C dX12_tell_146 rfl hR hF h
  · intro k29_3 h29_3 h
    refine vi_icmp_gt (t' := 29) C dX12_tell_12 rfl (by decide) (fun c6 => ?_) (fun c6 => ?_)
    · replace h := iT c6 h
      exact vi_cut [(0, .ref m), (1, .int (a1))] ⟨rfl, rfl, trivial⟩ (h29_3 _ h _ hR hF)
    · replace h := iN c6 h
      refine vi_aload_n C dX12_tell_15 rfl rfl ?_
      refine r_geta C dX12_tell_16 rfl fX12_148 rfl hR rfl ?_
      refine vi_iload_n C dX12_tell_19 rfl rfl ?_
      refine vi_iconst (v := 0) C dX12_tell_20 rfl (by decide) ?_
      refine r_iastore C dX12_tell_21 rfl rfl hR hF h (fun S M4 h hR hF => ?_)
      refine vi_aload_n C dX12_tell_22 rfl rfl ?_
      refine r_geta C dX12_tell_23 rfl fX12_151 rfl hR rfl ?_
      refine vi_iload_n C dX12_tell_26 rfl rfl ?_
      refine vi_iconst (v := 0) C dX12_tell_27 rfl (by decide) ?_
      refine r_iastore C dX12_tell_28 rfl rfl hR hF h (fun S M5 h hR hF => ?_)
      exact vi_cut [(0, .ref m), (1, .int (a1))] ⟨rfl, rfl, trivial⟩ (h29_3 _ h _ hR hF)

def F_X12_learn (M : vM) (a1 : Int32) (a2 : Int32) : Option (vM × Int32) := lt1 (mW M 45 ((0 : Int32))) fun M1 => (F_X12_lay M1 ((3 : Int32))).bind fun M2 => (F_X12_layRequest M2 (a2)).bind fun M3 => b2 (F_X12_note M3 (a1) ((3 : Int32)) ((0 : Int32)) ((0 : Int32)) (a2)) fun M4 v5 => if v5 = 0 then (zb ((0 : Int32)) (some (M4, (0 : Int32)))) else ((F_X12_applyTo M4 (a1) (a2)).bind fun M6 => (F_X12_accept M6 (a1) ((0 : Int32)) ((0 : Int32))).bind fun M7 => b2 (F_X12_checkpoint M7 (a1)) fun M8 v9 => if v9 = 0 then (zb ((0 : Int32)) (some (M8, (0 : Int32)))) else ((mG M8 19 (a1)).bind fun v10 => jn (fun (M14 : vM) => (mS M14 22 (a1) ((0 : Int32))).bind fun M15 => (mG M15 19 (a1)).bind fun v16 => jn (fun (M20 : vM) => (mS M20 13 (a1) ((0 : Int32))).bind fun M21 => (F_X12_tell M21 (a1)).bind fun M22 => zb ((1 : Int32)) (some (M22, (1 : Int32)))) (fun k91_17 => if v16 = (2 : Int32) then ((mS M15 21 (a1) ((0 : Int32))).bind fun M18 => (k91_17 (M18))) else ((k91_17 (M15))))) (fun k67_11 => if v10 = (1 : Int32) then ((F_X12_follow M8 (a1)).bind fun M12 => (k67_11 (M12))) else ((k67_11 (M8))))))

set_option maxRecDepth 100000 in
set_option maxHeartbeats 4000000 in
theorem p_X12_learn {M : vM} {R : (vM × Int32)} {a1 : Int32} {a2 : Int32} (h : F_X12_learn M a1 a2 = some R) {E : vE} {S0 : vS} {sz m b : Nat} (hR : RM S0 sz m b M) : vi_Met E yX12_learn cX12_learn 3 (some .boolean) 6 0 0 [.ref m, .int (a1), .int (a2)] S0 sz (Q1 S0 sz m b R) := by
  refine vi_met (by decide) (Nat.le_of_ble_eq_true rfl) ?_
  intro X C
  have hF := rF.refl S0 m b
  unfold F_X12_learn at h
  refine vi_aload_n C dX12_learn_0 rfl rfl ?_
  refine vi_iconst (v := 0) C dX12_learn_1 rfl (by decide) ?_
  refine r_puti C dX12_learn_2 rfl (fpX12_218 _) rfl hR hF h (fun S M1 h hR hF => ?_)
  refine vi_aload_n C dX12_learn_5 rfl rfl ?_
  refine vi_iconst (v := 3) C dX12_learn_6 rfl (by decide) ?_
  refine r_cv0 C [.int ((3 : Int32))] [] dX12_learn_7 rfl ivX12_221 imX12_lay rfl hR hF h (fun _ e => p_X12_lay e hR) rfl (Nat.le_of_ble_eq_true rfl) ⟨by decide, by decide⟩ ⟨Nat.le_refl _, Nat.le_refl _⟩ (fun S M2 h hR hF => ?_)
  refine vi_aload_n C dX12_learn_10 rfl rfl ?_
  refine vi_iload_n C dX12_learn_11 rfl rfl ?_
  refine r_cv0 C [.int (a2)] [] dX12_learn_12 rfl ivX12_257 imX12_layRequest rfl hR hF h (fun _ e => p_X12_layRequest e hR) rfl (Nat.le_of_ble_eq_true rfl) ⟨by decide, by decide⟩ ⟨Nat.le_refl _, Nat.le_refl _⟩ (fun S M3 h hR hF => ?_)
  refine vi_aload_n C dX12_learn_15 rfl rfl ?_
  refine vi_iload_n C dX12_learn_16 rfl rfl ?_
  refine vi_iconst (v := 3) C dX12_learn_17 rfl (by decide) ?_
  refine vi_iconst (v := 0) C dX12_learn_18 rfl (by decide) ?_
  refine vi_iconst (v := 0) C dX12_learn_19 rfl (by decide) ?_
  refine vi_iload_n C dX12_learn_20 rfl rfl ?_
  refine r_cv1 C [.int (a1), .int ((3 : Int32)), .int ((0 : Int32)), .int ((0 : Int32)), .int (a2)] [] dX12_learn_21 rfl ivX12_253 imX12_note rfl hR hF h (fun _ e => p_X12_note e hR) rfl (Nat.le_of_ble_eq_true rfl) ⟨by decide, by decide⟩ ⟨Nat.le_refl _, Nat.le_refl _⟩ (fun S M4 v5 h hR hF => ?_)
  refine vi_if_ne (t' := 29) C dX12_learn_24 rfl (by decide) (fun c24 => ?_) (fun c24 => ?_)
  · replace h := iN c24 h
    refine vi_aload_n C dX12_learn_29 rfl rfl ?_
    refine vi_iload_n C dX12_learn_30 rfl rfl ?_
    refine vi_iload_n C dX12_learn_31 rfl rfl ?_
    refine r_cv0 C [.int (a1), .int (a2)] [] dX12_learn_32 rfl ivX12_275 imX12_applyTo rfl hR hF h (fun _ e => p_X12_applyTo e hR) rfl (Nat.le_of_ble_eq_true rfl) ⟨by decide, by decide⟩ ⟨Nat.le_refl _, Nat.le_refl _⟩ (fun S M6 h hR hF => ?_)
    refine vi_aload_n C dX12_learn_35 rfl rfl ?_
    refine vi_iload_n C dX12_learn_36 rfl rfl ?_
    refine vi_iconst (v := 0) C dX12_learn_37 rfl (by decide) ?_
    refine vi_iconst (v := 0) C dX12_learn_38 rfl (by decide) ?_
    refine r_cv0 C [.int (a1), .int ((0 : Int32)), .int ((0 : Int32))] [] dX12_learn_39 rfl ivX12_272 imX12_accept rfl hR hF h (fun _ e => p_X12_accept e hR) rfl (Nat.le_of_ble_eq_true rfl) ⟨by decide, by decide⟩ ⟨Nat.le_refl _, Nat.le_refl _⟩ (fun S M7 h hR hF => ?_)
    refine vi_aload_n C dX12_learn_42 rfl rfl ?_
    refine vi_iload_n C dX12_learn_43 rfl rfl ?_
    refine r_cv1 C [.int (a1)] [] dX12_learn_44 rfl ivX12_281 imX12_checkpoint rfl hR hF h (fun _ e => p_X12_checkpoint e hR) rfl (Nat.le_of_ble_eq_true rfl) ⟨by decide, by decide⟩ ⟨Nat.le_refl _, Nat.le_refl _⟩ (fun S M8 v9 h hR hF => ?_)
    refine vi_if_ne (t' := 52) C dX12_learn_47 rfl (by decide) (fun c23 => ?_) (fun c23 => ?_)
    · replace h := iN c23 h
      refine vi_aload_n C dX12_learn_52 rfl rfl ?_
      refine r_geta C dX12_learn_53 rfl fX12_73 rfl hR rfl ?_
      refine vi_iload_n C dX12_learn_56 rfl rfl ?_
      refine r_iaload C dX12_learn_57 rfl rfl hR h (fun v10 h => ?_)
      refine vi_iconst (v := 1) C dX12_learn_58 rfl (by decide) ?_
      refine r_jn h (fun k => ∀ (M14 : vM), k M14 = some R → ∀ S, RM S sz m b M14 → rF S0 S m b → vi_W E X 3 (vi_Z E X (Q1 S0 sz m b R) 0 0) 67 [(0, .ref m), (1, .int (a1))] [] S sz 0 0) ?_ ?_
      · intro M14 h S hR hF
        refine vi_aload_n C dX12_learn_67 rfl rfl ?_
        refine r_geta C dX12_learn_68 rfl fX12_82 rfl hR rfl ?_
        refine vi_iload_n C dX12_learn_71 rfl rfl ?_
        refine vi_iconst (v := 0) C dX12_learn_72 rfl (by decide) ?_
        refine r_iastore C dX12_learn_73 rfl rfl hR hF h (fun S M15 h hR hF => ?_)
        refine vi_aload_n C dX12_learn_74 rfl rfl ?_
        refine r_geta C dX12_learn_75 rfl fX12_73 rfl hR rfl ?_
        refine vi_iload_n C dX12_learn_78 rfl rfl ?_
        refine r_iaload C dX12_learn_79 rfl rfl hR h (fun v16 h => ?_)
        refine vi_iconst (v := 2) C dX12_learn_80 rfl (by decide) ?_
        refine r_jn h (fun k => ∀ (M20 : vM), k M20 = some R → ∀ S, RM S sz m b M20 → rF S0 S m b → vi_W E X 3 (vi_Z E X (Q1 S0 sz m b R) 0 0) 91 [(0, .ref m), (1, .int (a1))] [] S sz 0 0) ?_ ?_
        · intro M20 h S hR hF
          refine vi_aload_n C dX12_learn_91 rfl rfl ?_
          refine r_geta C dX12_learn_92 rfl fX12_55 rfl hR rfl ?_
          refine vi_iload_n C dX12_learn_95 rfl rfl ?_
          refine vi_iconst (v := 0) C dX12_learn_96 rfl (by decide) ?_
          refine r_iastore C dX12_learn_97 rfl rfl hR hF h (fun S M21 h hR hF => ?_)
          refine vi_aload_n C dX12_learn_98 rfl rfl ?_
          refine vi_iload_n C dX12_learn_99 rfl rfl ?_
          refine r_cv0 C [.int (a1)] [] dX12_learn_100 rfl ivX12_326 imX12_tell rfl hR hF h (fun _ e => p_X12_tell e hR) rfl (Nat.le_of_ble_eq_true rfl) ⟨by decide, by decide⟩ ⟨Nat.le_refl _, Nat.le_refl _⟩ (fun S M22 h hR hF => ?_)
          refine vi_iconst (v := 1) C dX12_learn_103 rfl (by decide) ?_
          exact r_retz C dX12_learn_104 rfl hR hF h
        · intro k91_17 h91_17 h
          refine vi_icmp_ne (t' := 91) C dX12_learn_81 rfl (by decide) (fun c19 => ?_) (fun c19 => ?_)
          · replace h := iN c19 h
            exact vi_cut [(0, .ref m), (1, .int (a1))] ⟨rfl, rfl, trivial⟩ (h91_17 _ h _ hR hF)
          · replace h := iT c19 h
            refine vi_aload_n C dX12_learn_84 rfl rfl ?_
            refine r_geta C dX12_learn_85 rfl fX12_79 rfl hR rfl ?_
            refine vi_iload_n C dX12_learn_88 rfl rfl ?_
            refine vi_iconst (v := 0) C dX12_learn_89 rfl (by decide) ?_
            refine r_iastore C dX12_learn_90 rfl rfl hR hF h (fun S M18 h hR hF => ?_)
            exact vi_cut [(0, .ref m), (1, .int (a1))] ⟨rfl, rfl, trivial⟩ (h91_17 _ h _ hR hF)
      · intro k67_11 h67_11 h
        refine vi_icmp_ne (t' := 67) C dX12_learn_59 rfl (by decide) (fun c13 => ?_) (fun c13 => ?_)
        · replace h := iN c13 h
          exact vi_cut [(0, .ref m), (1, .int (a1))] ⟨rfl, rfl, trivial⟩ (h67_11 _ h _ hR hF)
        · replace h := iT c13 h
          refine vi_aload_n C dX12_learn_62 rfl rfl ?_
          refine vi_iload_n C dX12_learn_63 rfl rfl ?_
          refine r_cv0 C [.int (a1)] [] dX12_learn_64 rfl ivX12_284 imX12_follow rfl hR hF h (fun _ e => p_X12_follow e hR) rfl (Nat.le_of_ble_eq_true rfl) ⟨by decide, by decide⟩ ⟨Nat.le_refl _, Nat.le_refl _⟩ (fun S M12 h hR hF => ?_)
          exact vi_cut [(0, .ref m), (1, .int (a1))] ⟨rfl, rfl, trivial⟩ (h67_11 _ h _ hR hF)
    · replace h := iT c23 h
      refine vi_iconst (v := 0) C dX12_learn_50 rfl (by decide) ?_
      exact r_retz C dX12_learn_51 rfl hR hF h
  · replace h := iT c24 h
    refine vi_iconst (v := 0) C dX12_learn_27 rfl (by decide) ?_
    exact r_retz C dX12_learn_28 rfl hR hF h
