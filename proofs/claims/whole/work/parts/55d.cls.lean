def F_X11_messageOf (N : Nat) (M : vC) (a1 : Int32) (a2 : Int32) : Option (vC × Int32) := b2 (F_X3_look N M (a1)) fun M1 v2 => oc (v2) (some (M1, (-1 : Int32))) (fun o3 => gd (o3 < 202) <| if a2 = (8 : Int32) then ((F_X1_writeTo N M1 (o3) (0)).bind fun M7 => some (M7, (cI M7 1 (0)))) else (b2 (F_X1_tell N M1 (o3) (a2)) fun M5 v6 => some (M5, v6)))

set_option maxRecDepth 100000 in
set_option maxHeartbeats 4000000 in
theorem p_X11_messageOf {N : Nat} {M : vC} {R : (vC × Int32)} {a1 : Int32} {a2 : Int32}  (h : F_X11_messageOf N M a1 a2 = some R) {E : vE} {S0 : vS} {z x d0 : Nat} (hR : RC S0 z x N d0 M) : vi_Met E yX11_messageOf cX11_messageOf 4 (some .int) 4 0 0 [.ref (ad z x 11 (0)), .int (a1), .int (a2)] S0 (cz M) (D1 S0 z x N d0 R) := by
  refine vi_met (by decide) (Nat.le_of_ble_eq_true rfl) ?_
  intro X C
  have hF := cF.refl S0 z x N d0
  unfold F_X11_messageOf at h
  refine vi_aload_n C dX11_messageOf_0 rfl rfl ?_
  refine c_gets (k := 11) (i := 0) C dX11_messageOf_1 rfl fX11_40 rfl (by decide) rfl hR (rfl : 0 = 0) rfl ?_
  refine vi_iload_n C dX11_messageOf_4 rfl rfl ?_
  refine c_cv3 (kc := 3) (a := (ad z x 3 (0))) (kt := 1) C [.int (a1)] [] dX11_messageOf_5 rfl ivX11_191 imX3_look rfl rfl (rcK hR (rfl : 0 = 0)) hR hF h (fun _ e => p_X3_look  e hR) rfl (Nat.le_of_ble_eq_true rfl) ⟨by decide, by decide⟩ ⟨Nat.le_refl _, Nat.le_refl _⟩ (fun S M1 v2 h hR hF => ?_)
  refine vi_astore_nq (o := ((v2).map (ad z x 1))) C dX11_messageOf_8 rfl (by decide) ?_
  refine vi_aload_nq (o := ((v2).map (ad z x 1))) C dX11_messageOf_9 rfl rfl ?_
  rcases oco h with ⟨rfl, hh⟩ | ⟨o3, rfl, hh⟩
  · replace h := hh
    clear hh
    refine vi_ifnonnull (o := none) (t' := 15) C dX11_messageOf_10 rfl (by decide) (fun e => absurd rfl e) (fun _ => ?_)
    refine vi_iconst (v := -1) C dX11_messageOf_13 rfl (by decide) ?_
    exact c_ret1 C dX11_messageOf_14 rfl hR hF ⟨Nat.zero_le _, Nat.zero_le _⟩ h
  · replace h := hh
    clear hh
    refine vi_ifnonnull (o := (some (ad z x 1 (o3)))) (t' := 15) C dX11_messageOf_10 rfl (by decide) (fun _ => ?_) (fun e => by cases e)
    obtain ⟨c4, h⟩ := gdo h
    refine vi_iload_n C dX11_messageOf_15 rfl rfl ?_
    refine vi_bipush (v := 8) C dX11_messageOf_16 rfl (by decide) ?_
    refine vi_icmp_ne (t' := 37) C dX11_messageOf_18 rfl (by decide) (fun c8 => ?_) (fun c8 => ?_)
    · replace h := iN c8 h
      refine vi_aload_n C dX11_messageOf_37 rfl rfl ?_
      refine vi_iload_n C dX11_messageOf_38 rfl rfl ?_
      refine c_cv1 (kc := 1) (a := (ad z x 1 (o3))) C [.int (a2)] [] dX11_messageOf_39 rfl ivX11_254 imX1_tell rfl rfl (rcK hR c4) hR hF h (fun _ e => p_X1_tell c4 e hR) rfl (Nat.le_of_ble_eq_true rfl) ⟨by decide, by decide⟩ ⟨Nat.le_refl _, Nat.le_refl _⟩ (fun S M5 v6 h hR hF => ?_)
      exact c_ret1 C dX11_messageOf_42 rfl hR hF ⟨Nat.zero_le _, Nat.zero_le _⟩ h
    · replace h := iT c8 h
      refine vi_aload_n C dX11_messageOf_21 rfl rfl ?_
      refine vi_aload_n C dX11_messageOf_22 rfl rfl ?_
      refine c_gets (k := 11) (i := 0) C dX11_messageOf_23 rfl fX11_33 rfl (by decide) rfl hR (rfl : 0 = 0) rfl ?_
      refine c_cv0 (kc := 1) (a := (ad z x 1 (o3))) C [.ref (ad z x 0 (0))] [] dX11_messageOf_26 rfl ivX11_197 imX1_writeTo rfl rfl (rcK hR c4) hR hF h (fun _ e => p_X1_writeTo c4 (show 0 < 3 from by decide) e hR) rfl (Nat.le_of_ble_eq_true rfl) ⟨by decide, by decide⟩ ⟨Nat.le_refl _, Nat.le_refl _⟩ (fun S M7 h hR hF => ?_)
      refine vi_aload_n C dX11_messageOf_29 rfl rfl ?_
      refine c_gets (k := 11) (i := 0) C dX11_messageOf_30 rfl fX11_33 rfl (by decide) rfl hR (rfl : 0 = 0) rfl ?_
      refine c_geti (k := 0) (i := 0) C dX11_messageOf_33 rfl fX11_200 rfl (by decide) rfl hR (show 0 < 3 from by decide) ?_
      exact c_ret1 C dX11_messageOf_36 rfl hR hF ⟨Nat.zero_le _, Nat.zero_le _⟩ h

def L_X11_greatestIndex_4 {ρ : Type} (N : Nat)  (kx48 : vC → Int32 → Option ρ) : Nat → vC → Int32 → Int32 → Option ρ
  | 0, _, _, _ => none
  | f + 1, M, l1, l2 => if (Int32.ofNat N) ≤ l2 then (kx48 M (l1)) else ((ix N (l2)).bind fun v1 => if (cI M 711 (v1)) = 0 then (L_X11_greatestIndex_4 N  kx48 f M (l1) ((l2 + (1)))) else ((ix N (l2)).bind fun v3 => L_X11_greatestIndex_4 N  kx48 f M ((mxI (l1) ((cI M 1007 (v3))))) ((l2 + (1)))))

def F_X11_greatestIndex (N : Nat) (M : vC)  : Option (vC × Int32) := L_X11_greatestIndex_4 N  (fun (M7 : vC) (l8 : Int32) => some (M7, l8)) fu M ((0 : Int32)) ((0 : Int32))

set_option maxRecDepth 100000 in
set_option maxHeartbeats 4000000 in
theorem w_X11_greatestIndex_4 {E : vE} {X : vX} {S0 : vS} {z x N d0 : Nat} {ρ : Type} {R : ρ} {Z : State → Prop}  {kx48 : vC → Int32 → Option ρ}  (C : vi_C E X yX11_greatestIndex cX11_greatestIndex 3 (some .int) 1 0 0 (45 * 1)) (hx48 : ∀ (M : vC) (l1 : Int32), kx48 M l1 = some R → ∀ S, RC S z x N d0 M → cF S0 S z x N d0 → vi_W E X 3 Z 48 [(1, .int (l1))] [] S (cz M) 0 0) : ∀ (f : Nat) (M : vC) (l1 : Int32) (l2 : Int32), L_X11_greatestIndex_4 N  kx48 f M l1 l2 = some R → ∀ S, RC S z x N d0 M → cF S0 S z x N d0 → vi_W E X 3 Z 4 [(0, .ref (ad z x 11 (0))), (1, .int (l1)), (2, .int (l2))] [] S (cz M) 0 0 := by
  intro f
  induction f with
  | zero => intro M l1 l2 h; cases h
  | succ f ih =>
    intro M l1 l2 h S hR hF
    rw [L_X11_greatestIndex_4] at h
    refine vi_iload_n C dX11_greatestIndex_4 rfl rfl ?_
    refine vi_aload_n C dX11_greatestIndex_5 rfl rfl ?_
    refine c_gets (k := 11) (i := 0) C dX11_greatestIndex_6 rfl fX11_53 rfl (by decide) rfl hR (rfl : 0 = 0) rfl ?_
    refine c_alenR C dX11_greatestIndex_9 rfl hR ?_
    refine vi_icmp_ge (t' := 48) C dX11_greatestIndex_10 rfl (by decide) (fun c6 => ?_) (fun c6 => ?_)
    · replace h := iT c6 h
      exact (vi_cut [(1, .int (l1))] ⟨rfl, trivial⟩ (hx48 _ _ h _ hR hF))
    · replace h := iN c6 h
      refine vi_aload_n C dX11_greatestIndex_13 rfl rfl ?_
      refine c_gets (k := 11) (i := 0) C dX11_greatestIndex_14 rfl fX11_53 rfl (by decide) rfl hR (rfl : 0 = 0) rfl ?_
      refine vi_iload_n C dX11_greatestIndex_17 rfl rfl ?_
      refine c_aaloadR C dX11_greatestIndex_18 rfl hR h (fun v1 c2 h => ?_)
      refine c_geti (k := 7) (i := v1) C dX11_greatestIndex_19 rfl fX11_212 rfl (by decide) rfl hR c2 ?_
      refine vi_if_eq (t' := 42) C dX11_greatestIndex_22 rfl (by decide) (fun c5 => ?_) (fun c5 => ?_)
      · replace h := iT c5 h
        refine vi_iincv (v := 1) C dX11_greatestIndex_42 rfl rfl (by decide) (by decide) ?_
        refine vi_goto (t' := 4) C dX11_greatestIndex_45 (by decide) ?_
        exact vi_cut [(0, .ref (ad z x 11 (0))), (1, .int (l1)), (2, .int ((l2 + (1))))] ⟨rfl, rfl, rfl, trivial⟩ (ih _ _ _ h _ hR hF)
      · replace h := iN c5 h
        refine vi_iload_n C dX11_greatestIndex_25 rfl rfl ?_
        refine vi_aload_n C dX11_greatestIndex_26 rfl rfl ?_
        refine c_gets (k := 11) (i := 0) C dX11_greatestIndex_27 rfl fX11_53 rfl (by decide) rfl hR (rfl : 0 = 0) rfl ?_
        refine vi_iload_n C dX11_greatestIndex_30 rfl rfl ?_
        refine c_aaloadR C dX11_greatestIndex_31 rfl hR h (fun v3 c4 h => ?_)
        refine c_gets (k := 7) (i := v3) C dX11_greatestIndex_32 rfl fX11_85 rfl (by decide) rfl hR c4 rfl ?_
        refine c_geti (k := 10) (i := v3) C dX11_greatestIndex_35 rfl fX11_89 rfl (by decide) rfl hR c4 ?_
        refine vi_mmax C dX11_greatestIndex_38 rfl ivX11_15 mlX11_15 (by decide) (Nat.le_of_ble_eq_true rfl) (Nat.zero_le _) (Nat.zero_le _) ?_
        refine vi_istore_n C dX11_greatestIndex_41 rfl (by decide) ?_
        refine vi_iincv (v := 1) C dX11_greatestIndex_42 rfl rfl (by decide) (by decide) ?_
        refine vi_goto (t' := 4) C dX11_greatestIndex_45 (by decide) ?_
        exact vi_cut [(0, .ref (ad z x 11 (0))), (1, .int ((mxI (l1) ((cI M 1007 (v3)))))), (2, .int ((l2 + (1))))] ⟨rfl, rfl, rfl, trivial⟩ (ih _ _ _ h _ hR hF)

set_option maxRecDepth 100000 in
set_option maxHeartbeats 4000000 in
theorem p_X11_greatestIndex {N : Nat} {M : vC} {R : (vC × Int32)}   (h : F_X11_greatestIndex N M  = some R) {E : vE} {S0 : vS} {z x d0 : Nat} (hR : RC S0 z x N d0 M) : vi_Met E yX11_greatestIndex cX11_greatestIndex 3 (some .int) 1 0 0 [.ref (ad z x 11 (0))] S0 (cz M) (D1 S0 z x N d0 R) := by
  refine vi_met (by decide) (Nat.le_of_ble_eq_true rfl) ?_
  intro X C
  have hF := cF.refl S0 z x N d0
  unfold F_X11_greatestIndex at h
  refine vi_iconst (v := 0) C dX11_greatestIndex_0 rfl (by decide) ?_
  refine vi_istore_n C dX11_greatestIndex_1 rfl (by decide) ?_
  refine vi_iconst (v := 0) C dX11_greatestIndex_2 rfl (by decide) ?_
  refine vi_istore_n C dX11_greatestIndex_3 rfl (by decide) ?_
  refine vi_cut [(0, .ref (ad z x 11 (0))), (1, .int ((0 : Int32))), (2, .int ((0 : Int32)))] ⟨rfl, rfl, rfl, trivial⟩ (w_X11_greatestIndex_4  C ?_ _ _ _ _ h _ hR hF)
  · intro M7 l8 h S hR hF
    refine vi_iload_n C dX11_greatestIndex_48 rfl rfl ?_
    exact c_ret1 C dX11_greatestIndex_49 rfl hR hF ⟨Nat.zero_le _, Nat.zero_le _⟩ h

def L_X11_waitingSessions_4 {ρ : Type} (N : Nat)  (kx32 : vC → Int32 → Option ρ) : Nat → vC → Int32 → Int32 → Option ρ
  | 0, _, _, _ => none
  | f + 1, M, l1, l2 => if (16 : Int32) ≤ l2 then (kx32 M (l1)) else ((ix 16 (l2)).bind fun v1 => if (cI M 901 (v1)) = (2 : Int32) then (L_X11_waitingSessions_4 N  kx32 f M ((l1 + (1))) ((l2 + (1)))) else (L_X11_waitingSessions_4 N  kx32 f M (l1) ((l2 + (1)))))

def F_X11_waitingSessions (N : Nat) (M : vC)  : Option (vC × Int32) := L_X11_waitingSessions_4 N  (fun (M5 : vC) (l6 : Int32) => some (M5, l6)) fu M ((0 : Int32)) ((0 : Int32))

set_option maxRecDepth 100000 in
set_option maxHeartbeats 4000000 in
theorem w_X11_waitingSessions_4 {E : vE} {X : vX} {S0 : vS} {z x N d0 : Nat} {ρ : Type} {R : ρ} {Z : State → Prop}  {kx32 : vC → Int32 → Option ρ}  (C : vi_C E X yX11_waitingSessions cX11_waitingSessions 3 (some .int) 0 0 0 (45 * 0)) (hx32 : ∀ (M : vC) (l1 : Int32), kx32 M l1 = some R → ∀ S, RC S z x N d0 M → cF S0 S z x N d0 → vi_W E X 3 Z 32 [(1, .int (l1))] [] S (cz M) 0 0) : ∀ (f : Nat) (M : vC) (l1 : Int32) (l2 : Int32), L_X11_waitingSessions_4 N  kx32 f M l1 l2 = some R → ∀ S, RC S z x N d0 M → cF S0 S z x N d0 → vi_W E X 3 Z 4 [(0, .ref (ad z x 11 (0))), (1, .int (l1)), (2, .int (l2))] [] S (cz M) 0 0 := by
  intro f
  induction f with
  | zero => intro M l1 l2 h; cases h
  | succ f ih =>
    intro M l1 l2 h S hR hF
    rw [L_X11_waitingSessions_4] at h
    refine vi_iload_n C dX11_waitingSessions_4 rfl rfl ?_
    refine vi_bipush (v := 16) C dX11_waitingSessions_5 rfl (by decide) ?_
    refine vi_icmp_ge (t' := 32) C dX11_waitingSessions_7 rfl (by decide) (fun c4 => ?_) (fun c4 => ?_)
    · replace h := iT c4 h
      exact (vi_cut [(1, .int (l1))] ⟨rfl, trivial⟩ (hx32 _ _ h _ hR hF))
    · replace h := iN c4 h
      refine vi_aload_n C dX11_waitingSessions_10 rfl rfl ?_
      refine c_gets (k := 11) (i := 0) C dX11_waitingSessions_11 rfl fX11_46 rfl (by decide) rfl hR (rfl : 0 = 0) rfl ?_
      refine vi_iload_n C dX11_waitingSessions_14 rfl rfl ?_
      refine c_aaloadS C dX11_waitingSessions_15 rfl hR h (fun v1 c2 h => ?_)
      refine c_geti (k := 9) (i := v1) C dX11_waitingSessions_16 rfl fX11_82 rfl (by decide) rfl hR c2 ?_
      refine vi_iconst (v := 2) C dX11_waitingSessions_19 rfl (by decide) ?_
      refine vi_icmp_ne (t' := 26) C dX11_waitingSessions_20 rfl (by decide) (fun c3 => ?_) (fun c3 => ?_)
      · replace h := iN c3 h
        refine vi_iincv (v := 1) C dX11_waitingSessions_26 rfl rfl (by decide) (by decide) ?_
        refine vi_goto (t' := 4) C dX11_waitingSessions_29 (by decide) ?_
        exact vi_cut [(0, .ref (ad z x 11 (0))), (1, .int (l1)), (2, .int ((l2 + (1))))] ⟨rfl, rfl, rfl, trivial⟩ (ih _ _ _ h _ hR hF)
      · replace h := iT c3 h
        refine vi_iincv (v := 1) C dX11_waitingSessions_23 rfl rfl (by decide) (by decide) ?_
        refine vi_iincv (v := 1) C dX11_waitingSessions_26 rfl rfl (by decide) (by decide) ?_
        refine vi_goto (t' := 4) C dX11_waitingSessions_29 (by decide) ?_
        exact vi_cut [(0, .ref (ad z x 11 (0))), (1, .int ((l1 + (1)))), (2, .int ((l2 + (1))))] ⟨rfl, rfl, rfl, trivial⟩ (ih _ _ _ h _ hR hF)

set_option maxRecDepth 100000 in
set_option maxHeartbeats 4000000 in
theorem p_X11_waitingSessions {N : Nat} {M : vC} {R : (vC × Int32)}   (h : F_X11_waitingSessions N M  = some R) {E : vE} {S0 : vS} {z x d0 : Nat} (hR : RC S0 z x N d0 M) : vi_Met E yX11_waitingSessions cX11_waitingSessions 3 (some .int) 0 0 0 [.ref (ad z x 11 (0))] S0 (cz M) (D1 S0 z x N d0 R) := by
  refine vi_met (by decide) (Nat.le_of_ble_eq_true rfl) ?_
  intro X C
  have hF := cF.refl S0 z x N d0
  unfold F_X11_waitingSessions at h
  refine vi_iconst (v := 0) C dX11_waitingSessions_0 rfl (by decide) ?_
  refine vi_istore_n C dX11_waitingSessions_1 rfl (by decide) ?_
  refine vi_iconst (v := 0) C dX11_waitingSessions_2 rfl (by decide) ?_
  refine vi_istore_n C dX11_waitingSessions_3 rfl (by decide) ?_
  refine vi_cut [(0, .ref (ad z x 11 (0))), (1, .int ((0 : Int32))), (2, .int ((0 : Int32)))] ⟨rfl, rfl, rfl, trivial⟩ (w_X11_waitingSessions_4  C ?_ _ _ _ _ h _ hR hF)
  · intro M5 l6 h S hR hF
    refine vi_iload_n C dX11_waitingSessions_32 rfl rfl ?_
    exact c_ret1 C dX11_waitingSessions_33 rfl hR hF ⟨Nat.zero_le _, Nat.zero_le _⟩ h

def F_X11_lookAt (N : Nat) (M : vC) (a1 : Int32) : Option (vC × Int32) := if a1 = 0 then (some (M, (Int32.ofNat N))) else if a1 = 1 then (some (M, (cI M 1100 (0)))) else if a1 = 2 then (some (M, (cI M 1101 (0)))) else if a1 = 3 then (some (M, (cI M 303 (0)))) else if a1 = 4 then (some (M, (cI M 304 (0)))) else if a1 = 5 then (some (M, (cI M 305 (0)))) else if a1 = 6 then (b2 (F_X11_greatestIndex N M ) fun M8 v9 => some (M8, v9)) else if a1 = 7 then (b2 (F_X11_waitingSessions N M ) fun M11 v12 => some (M11, v12)) else if a1 = 8 then (some (M, (cI M 1102 (0)))) else if a1 = 9 then (some (M, (cI M 306 (0)))) else (some (M, (-1 : Int32)))

set_option maxRecDepth 100000 in
set_option maxHeartbeats 4000000 in
theorem p_X11_lookAt {N : Nat} {M : vC} {R : (vC × Int32)} {a1 : Int32}  (h : F_X11_lookAt N M a1 = some R) {E : vE} {S0 : vS} {z x d0 : Nat} (hR : RC S0 z x N d0 M) : vi_Met E yX11_lookAt cX11_lookAt 2 (some .int) 2 0 0 [.ref (ad z x 11 (0)), .int (a1)] S0 (cz M) (D1 S0 z x N d0 R) := by
  refine vi_met (by decide) (Nat.le_of_ble_eq_true rfl) ?_
  intro X C
  have hF := cF.refl S0 z x N d0
  unfold F_X11_lookAt at h
  refine vi_iload_n C dX11_lookAt_0 rfl rfl ?_
  by_cases c2 : a1 = 0
  · replace h := iT c2 h
    refine vi_tswI (v := 0) (t' := 56) C c2 dX11_lookAt_1 (by decide) (by decide) rfl (by decide) ?_
    refine vi_aload_n C dX11_lookAt_56 rfl rfl ?_
    refine c_gets (k := 11) (i := 0) C dX11_lookAt_57 rfl fX11_53 rfl (by decide) rfl hR (rfl : 0 = 0) rfl ?_
    refine c_alenR C dX11_lookAt_60 rfl hR ?_
    exact c_ret1 C dX11_lookAt_61 rfl hR hF ⟨Nat.zero_le _, Nat.zero_le _⟩ h
  replace h := iN c2 h
  by_cases c3 : a1 = 1
  · replace h := iT c3 h
    refine vi_tswI (v := 1) (t' := 62) C c3 dX11_lookAt_1 (by decide) (by decide) rfl (by decide) ?_
    refine vi_aload_n C dX11_lookAt_62 rfl rfl ?_
    refine c_geti (k := 11) (i := 0) C dX11_lookAt_63 rfl fX11_18 rfl (by decide) rfl hR (rfl : 0 = 0) ?_
    exact c_ret1 C dX11_lookAt_66 rfl hR hF ⟨Nat.zero_le _, Nat.zero_le _⟩ h
  replace h := iN c3 h
  by_cases c4 : a1 = 2
  · replace h := iT c4 h
    refine vi_tswI (v := 2) (t' := 67) C c4 dX11_lookAt_1 (by decide) (by decide) rfl (by decide) ?_
    refine vi_aload_n C dX11_lookAt_67 rfl rfl ?_
    refine c_geti (k := 11) (i := 0) C dX11_lookAt_68 rfl fX11_22 rfl (by decide) rfl hR (rfl : 0 = 0) ?_
    exact c_ret1 C dX11_lookAt_71 rfl hR hF ⟨Nat.zero_le _, Nat.zero_le _⟩ h
  replace h := iN c4 h
  by_cases c5 : a1 = 3
  · replace h := iT c5 h
    refine vi_tswI (v := 3) (t' := 72) C c5 dX11_lookAt_1 (by decide) (by decide) rfl (by decide) ?_
    refine vi_aload_n C dX11_lookAt_72 rfl rfl ?_
    refine c_gets (k := 11) (i := 0) C dX11_lookAt_73 rfl fX11_40 rfl (by decide) rfl hR (rfl : 0 = 0) rfl ?_
    refine c_geti (k := 3) (i := 0) C dX11_lookAt_76 rfl fX11_165 rfl (by decide) rfl hR (rfl : 0 = 0) ?_
    exact c_ret1 C dX11_lookAt_79 rfl hR hF ⟨Nat.zero_le _, Nat.zero_le _⟩ h
  replace h := iN c5 h
  by_cases c6 : a1 = 4
  · replace h := iT c6 h
    refine vi_tswI (v := 4) (t' := 80) C c6 dX11_lookAt_1 (by decide) (by decide) rfl (by decide) ?_
    refine vi_aload_n C dX11_lookAt_80 rfl rfl ?_
    refine c_gets (k := 11) (i := 0) C dX11_lookAt_81 rfl fX11_40 rfl (by decide) rfl hR (rfl : 0 = 0) rfl ?_
    refine c_geti (k := 3) (i := 0) C dX11_lookAt_84 rfl fX11_255 rfl (by decide) rfl hR (rfl : 0 = 0) ?_
    exact c_ret1 C dX11_lookAt_87 rfl hR hF ⟨Nat.zero_le _, Nat.zero_le _⟩ h
  replace h := iN c6 h
  by_cases c7 : a1 = 5
  · replace h := iT c7 h
    refine vi_tswI (v := 5) (t' := 88) C c7 dX11_lookAt_1 (by decide) (by decide) rfl (by decide) ?_
    refine vi_aload_n C dX11_lookAt_88 rfl rfl ?_
    refine c_gets (k := 11) (i := 0) C dX11_lookAt_89 rfl fX11_40 rfl (by decide) rfl hR (rfl : 0 = 0) rfl ?_
    refine c_geti (k := 3) (i := 0) C dX11_lookAt_92 rfl fX11_258 rfl (by decide) rfl hR (rfl : 0 = 0) ?_
    exact c_ret1 C dX11_lookAt_95 rfl hR hF ⟨Nat.zero_le _, Nat.zero_le _⟩ h
  replace h := iN c7 h
  by_cases c10 : a1 = 6
  · replace h := iT c10 h
    refine vi_tswI (v := 6) (t' := 96) C c10 dX11_lookAt_1 (by decide) (by decide) rfl (by decide) ?_
    refine vi_aload_n C dX11_lookAt_96 rfl rfl ?_
    refine c_cv1 (kc := 11) (a := (ad z x 11 (0))) C [] [] dX11_lookAt_97 rfl ivX11_261 imX11_greatestIndex rfl rfl (rcK hR (rfl : 0 = 0)) hR hF h (fun _ e => p_X11_greatestIndex  e hR) rfl (Nat.le_of_ble_eq_true rfl) ⟨by decide, by decide⟩ ⟨Nat.le_refl _, Nat.le_refl _⟩ (fun S M8 v9 h hR hF => ?_)
    exact c_ret1 C dX11_lookAt_100 rfl hR hF ⟨Nat.zero_le _, Nat.zero_le _⟩ h
  replace h := iN c10 h
  by_cases c13 : a1 = 7
  · replace h := iT c13 h
    refine vi_tswI (v := 7) (t' := 101) C c13 dX11_lookAt_1 (by decide) (by decide) rfl (by decide) ?_
    refine vi_aload_n C dX11_lookAt_101 rfl rfl ?_
    refine c_cv1 (kc := 11) (a := (ad z x 11 (0))) C [] [] dX11_lookAt_102 rfl ivX11_265 imX11_waitingSessions rfl rfl (rcK hR (rfl : 0 = 0)) hR hF h (fun _ e => p_X11_waitingSessions  e hR) rfl (Nat.le_of_ble_eq_true rfl) ⟨by decide, by decide⟩ ⟨Nat.le_refl _, Nat.le_refl _⟩ (fun S M11 v12 h hR hF => ?_)
    exact c_ret1 C dX11_lookAt_105 rfl hR hF ⟨Nat.zero_le _, Nat.zero_le _⟩ h
  replace h := iN c13 h
  by_cases c14 : a1 = 8
  · replace h := iT c14 h
    refine vi_tswI (v := 8) (t' := 106) C c14 dX11_lookAt_1 (by decide) (by decide) rfl (by decide) ?_
    refine vi_aload_n C dX11_lookAt_106 rfl rfl ?_
    refine c_geti (k := 11) (i := 0) C dX11_lookAt_107 rfl fX11_25 rfl (by decide) rfl hR (rfl : 0 = 0) ?_
    exact c_ret1 C dX11_lookAt_110 rfl hR hF ⟨Nat.zero_le _, Nat.zero_le _⟩ h
  replace h := iN c14 h
  by_cases c15 : a1 = 9
  · replace h := iT c15 h
    refine vi_tswI (v := 9) (t' := 111) C c15 dX11_lookAt_1 (by decide) (by decide) rfl (by decide) ?_
    refine vi_aload_n C dX11_lookAt_111 rfl rfl ?_
    refine c_gets (k := 11) (i := 0) C dX11_lookAt_112 rfl fX11_40 rfl (by decide) rfl hR (rfl : 0 = 0) rfl ?_
    refine c_geti (k := 3) (i := 0) C dX11_lookAt_115 rfl fX11_178 rfl (by decide) rfl hR (rfl : 0 = 0) ?_
    exact c_ret1 C dX11_lookAt_118 rfl hR hF ⟨Nat.zero_le _, Nat.zero_le _⟩ h
  replace h := iN c15 h
  have tc2 := tne (w := 0) c2 (by decide)
  have tc3 := tne (w := 1) c3 (by decide)
  have tc4 := tne (w := 2) c4 (by decide)
  have tc5 := tne (w := 3) c5 (by decide)
  have tc6 := tne (w := 4) c6 (by decide)
  have tc7 := tne (w := 5) c7 (by decide)
  have tc10 := tne (w := 6) c10 (by decide)
  have tc13 := tne (w := 7) c13 (by decide)
  have tc14 := tne (w := 8) c14 (by decide)
  have tc15 := tne (w := 9) c15 (by decide)
  refine vi_tswO (t' := 119) C dX11_lookAt_1 (by omega) (by decide) ?_
  refine vi_iconst (v := -1) C dX11_lookAt_119 rfl (by decide) ?_
  exact c_ret1 C dX11_lookAt_120 rfl hR hF ⟨Nat.zero_le _, Nat.zero_le _⟩ h
