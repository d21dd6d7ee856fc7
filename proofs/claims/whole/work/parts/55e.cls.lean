def F_X9_read (N : Nat) (M : vC) (a0 : Nat) (a1 : Int32) (a2 : Nat) : Option (vC × Int32) := b2 (F_X11_isIn N M (a1) ((cI M 906 (a0)))) fun M1 v2 => if v2 = 0 then (lt1 (uI M1 905 (a0) (((cI M1 905 (a0)) ||| ((1 : Int32) <<< (a1 &&& 31))))) fun M3 => b2 (F_X10_valueOf N M3 (a2) (a1) ((cI M3 904 (a0)))) fun M4 v5 => some (M4, v5)) else ((cG M1 900 (a0) (a1)).bind fun v6 => some (M1, v6))

set_option maxRecDepth 100000 in
set_option maxHeartbeats 4000000 in
theorem p_X9_read {N : Nat} {M : vC} {R : (vC × Int32)} {a0 : Nat} {a1 : Int32} {a2 : Nat} (ha0 : a0 < 16) (ha2 : a2 < N) (h : F_X9_read N M a0 a1 a2 = some R) {E : vE} {S0 : vS} {z x d0 : Nat} (hR : RC S0 z x N d0 M) : vi_Met E yX9_read cX9_read 3 (some .int) 3 0 0 [.ref (ad z x 9 (a0)), .int (a1), .ref (ad z x 10 (a2))] S0 (cz M) (D1 S0 z x N d0 R) := by
  refine vi_met (by decide) (Nat.le_of_ble_eq_true rfl) ?_
  intro X C
  have hF := cF.refl S0 z x N d0
  unfold F_X9_read at h
  refine vi_iload_n C dX9_read_0 rfl rfl ?_
  refine vi_aload_n C dX9_read_1 rfl rfl ?_
  refine c_geti (f := 906) (k := 9) (i := a0) C dX9_read_2 rfl fX9_32 rfl (by decide) rfl hR ha0 ?_
  refine c_cs1 C [.int (a1), .int ((cI M 906 (a0)))] [] dX9_read_5 rfl ivX9_35 isX11_isIn hR hF h (fun _ e => p_X11_isIn  e hR) rfl (Nat.le_of_ble_eq_true rfl) ⟨by decide, by decide⟩ ⟨Nat.le_refl _, Nat.le_refl _⟩ (fun S M1 v2 h hR hF => ?_)
  refine vi_if_eq (t' := 18) C dX9_read_8 rfl (by decide) (fun c7 => ?_) (fun c7 => ?_)
  · replace h := iT c7 h
    refine vi_aload_n C dX9_read_18 rfl rfl ?_
    refine vi_dup C dX9_read_19 rfl rfl ?_
    refine c_geti (f := 905) (k := 9) (i := a0) C dX9_read_20 rfl fX9_29 rfl (by decide) rfl hR ha0 ?_
    refine vi_iconst (v := 1) C dX9_read_23 rfl (by decide) ?_
    refine vi_iload_n C dX9_read_24 rfl rfl ?_
    refine vi_ishl C dX9_read_25 rfl ?_
    refine vi_ior C dX9_read_26 rfl ?_
    refine c_puti (f := 905) (k := 9) (i := a0) C dX9_read_27 rfl (fpX9_29 _) rfl (by decide) rfl hR hF ha0 h (fun S M3 h hR hF => ?_)
    refine vi_aload_n C dX9_read_30 rfl rfl ?_
    refine vi_iload_n C dX9_read_31 rfl rfl ?_
    refine vi_aload_n C dX9_read_32 rfl rfl ?_
    refine c_geti (f := 904) (k := 9) (i := a0) C dX9_read_33 rfl fX9_22 rfl (by decide) rfl hR ha0 ?_
    refine c_cv1 (kc := 10) (a := (ad z x 10 (a2))) C [.int (a1), .int ((cI M3 904 (a0)))] [] dX9_read_36 rfl ivX9_39 imX10_valueOf rfl rfl (rcK hR ha2) hR hF h (fun _ e => p_X10_valueOf ha2 e hR) rfl (Nat.le_of_ble_eq_true rfl) ⟨by decide, by decide⟩ ⟨Nat.le_refl _, Nat.le_refl _⟩ (fun S M4 v5 h hR hF => ?_)
    exact c_ret1 C dX9_read_39 rfl hR hF ⟨Nat.zero_le _, Nat.zero_le _⟩ h
  · replace h := iN c7 h
    refine vi_aload_n C dX9_read_11 rfl rfl ?_
    refine c_gets (f := 900) (k := 9) (i := a0) C dX9_read_12 rfl fX9_9 rfl (by decide) rfl hR ha0 rfl ?_
    refine vi_iload_n C dX9_read_15 rfl rfl ?_
    refine c_iaload C dX9_read_16 rfl rfl hR ⟨ha0, by decide⟩ h (fun v6 h => ?_)
    exact c_ret1 C dX9_read_17 rfl hR hF ⟨Nat.zero_le _, Nat.zero_le _⟩ h

def F_X9_write (N : Nat) (M : vC) (a0 : Nat) (a1 : Int32) (a2 : Int32) : Option vC := lt1 (uI M 906 (a0) (((cI M 906 (a0)) ||| ((1 : Int32) <<< (a1 &&& 31))))) fun M1 => (cS M1 900 (a0) (a1) (a2)).bind fun M2 => some M2

set_option maxRecDepth 100000 in
set_option maxHeartbeats 4000000 in
theorem p_X9_write {N : Nat} {M : vC} {R : vC} {a0 : Nat} {a1 : Int32} {a2 : Int32} (ha0 : a0 < 16) (h : F_X9_write N M a0 a1 a2 = some R) {E : vE} {S0 : vS} {z x d0 : Nat} (hR : RC S0 z x N d0 M) : vi_Met E yX9_write cX9_write 3 none 0 0 0 [.ref (ad z x 9 (a0)), .int (a1), .int (a2)] S0 (cz M) (D0 S0 z x N d0 R) := by
  refine vi_met (by decide) (Nat.le_of_ble_eq_true rfl) ?_
  intro X C
  have hF := cF.refl S0 z x N d0
  unfold F_X9_write at h
  refine vi_aload_n C dX9_write_0 rfl rfl ?_
  refine vi_dup C dX9_write_1 rfl rfl ?_
  refine c_geti (f := 906) (k := 9) (i := a0) C dX9_write_2 rfl fX9_32 rfl (by decide) rfl hR ha0 ?_
  refine vi_iconst (v := 1) C dX9_write_5 rfl (by decide) ?_
  refine vi_iload_n C dX9_write_6 rfl rfl ?_
  refine vi_ishl C dX9_write_7 rfl ?_
  refine vi_ior C dX9_write_8 rfl ?_
  refine c_puti (f := 906) (k := 9) (i := a0) C dX9_write_9 rfl (fpX9_32 _) rfl (by decide) rfl hR hF ha0 h (fun S M1 h hR hF => ?_)
  refine vi_aload_n C dX9_write_12 rfl rfl ?_
  refine c_gets (f := 900) (k := 9) (i := a0) C dX9_write_13 rfl fX9_9 rfl (by decide) rfl hR ha0 rfl ?_
  refine vi_iload_n C dX9_write_16 rfl rfl ?_
  refine vi_iload_n C dX9_write_17 rfl rfl ?_
  refine c_iastore C dX9_write_18 rfl rfl hR hF ⟨ha0, by decide⟩ h (fun S M2 h hR hF => ?_)
  exact c_ret0 C dX9_write_19 rfl hR hF ⟨Nat.zero_le _, Nat.zero_le _⟩ h

def F_X9_ask (N : Nat) (M : vC) (a0 : Nat) (a1 : Int32) : Option vC := lt1 (uI M 901 (a0) ((2 : Int32))) fun M1 => lt1 (uI M1 902 (a0) (((cI M1 902 (a0)) + (1 : Int32)))) fun M2 => lt1 (nQ M2) fun M3 => lt1 (uDW (nD M3 21 16) (cz M3) (cR M3 900 (a0))) fun M5 => gd (cK M5 (cz M3) = 21) <| gd (cK M5 (cz M2) = 9) <| (F_X8_init N M5 (cz M2) (a1) ((cI M3 902 (a0))) ((cI M3 904 (a0))) ((cI M3 905 (a0))) ((cI M3 906 (a0))) (some (cz M3))).bind fun M9 => lt1 (uP M9 908 (a0) (some (cz M2))) fun M10 => some M10

set_option maxRecDepth 100000 in
set_option maxHeartbeats 4000000 in
theorem p_X9_ask {N : Nat} {M : vC} {R : vC} {a0 : Nat} {a1 : Int32} (ha0 : a0 < 16) (h : F_X9_ask N M a0 a1 = some R) {E : vE} {S0 : vS} {z x d0 : Nat} (hR : RC S0 z x N d0 M) : vi_Met E yX9_ask cX9_ask 2 none 2 2 22 [.ref (ad z x 9 (a0)), .int (a1)] S0 (cz M) (D0 S0 z x N d0 R) := by
  refine vi_met (by decide) (Nat.le_of_ble_eq_true rfl) ?_
  intro X C
  have hF := cF.refl S0 z x N d0
  unfold F_X9_ask at h
  refine vi_aload_n C dX9_ask_0 rfl rfl ?_
  refine vi_iconst (v := 2) C dX9_ask_1 rfl (by decide) ?_
  refine c_puti (f := 901) (k := 9) (i := a0) C dX9_ask_2 rfl (fpX9_15 _) rfl (by decide) rfl hR hF ha0 h (fun S M1 h hR hF => ?_)
  refine vi_aload_n C dX9_ask_5 rfl rfl ?_
  refine vi_dup C dX9_ask_6 rfl rfl ?_
  refine c_geti (f := 902) (k := 9) (i := a0) C dX9_ask_7 rfl fX9_45 rfl (by decide) rfl hR ha0 ?_
  refine vi_iconst (v := 1) C dX9_ask_10 rfl (by decide) ?_
  refine vi_iadd C dX9_ask_11 rfl ?_
  refine c_puti (f := 902) (k := 9) (i := a0) C dX9_ask_12 rfl (fpX9_45 _) rfl (by decide) rfl hR hF ha0 h (fun S M2 h hR hF => ?_)
  refine vi_aload_n C dX9_ask_15 rfl rfl ?_
  refine c_new C dX9_ask_16 rfl nlX9_48 (by omega) (by omega) hR hF h (fun S M3 e4 h hR hF => ?_)
  refine vi_dup C dX9_ask_19 rfl rfl ?_
  refine vi_iload_n C dX9_ask_20 rfl rfl ?_
  refine vi_aload_n C dX9_ask_21 rfl rfl ?_
  refine c_geti (f := 902) (k := 9) (i := a0) C dX9_ask_22 rfl fX9_45 rfl (by decide) rfl hR ha0 ?_
  refine vi_aload_n C dX9_ask_25 rfl rfl ?_
  refine c_geti (f := 904) (k := 9) (i := a0) C dX9_ask_26 rfl fX9_22 rfl (by decide) rfl hR ha0 ?_
  refine vi_aload_n C dX9_ask_29 rfl rfl ?_
  refine c_geti (f := 905) (k := 9) (i := a0) C dX9_ask_30 rfl fX9_29 rfl (by decide) rfl hR ha0 ?_
  refine vi_aload_n C dX9_ask_33 rfl rfl ?_
  refine c_geti (f := 906) (k := 9) (i := a0) C dX9_ask_34 rfl fX9_32 rfl (by decide) rfl hR ha0 ?_
  refine vi_aload_n C dX9_ask_37 rfl rfl ?_
  refine c_gets (f := 900) (k := 9) (i := a0) C dX9_ask_38 rfl fX9_9 rfl (by decide) rfl hR ha0 rfl ?_
  refine c_clone C dX9_ask_41 rfl clX9_50 ha0 (by decide) (Nat.le_of_ble_eq_true rfl) (by omega) (by omega) hR hF h (fun S M5 e6 h hR hF => ?_)
  obtain ⟨c7, h⟩ := gdo h
  refine c_castI C dX9_ask_44 rfl ccX9_51 hR c7 ?_
  obtain ⟨c8, h⟩ := gdo h
  refine c_ci (ret' := none) (a := (cz M2)) C [.int (a1), .int ((cI M3 902 (a0))), .int ((cI M3 904 (a0))), .int ((cI M3 905 (a0))), .int ((cI M3 906 (a0))), .ref (cz M3)] [.ref (cz M2), .ref (ad z x 9 (a0))] dX9_ask_47 rfl ivX9_55 iiX8_init hR hF h (fun _ e => p_X8_init  e hR) rfl (Nat.le_of_ble_eq_true rfl) ⟨by decide, by decide⟩ ⟨by omega, by omega⟩ (fun S M9 h hR hF => ?_)
  refine c_putp (f := 908) (k := 9) (i := a0) (v := (some (cz M2))) C dX9_ask_50 rfl (fpX9_58 _) rfl (by decide) rfl hR hF ha0 rfl h (fun S M10 h hR hF => ?_)
  exact c_ret0 C dX9_ask_53 rfl hR hF ⟨by omega, by omega⟩ h

def F_X9_tell (N : Nat) (M : vC) (a0 : Nat) (a1 : Int32) : Option (vC × Int32) := if a1 = 0 then (some (M, (cI M 901 (a0)))) else if a1 = 1 then (some (M, (cI M 902 (a0)))) else if a1 = 2 then (some (M, (cI M 903 (a0)))) else if a1 = 3 then (some (M, (cI M 904 (a0)))) else if a1 = 4 then (some (M, (cI M 905 (a0)))) else if a1 = 5 then (some (M, (cI M 906 (a0)))) else (some (M, (-1 : Int32)))

set_option maxRecDepth 100000 in
set_option maxHeartbeats 4000000 in
theorem p_X9_tell {N : Nat} {M : vC} {R : (vC × Int32)} {a0 : Nat} {a1 : Int32} (ha0 : a0 < 16) (h : F_X9_tell N M a0 a1 = some R) {E : vE} {S0 : vS} {z x d0 : Nat} (hR : RC S0 z x N d0 M) : vi_Met E yX9_tell cX9_tell 2 (some .int) 0 0 0 [.ref (ad z x 9 (a0)), .int (a1)] S0 (cz M) (D1 S0 z x N d0 R) := by
  refine vi_met (by decide) (Nat.le_of_ble_eq_true rfl) ?_
  intro X C
  have hF := cF.refl S0 z x N d0
  unfold F_X9_tell at h
  refine vi_iload_n C dX9_tell_0 rfl rfl ?_
  by_cases c2 : a1 = 0
  · replace h := iT c2 h
    refine vi_tswI (v := 0) (t' := 40) C c2 dX9_tell_1 (by decide) (by decide) rfl (by decide) ?_
    refine vi_aload_n C dX9_tell_40 rfl rfl ?_
    refine c_geti (f := 901) (k := 9) (i := a0) C dX9_tell_41 rfl fX9_15 rfl (by decide) rfl hR ha0 ?_
    exact c_ret1 C dX9_tell_44 rfl hR hF ⟨Nat.zero_le _, Nat.zero_le _⟩ h
  replace h := iN c2 h
  by_cases c3 : a1 = 1
  · replace h := iT c3 h
    refine vi_tswI (v := 1) (t' := 45) C c3 dX9_tell_1 (by decide) (by decide) rfl (by decide) ?_
    refine vi_aload_n C dX9_tell_45 rfl rfl ?_
    refine c_geti (f := 902) (k := 9) (i := a0) C dX9_tell_46 rfl fX9_45 rfl (by decide) rfl hR ha0 ?_
    exact c_ret1 C dX9_tell_49 rfl hR hF ⟨Nat.zero_le _, Nat.zero_le _⟩ h
  replace h := iN c3 h
  by_cases c4 : a1 = 2
  · replace h := iT c4 h
    refine vi_tswI (v := 2) (t' := 50) C c4 dX9_tell_1 (by decide) (by decide) rfl (by decide) ?_
    refine vi_aload_n C dX9_tell_50 rfl rfl ?_
    refine c_geti (f := 903) (k := 9) (i := a0) C dX9_tell_51 rfl fX9_19 rfl (by decide) rfl hR ha0 ?_
    exact c_ret1 C dX9_tell_54 rfl hR hF ⟨Nat.zero_le _, Nat.zero_le _⟩ h
  replace h := iN c4 h
  by_cases c5 : a1 = 3
  · replace h := iT c5 h
    refine vi_tswI (v := 3) (t' := 55) C c5 dX9_tell_1 (by decide) (by decide) rfl (by decide) ?_
    refine vi_aload_n C dX9_tell_55 rfl rfl ?_
    refine c_geti (f := 904) (k := 9) (i := a0) C dX9_tell_56 rfl fX9_22 rfl (by decide) rfl hR ha0 ?_
    exact c_ret1 C dX9_tell_59 rfl hR hF ⟨Nat.zero_le _, Nat.zero_le _⟩ h
  replace h := iN c5 h
  by_cases c6 : a1 = 4
  · replace h := iT c6 h
    refine vi_tswI (v := 4) (t' := 60) C c6 dX9_tell_1 (by decide) (by decide) rfl (by decide) ?_
    refine vi_aload_n C dX9_tell_60 rfl rfl ?_
    refine c_geti (f := 905) (k := 9) (i := a0) C dX9_tell_61 rfl fX9_29 rfl (by decide) rfl hR ha0 ?_
    exact c_ret1 C dX9_tell_64 rfl hR hF ⟨Nat.zero_le _, Nat.zero_le _⟩ h
  replace h := iN c6 h
  by_cases c7 : a1 = 5
  · replace h := iT c7 h
    refine vi_tswI (v := 5) (t' := 65) C c7 dX9_tell_1 (by decide) (by decide) rfl (by decide) ?_
    refine vi_aload_n C dX9_tell_65 rfl rfl ?_
    refine c_geti (f := 906) (k := 9) (i := a0) C dX9_tell_66 rfl fX9_32 rfl (by decide) rfl hR ha0 ?_
    exact c_ret1 C dX9_tell_69 rfl hR hF ⟨Nat.zero_le _, Nat.zero_le _⟩ h
  replace h := iN c7 h
  have tc2 := tne (w := 0) c2 (by decide)
  have tc3 := tne (w := 1) c3 (by decide)
  have tc4 := tne (w := 2) c4 (by decide)
  have tc5 := tne (w := 3) c5 (by decide)
  have tc6 := tne (w := 4) c6 (by decide)
  have tc7 := tne (w := 5) c7 (by decide)
  refine vi_tswO (t' := 70) C dX9_tell_1 (by omega) (by decide) ?_
  refine vi_iconst (v := -1) C dX9_tell_70 rfl (by decide) ?_
  exact c_ret1 C dX9_tell_71 rfl hR hF ⟨Nat.zero_le _, Nat.zero_le _⟩ h

def F_X11_sessionNumber (N : Nat) (M : vC) (a1 : Int32) : Option (vC × Option Nat) := if a1 < 0 then (some (M, none)) else (if (16 : Int32) ≤ a1 then (some (M, none)) else ((ix 16 (a1)).bind fun v1 => some (M, (some (v1)))))

set_option maxRecDepth 100000 in
set_option maxHeartbeats 4000000 in
theorem p_X11_sessionNumber {N : Nat} {M : vC} {R : (vC × Option Nat)} {a1 : Int32}  (h : F_X11_sessionNumber N M a1 = some R) {E : vE} {S0 : vS} {z x d0 : Nat} (hR : RC S0 z x N d0 M) : vi_Met E yX11_sessionNumber cX11_sessionNumber 2 (some (.object "SnapCluster$Session")) 0 0 0 [.ref (ad z x 11 (0)), .int (a1)] S0 (cz M) (D3 9 S0 z x N d0 R) := by
  refine vi_met (by decide) (Nat.le_of_ble_eq_true rfl) ?_
  intro X C
  have hF := cF.refl S0 z x N d0
  unfold F_X11_sessionNumber at h
  refine vi_iload_n C dX11_sessionNumber_0 rfl rfl ?_
  refine vi_if_lt (t' := 19) C dX11_sessionNumber_1 rfl (by decide) (fun c4 => ?_) (fun c4 => ?_)
  · replace h := iT c4 h
    refine vi_null C dX11_sessionNumber_19 rfl ?_
    exact c_ret3 (k := 9) (v := none) C dX11_sessionNumber_20 rfl (Or.inl ⟨_, rfl⟩) hR hF ⟨Nat.zero_le _, Nat.zero_le _⟩ h
  · replace h := iN c4 h
    refine vi_iload_n C dX11_sessionNumber_4 rfl rfl ?_
    refine vi_bipush (v := 16) C dX11_sessionNumber_5 rfl (by decide) ?_
    refine vi_icmp_ge (t' := 19) C dX11_sessionNumber_7 rfl (by decide) (fun c3 => ?_) (fun c3 => ?_)
    · replace h := iT c3 h
      refine vi_null C dX11_sessionNumber_19 rfl ?_
      exact c_ret3 (k := 9) (v := none) C dX11_sessionNumber_20 rfl (Or.inl ⟨_, rfl⟩) hR hF ⟨Nat.zero_le _, Nat.zero_le _⟩ h
    · replace h := iN c3 h
      refine vi_aload_n C dX11_sessionNumber_10 rfl rfl ?_
      refine c_gets (f := 1104) (k := 11) (i := 0) C dX11_sessionNumber_11 rfl fX11_46 rfl (by decide) rfl hR (rfl : 0 = 0) rfl ?_
      refine vi_iload_n C dX11_sessionNumber_14 rfl rfl ?_
      refine c_aaloadS C dX11_sessionNumber_15 rfl hR h (fun v1 c2 h => ?_)
      refine vi_goto (t' := 20) C dX11_sessionNumber_16 (by decide) ?_
      exact c_ret3 (k := 9) (v := (some (v1))) C dX11_sessionNumber_20 rfl (Or.inl ⟨_, rfl⟩) hR hF ⟨Nat.zero_le _, Nat.zero_le _⟩ h

def F_X11_replicaNumber (N : Nat) (M : vC) (a1 : Int32) : Option (vC × Option Nat) := if a1 < 0 then (some (M, none)) else (if (Int32.ofNat N) ≤ a1 then (some (M, none)) else ((ix N (a1)).bind fun v1 => some (M, (some (v1)))))

set_option maxRecDepth 100000 in
set_option maxHeartbeats 4000000 in
theorem p_X11_replicaNumber {N : Nat} {M : vC} {R : (vC × Option Nat)} {a1 : Int32}  (h : F_X11_replicaNumber N M a1 = some R) {E : vE} {S0 : vS} {z x d0 : Nat} (hR : RC S0 z x N d0 M) : vi_Met E yX11_replicaNumber cX11_replicaNumber 2 (some (.object "SnapCluster$Replica")) 0 0 0 [.ref (ad z x 11 (0)), .int (a1)] S0 (cz M) (D3 7 S0 z x N d0 R) := by
  refine vi_met (by decide) (Nat.le_of_ble_eq_true rfl) ?_
  intro X C
  have hF := cF.refl S0 z x N d0
  unfold F_X11_replicaNumber at h
  refine vi_iload_n C dX11_replicaNumber_0 rfl rfl ?_
  refine vi_if_lt (t' := 22) C dX11_replicaNumber_1 rfl (by decide) (fun c4 => ?_) (fun c4 => ?_)
  · replace h := iT c4 h
    refine vi_null C dX11_replicaNumber_22 rfl ?_
    exact c_ret3 (k := 7) (v := none) C dX11_replicaNumber_23 rfl (Or.inl ⟨_, rfl⟩) hR hF ⟨Nat.zero_le _, Nat.zero_le _⟩ h
  · replace h := iN c4 h
    refine vi_iload_n C dX11_replicaNumber_4 rfl rfl ?_
    refine vi_aload_n C dX11_replicaNumber_5 rfl rfl ?_
    refine c_gets (f := 1103) (k := 11) (i := 0) C dX11_replicaNumber_6 rfl fX11_53 rfl (by decide) rfl hR (rfl : 0 = 0) rfl ?_
    refine c_alenR C dX11_replicaNumber_9 rfl hR ?_
    refine vi_icmp_ge (t' := 22) C dX11_replicaNumber_10 rfl (by decide) (fun c3 => ?_) (fun c3 => ?_)
    · replace h := iT c3 h
      refine vi_null C dX11_replicaNumber_22 rfl ?_
      exact c_ret3 (k := 7) (v := none) C dX11_replicaNumber_23 rfl (Or.inl ⟨_, rfl⟩) hR hF ⟨Nat.zero_le _, Nat.zero_le _⟩ h
    · replace h := iN c3 h
      refine vi_aload_n C dX11_replicaNumber_13 rfl rfl ?_
      refine c_gets (f := 1103) (k := 11) (i := 0) C dX11_replicaNumber_14 rfl fX11_53 rfl (by decide) rfl hR (rfl : 0 = 0) rfl ?_
      refine vi_iload_n C dX11_replicaNumber_17 rfl rfl ?_
      refine c_aaloadR C dX11_replicaNumber_18 rfl hR h (fun v1 c2 h => ?_)
      refine vi_goto (t' := 23) C dX11_replicaNumber_19 (by decide) ?_
      exact c_ret3 (k := 7) (v := (some (v1))) C dX11_replicaNumber_23 rfl (Or.inl ⟨_, rfl⟩) hR hF ⟨Nat.zero_le _, Nat.zero_le _⟩ h

def F_X11_upNumber (N : Nat) (M : vC) (a1 : Int32) : Option (vC × Option Nat) := b2 (F_X11_replicaNumber N M (a1)) fun M1 v2 => oc (v2) (some (M1, none)) (fun o3 => gd (o3 < N) <| if (cI M1 711 (o3)) = 0 then (some (M1, none)) else (some (M1, (some (o3)))))

set_option maxRecDepth 100000 in
set_option maxHeartbeats 4000000 in
theorem p_X11_upNumber {N : Nat} {M : vC} {R : (vC × Option Nat)} {a1 : Int32}  (h : F_X11_upNumber N M a1 = some R) {E : vE} {S0 : vS} {z x d0 : Nat} (hR : RC S0 z x N d0 M) : vi_Met E yX11_upNumber cX11_upNumber 3 (some (.object "SnapCluster$Replica")) 1 0 0 [.ref (ad z x 11 (0)), .int (a1)] S0 (cz M) (D3 7 S0 z x N d0 R) := by
  refine vi_met (by decide) (Nat.le_of_ble_eq_true rfl) ?_
  intro X C
  have hF := cF.refl S0 z x N d0
  unfold F_X11_upNumber at h
  refine vi_aload_n C dX11_upNumber_0 rfl rfl ?_
  refine vi_iload_n C dX11_upNumber_1 rfl rfl ?_
  refine c_cv3 (kc := 11) (a := (ad z x 11 (0))) (kt := 7) C [.int (a1)] [] dX11_upNumber_2 rfl ivX11_209 imX11_replicaNumber rfl rfl (rcK hR (rfl : 0 = 0)) hR hF h (fun _ e => p_X11_replicaNumber  e hR) rfl (Nat.le_of_ble_eq_true rfl) ⟨by decide, by decide⟩ ⟨Nat.le_refl _, Nat.le_refl _⟩ (fun S M1 v2 h hR hF => ?_)
  refine vi_astore_nq (o := ((v2).map (ad z x 7))) C dX11_upNumber_5 rfl (by decide) ?_
  refine vi_aload_nq (o := ((v2).map (ad z x 7))) C dX11_upNumber_6 rfl rfl ?_
  rcases oco h with ⟨rfl, hh⟩ | ⟨o3, rfl, hh⟩
  · replace h := hh
    clear hh
    refine vi_ifnull (o := none) (t' := 21) C dX11_upNumber_7 rfl (by decide) (fun _ => ?_) (fun e => absurd rfl e)
    refine vi_null C dX11_upNumber_21 rfl ?_
    exact c_ret3 (k := 7) (v := none) C dX11_upNumber_22 rfl (Or.inl ⟨_, rfl⟩) hR hF ⟨Nat.zero_le _, Nat.zero_le _⟩ h
  · replace h := hh
    clear hh
    refine vi_ifnull (o := (some (ad z x 7 (o3)))) (t' := 21) C dX11_upNumber_7 rfl (by decide) (fun e => by cases e) (fun _ => ?_)
    obtain ⟨c4, h⟩ := gdo h
    refine vi_aload_n C dX11_upNumber_10 rfl rfl ?_
    refine c_geti (f := 711) (k := 7) (i := o3) C dX11_upNumber_11 rfl fX11_212 rfl (by decide) rfl hR c4 ?_
    refine vi_if_eq (t' := 21) C dX11_upNumber_14 rfl (by decide) (fun c5 => ?_) (fun c5 => ?_)
    · replace h := iT c5 h
      refine vi_null C dX11_upNumber_21 rfl ?_
      exact c_ret3 (k := 7) (v := none) C dX11_upNumber_22 rfl (Or.inl ⟨_, rfl⟩) hR hF ⟨Nat.zero_le _, Nat.zero_le _⟩ h
    · replace h := iN c5 h
      refine vi_aload_n C dX11_upNumber_17 rfl rfl ?_
      refine vi_goto (t' := 22) C dX11_upNumber_18 (by decide) ?_
      exact c_ret3 (k := 7) (v := (some (o3))) C dX11_upNumber_22 rfl (Or.inl ⟨_, rfl⟩) hR hF ⟨Nat.zero_le _, Nat.zero_le _⟩ h

def F_X11_beginAt (N : Nat) (M : vC) (a1 : Int32) (a2 : Int32) (a3 : Int32) : Option (vC × Int32) := b2 (F_X11_sessionNumber N M (a1)) fun M1 v2 => b2 (F_X11_upNumber N M1 (a2)) fun M3 v4 => oc (v2) (zb ((0 : Int32)) (some (M3, (0 : Int32)))) (fun o5 => gd (o5 < 16) <| oc (v4) (zb ((0 : Int32)) (some (M3, (0 : Int32)))) (fun o7 => gd (o7 < N) <| if (cI M3 901 (o5)) = (1 : Int32) then (zb ((0 : Int32)) (some (M3, (0 : Int32)))) else (if (cI M3 901 (o5)) = (2 : Int32) then (zb ((0 : Int32)) (some (M3, (0 : Int32)))) else ((F_X9_begin N M3 (o5) (a2) ((cI M3 1007 (o7))) (a3)).bind fun M9 => zb ((1 : Int32)) (some (M9, (1 : Int32)))))))

set_option maxRecDepth 100000 in
set_option maxHeartbeats 4000000 in
theorem p_X11_beginAt {N : Nat} {M : vC} {R : (vC × Int32)} {a1 : Int32} {a2 : Int32} {a3 : Int32}  (h : F_X11_beginAt N M a1 a2 a3 = some R) {E : vE} {S0 : vS} {z x d0 : Nat} (hR : RC S0 z x N d0 M) : vi_Met E yX11_beginAt cX11_beginAt 6 (some .boolean) 2 0 0 [.ref (ad z x 11 (0)), .int (a1), .int (a2), .int (a3)] S0 (cz M) (D1 S0 z x N d0 R) := by
  refine vi_met (by decide) (Nat.le_of_ble_eq_true rfl) ?_
  intro X C
  have hF := cF.refl S0 z x N d0
  unfold F_X11_beginAt at h
  refine vi_aload_n C dX11_beginAt_0 rfl rfl ?_
  refine vi_iload_n C dX11_beginAt_1 rfl rfl ?_
  refine c_cv3 (kc := 11) (a := (ad z x 11 (0))) (kt := 9) C [.int (a1)] [] dX11_beginAt_2 rfl ivX11_74 imX11_sessionNumber rfl rfl (rcK hR (rfl : 0 = 0)) hR hF h (fun _ e => p_X11_sessionNumber  e hR) rfl (Nat.le_of_ble_eq_true rfl) ⟨by decide, by decide⟩ ⟨Nat.le_refl _, Nat.le_refl _⟩ (fun S M1 v2 h hR hF => ?_)
  refine vi_astoreq (o := ((v2).map (ad z x 9))) C dX11_beginAt_5 rfl (by decide) ?_
  refine vi_aload_n C dX11_beginAt_7 rfl rfl ?_
  refine vi_iload_n C dX11_beginAt_8 rfl rfl ?_
  refine c_cv3 (kc := 11) (a := (ad z x 11 (0))) (kt := 7) C [.int (a2)] [] dX11_beginAt_9 rfl ivX11_78 imX11_upNumber rfl rfl (rcK hR (rfl : 0 = 0)) hR hF h (fun _ e => p_X11_upNumber  e hR) rfl (Nat.le_of_ble_eq_true rfl) ⟨by decide, by decide⟩ ⟨Nat.le_refl _, Nat.le_refl _⟩ (fun S M3 v4 h hR hF => ?_)
  refine vi_astoreq (o := ((v4).map (ad z x 7))) C dX11_beginAt_12 rfl (by decide) ?_
  refine vi_cut [(0, .ref (ad z x 11 (0))), (1, .int (a1)), (2, .int (a2)), (3, .int (a3)), (4, va_rf ((v2).map (ad z x 9))), (5, va_rf ((v4).map (ad z x 7)))] (by cases v2 <;> exact ⟨rfl, rfl, rfl, rfl, rfl, rfl, trivial⟩) ?_
  refine vi_aloadq (o := ((v2).map (ad z x 9))) C dX11_beginAt_14 rfl rfl ?_
  rcases oco h with ⟨rfl, hh⟩ | ⟨o5, rfl, hh⟩
  · replace h := hh
    clear hh
    refine vi_ifnull (o := none) (t' := 42) C dX11_beginAt_16 rfl (by decide) (fun _ => ?_) (fun e => absurd rfl e)
    refine vi_iconst (v := 0) C dX11_beginAt_42 rfl (by decide) ?_
    exact c_retz C dX11_beginAt_43 rfl hR hF ⟨Nat.zero_le _, Nat.zero_le _⟩ h
  · replace h := hh
    clear hh
    refine vi_ifnull (o := (some (ad z x 9 (o5)))) (t' := 42) C dX11_beginAt_16 rfl (by decide) (fun e => by cases e) (fun _ => ?_)
    obtain ⟨c6, h⟩ := gdo h
    refine vi_aloadq (o := ((v4).map (ad z x 7))) C dX11_beginAt_19 rfl rfl ?_
    rcases oco h with ⟨rfl, hh⟩ | ⟨o7, rfl, hh⟩
    · replace h := hh
      clear hh
      refine vi_ifnull (o := none) (t' := 42) C dX11_beginAt_21 rfl (by decide) (fun _ => ?_) (fun e => absurd rfl e)
      refine vi_iconst (v := 0) C dX11_beginAt_42 rfl (by decide) ?_
      exact c_retz C dX11_beginAt_43 rfl hR hF ⟨Nat.zero_le _, Nat.zero_le _⟩ h
    · replace h := hh
      clear hh
      refine vi_ifnull (o := (some (ad z x 7 (o7)))) (t' := 42) C dX11_beginAt_21 rfl (by decide) (fun e => by cases e) (fun _ => ?_)
      obtain ⟨c8, h⟩ := gdo h
      refine vi_aload C dX11_beginAt_24 rfl rfl ?_
      refine c_geti (f := 901) (k := 9) (i := o5) C dX11_beginAt_26 rfl fX11_82 rfl (by decide) rfl hR c6 ?_
      refine vi_iconst (v := 1) C dX11_beginAt_29 rfl (by decide) ?_
      refine vi_icmp_eq (t' := 42) C dX11_beginAt_30 rfl (by decide) (fun c11 => ?_) (fun c11 => ?_)
      · replace h := iT c11 h
        refine vi_iconst (v := 0) C dX11_beginAt_42 rfl (by decide) ?_
        exact c_retz C dX11_beginAt_43 rfl hR hF ⟨Nat.zero_le _, Nat.zero_le _⟩ h
      · replace h := iN c11 h
        refine vi_aload C dX11_beginAt_33 rfl rfl ?_
        refine c_geti (f := 901) (k := 9) (i := o5) C dX11_beginAt_35 rfl fX11_82 rfl (by decide) rfl hR c6 ?_
        refine vi_iconst (v := 2) C dX11_beginAt_38 rfl (by decide) ?_
        refine vi_icmp_ne (t' := 44) C dX11_beginAt_39 rfl (by decide) (fun c10 => ?_) (fun c10 => ?_)
        · replace h := iN c10 h
          refine vi_aload C dX11_beginAt_44 rfl rfl ?_
          refine vi_iload_n C dX11_beginAt_46 rfl rfl ?_
          refine vi_aload C dX11_beginAt_47 rfl rfl ?_
          refine c_gets (f := 703) (k := 7) (i := o7) C dX11_beginAt_49 rfl fX11_85 rfl (by decide) rfl hR c8 rfl ?_
          refine c_geti (f := 1007) (k := 10) (i := o7) C dX11_beginAt_52 rfl fX11_89 rfl (by decide) rfl hR c8 ?_
          refine vi_iload_n C dX11_beginAt_55 rfl rfl ?_
          refine c_cv0 (kc := 9) (a := (ad z x 9 (o5))) C [.int (a2), .int ((cI M3 1007 (o7))), .int (a3)] [] dX11_beginAt_56 rfl ivX11_92 imX9_begin rfl rfl (rcK hR c6) hR hF h (fun _ e => p_X9_begin c6 e hR) rfl (Nat.le_of_ble_eq_true rfl) ⟨by decide, by decide⟩ ⟨Nat.le_refl _, Nat.le_refl _⟩ (fun S M9 h hR hF => ?_)
          refine vi_iconst (v := 1) C dX11_beginAt_59 rfl (by decide) ?_
          exact c_retz C dX11_beginAt_60 rfl hR hF ⟨Nat.zero_le _, Nat.zero_le _⟩ h
        · replace h := iT c10 h
          refine vi_iconst (v := 0) C dX11_beginAt_42 rfl (by decide) ?_
          exact c_retz C dX11_beginAt_43 rfl hR hF ⟨Nat.zero_le _, Nat.zero_le _⟩ h

def F_X11_isKey (N : Nat) (M : vC) (a0 : Int32) : Option (vC × Int32) := if a0 < 0 then (zb ((0 : Int32)) (some (M, (0 : Int32)))) else (if (16 : Int32) ≤ a0 then (zb ((0 : Int32)) (some (M, (0 : Int32)))) else (zb ((1 : Int32)) (some (M, (1 : Int32)))))

set_option maxRecDepth 100000 in
set_option maxHeartbeats 4000000 in
theorem p_X11_isKey {N : Nat} {M : vC} {R : (vC × Int32)} {a0 : Int32}  (h : F_X11_isKey N M a0 = some R) {E : vE} {S0 : vS} {z x d0 : Nat} (hR : RC S0 z x N d0 M) : vi_Met E yX11_isKey cX11_isKey 1 (some .boolean) 0 0 0 [.int (a0)] S0 (cz M) (D1 S0 z x N d0 R) := by
  refine vi_met (by decide) (Nat.le_of_ble_eq_true rfl) ?_
  intro X C
  have hF := cF.refl S0 z x N d0
  unfold F_X11_isKey at h
  refine vi_iload_n C dX11_isKey_0 rfl rfl ?_
  refine vi_if_lt (t' := 14) C dX11_isKey_1 rfl (by decide) (fun c2 => ?_) (fun c2 => ?_)
  · replace h := iT c2 h
    refine vi_iconst (v := 0) C dX11_isKey_14 rfl (by decide) ?_
    exact c_retz C dX11_isKey_15 rfl hR hF ⟨Nat.zero_le _, Nat.zero_le _⟩ h
  · replace h := iN c2 h
    refine vi_iload_n C dX11_isKey_4 rfl rfl ?_
    refine vi_bipush (v := 16) C dX11_isKey_5 rfl (by decide) ?_
    refine vi_icmp_ge (t' := 14) C dX11_isKey_7 rfl (by decide) (fun c1 => ?_) (fun c1 => ?_)
    · replace h := iT c1 h
      refine vi_iconst (v := 0) C dX11_isKey_14 rfl (by decide) ?_
      exact c_retz C dX11_isKey_15 rfl hR hF ⟨Nat.zero_le _, Nat.zero_le _⟩ h
    · replace h := iN c1 h
      refine vi_iconst (v := 1) C dX11_isKey_10 rfl (by decide) ?_
      refine vi_goto (t' := 15) C dX11_isKey_11 (by decide) ?_
      exact c_retz C dX11_isKey_15 rfl hR hF ⟨Nat.zero_le _, Nat.zero_le _⟩ h

def F_X11_writeKey (N : Nat) (M : vC) (a1 : Int32) (a2 : Int32) (a3 : Int32) : Option (vC × Int32) := b2 (F_X11_sessionNumber N M (a1)) fun M1 v2 => oc (v2) (zb ((0 : Int32)) (some (M1, (0 : Int32)))) (fun o3 => gd (o3 < 16) <| b2 (F_X11_isKey N M1 (a2)) fun M5 v6 => if v6 = 0 then (zb ((0 : Int32)) (some (M5, (0 : Int32)))) else (if (cI M5 901 (o3)) = (1 : Int32) then (if (cI M5 907 (o3)) = 0 then ((F_X9_write N M5 (o3) (a2) (a3)).bind fun M7 => zb ((1 : Int32)) (some (M7, (1 : Int32)))) else (zb ((0 : Int32)) (some (M5, (0 : Int32))))) else (zb ((0 : Int32)) (some (M5, (0 : Int32))))))

set_option maxRecDepth 100000 in
set_option maxHeartbeats 4000000 in
theorem p_X11_writeKey {N : Nat} {M : vC} {R : (vC × Int32)} {a1 : Int32} {a2 : Int32} {a3 : Int32}  (h : F_X11_writeKey N M a1 a2 a3 = some R) {E : vE} {S0 : vS} {z x d0 : Nat} (hR : RC S0 z x N d0 M) : vi_Met E yX11_writeKey cX11_writeKey 5 (some .boolean) 1 0 0 [.ref (ad z x 11 (0)), .int (a1), .int (a2), .int (a3)] S0 (cz M) (D1 S0 z x N d0 R) := by
  refine vi_met (by decide) (Nat.le_of_ble_eq_true rfl) ?_
  intro X C
  have hF := cF.refl S0 z x N d0
  unfold F_X11_writeKey at h
  refine vi_aload_n C dX11_writeKey_0 rfl rfl ?_
  refine vi_iload_n C dX11_writeKey_1 rfl rfl ?_
  refine c_cv3 (kc := 11) (a := (ad z x 11 (0))) (kt := 9) C [.int (a1)] [] dX11_writeKey_2 rfl ivX11_74 imX11_sessionNumber rfl rfl (rcK hR (rfl : 0 = 0)) hR hF h (fun _ e => p_X11_sessionNumber  e hR) rfl (Nat.le_of_ble_eq_true rfl) ⟨by decide, by decide⟩ ⟨Nat.le_refl _, Nat.le_refl _⟩ (fun S M1 v2 h hR hF => ?_)
  refine vi_astoreq (o := ((v2).map (ad z x 9))) C dX11_writeKey_5 rfl (by decide) ?_
  refine vi_aloadq (o := ((v2).map (ad z x 9))) C dX11_writeKey_7 rfl rfl ?_
  rcases oco h with ⟨rfl, hh⟩ | ⟨o3, rfl, hh⟩
  · replace h := hh
    clear hh
    refine vi_ifnull (o := none) (t' := 36) C dX11_writeKey_9 rfl (by decide) (fun _ => ?_) (fun e => absurd rfl e)
    refine vi_iconst (v := 0) C dX11_writeKey_36 rfl (by decide) ?_
    exact c_retz C dX11_writeKey_37 rfl hR hF ⟨Nat.zero_le _, Nat.zero_le _⟩ h
  · replace h := hh
    clear hh
    refine vi_ifnull (o := (some (ad z x 9 (o3)))) (t' := 36) C dX11_writeKey_9 rfl (by decide) (fun e => by cases e) (fun _ => ?_)
    obtain ⟨c4, h⟩ := gdo h
    refine vi_iload_n C dX11_writeKey_12 rfl rfl ?_
    refine c_cs1 C [.int (a2)] [] dX11_writeKey_13 rfl ivX11_96 isX11_isKey hR hF h (fun _ e => p_X11_isKey  e hR) rfl (Nat.le_of_ble_eq_true rfl) ⟨by decide, by decide⟩ ⟨Nat.le_refl _, Nat.le_refl _⟩ (fun S M5 v6 h hR hF => ?_)
    refine vi_if_eq (t' := 36) C dX11_writeKey_16 rfl (by decide) (fun c10 => ?_) (fun c10 => ?_)
    · replace h := iT c10 h
      refine vi_iconst (v := 0) C dX11_writeKey_36 rfl (by decide) ?_
      exact c_retz C dX11_writeKey_37 rfl hR hF ⟨Nat.zero_le _, Nat.zero_le _⟩ h
    · replace h := iN c10 h
      refine vi_aload C dX11_writeKey_19 rfl rfl ?_
      refine c_geti (f := 901) (k := 9) (i := o3) C dX11_writeKey_21 rfl fX11_82 rfl (by decide) rfl hR c4 ?_
      refine vi_iconst (v := 1) C dX11_writeKey_24 rfl (by decide) ?_
      refine vi_icmp_ne (t' := 36) C dX11_writeKey_25 rfl (by decide) (fun c9 => ?_) (fun c9 => ?_)
      · replace h := iN c9 h
        refine vi_iconst (v := 0) C dX11_writeKey_36 rfl (by decide) ?_
        exact c_retz C dX11_writeKey_37 rfl hR hF ⟨Nat.zero_le _, Nat.zero_le _⟩ h
      · replace h := iT c9 h
        refine vi_aload C dX11_writeKey_28 rfl rfl ?_
        refine c_geti (f := 907) (k := 9) (i := o3) C dX11_writeKey_30 rfl fX11_122 rfl (by decide) rfl hR c4 ?_
        refine vi_if_eq (t' := 38) C dX11_writeKey_33 rfl (by decide) (fun c8 => ?_) (fun c8 => ?_)
        · replace h := iT c8 h
          refine vi_aload C dX11_writeKey_38 rfl rfl ?_
          refine vi_iload_n C dX11_writeKey_40 rfl rfl ?_
          refine vi_iload_n C dX11_writeKey_41 rfl rfl ?_
          refine c_cv0 (kc := 9) (a := (ad z x 9 (o3))) C [.int (a2), .int (a3)] [] dX11_writeKey_42 rfl ivX11_126 imX9_write rfl rfl (rcK hR c4) hR hF h (fun _ e => p_X9_write c4 e hR) rfl (Nat.le_of_ble_eq_true rfl) ⟨by decide, by decide⟩ ⟨Nat.le_refl _, Nat.le_refl _⟩ (fun S M7 h hR hF => ?_)
          refine vi_iconst (v := 1) C dX11_writeKey_45 rfl (by decide) ?_
          exact c_retz C dX11_writeKey_46 rfl hR hF ⟨Nat.zero_le _, Nat.zero_le _⟩ h
        · replace h := iN c8 h
          refine vi_iconst (v := 0) C dX11_writeKey_36 rfl (by decide) ?_
          exact c_retz C dX11_writeKey_37 rfl hR hF ⟨Nat.zero_le _, Nat.zero_le _⟩ h

def F_X11_commitIt (N : Nat) (M : vC) (a1 : Int32) : Option (vC × Int32) := b2 (F_X11_sessionNumber N M (a1)) fun M1 v2 => oc (v2) (some (M1, (-1 : Int32))) (fun o3 => gd (o3 < 16) <| if (cI M1 901 (o3)) = (1 : Int32) then (if (cI M1 906 (o3)) = 0 then ((F_X9_end N M1 (o3) ((3 : Int32))).bind fun M12 => some (M12, (cI M12 901 (o3)))) else (b2 (F_X11_upNumber N M1 ((cI M1 903 (o3)))) fun M5 v6 => (F_X9_ask N M5 (o3) (a1)).bind fun M7 => oc (v6) (some (M7, (cI M7 901 (o3)))) (fun o8 => gd (o8 < N) <| lt1 (cP M7 908 (o3)) fun v10 => (F_X6_add N M7 (o8) (v10)).bind fun M11 => some (M11, (cI M11 901 (o3)))))) else (some (M1, (-1 : Int32))))

set_option maxRecDepth 100000 in
set_option maxHeartbeats 4000000 in
theorem p_X11_commitIt {N : Nat} {M : vC} {R : (vC × Int32)} {a1 : Int32}  (h : F_X11_commitIt N M a1 = some R) {E : vE} {S0 : vS} {z x d0 : Nat} (hR : RC S0 z x N d0 M) : vi_Met E yX11_commitIt cX11_commitIt 4 (some .int) 3 2 22 [.ref (ad z x 11 (0)), .int (a1)] S0 (cz M) (D1 S0 z x N d0 R) := by
  refine vi_met (by decide) (Nat.le_of_ble_eq_true rfl) ?_
  intro X C
  have hF := cF.refl S0 z x N d0
  unfold F_X11_commitIt at h
  refine vi_aload_n C dX11_commitIt_0 rfl rfl ?_
  refine vi_iload_n C dX11_commitIt_1 rfl rfl ?_
  refine c_cv3 (kc := 11) (a := (ad z x 11 (0))) (kt := 9) C [.int (a1)] [] dX11_commitIt_2 rfl ivX11_74 imX11_sessionNumber rfl rfl (rcK hR (rfl : 0 = 0)) hR hF h (fun _ e => p_X11_sessionNumber  e hR) rfl (Nat.le_of_ble_eq_true rfl) ⟨by decide, by decide⟩ ⟨by omega, by omega⟩ (fun S M1 v2 h hR hF => ?_)
  refine vi_astore_nq (o := ((v2).map (ad z x 9))) C dX11_commitIt_5 rfl (by decide) ?_
  refine vi_aload_nq (o := ((v2).map (ad z x 9))) C dX11_commitIt_6 rfl rfl ?_
  rcases oco h with ⟨rfl, hh⟩ | ⟨o3, rfl, hh⟩
  · replace h := hh
    clear hh
    refine vi_ifnull (o := none) (t' := 18) C dX11_commitIt_7 rfl (by decide) (fun _ => ?_) (fun e => absurd rfl e)
    refine vi_iconst (v := -1) C dX11_commitIt_18 rfl (by decide) ?_
    exact c_ret1 C dX11_commitIt_19 rfl hR hF ⟨Nat.zero_le _, Nat.zero_le _⟩ h
  · replace h := hh
    clear hh
    refine vi_ifnull (o := (some (ad z x 9 (o3)))) (t' := 18) C dX11_commitIt_7 rfl (by decide) (fun e => by cases e) (fun _ => ?_)
    obtain ⟨c4, h⟩ := gdo h
    refine vi_aload_n C dX11_commitIt_10 rfl rfl ?_
    refine c_geti (f := 901) (k := 9) (i := o3) C dX11_commitIt_11 rfl fX11_82 rfl (by decide) rfl hR c4 ?_
    refine vi_iconst (v := 1) C dX11_commitIt_14 rfl (by decide) ?_
    refine vi_icmp_eq (t' := 20) C dX11_commitIt_15 rfl (by decide) (fun c14 => ?_) (fun c14 => ?_)
    · replace h := iT c14 h
      refine vi_aload_n C dX11_commitIt_20 rfl rfl ?_
      refine c_geti (f := 906) (k := 9) (i := o3) C dX11_commitIt_21 rfl fX11_129 rfl (by decide) rfl hR c4 ?_
      refine vi_if_ne (t' := 37) C dX11_commitIt_24 rfl (by decide) (fun c13 => ?_) (fun c13 => ?_)
      · replace h := iN c13 h
        refine vi_aload_n C dX11_commitIt_37 rfl rfl ?_
        refine vi_aload_n C dX11_commitIt_38 rfl rfl ?_
        refine c_geti (f := 903) (k := 9) (i := o3) C dX11_commitIt_39 rfl fX11_106 rfl (by decide) rfl hR c4 ?_
        refine c_cv3 (kc := 11) (a := (ad z x 11 (0))) (kt := 7) C [.int ((cI M1 903 (o3)))] [] dX11_commitIt_42 rfl ivX11_78 imX11_upNumber rfl rfl (rcK hR (rfl : 0 = 0)) hR hF h (fun _ e => p_X11_upNumber  e hR) rfl (Nat.le_of_ble_eq_true rfl) ⟨by decide, by decide⟩ ⟨by omega, by omega⟩ (fun S M5 v6 h hR hF => ?_)
        refine vi_astore_nq (o := ((v6).map (ad z x 7))) C dX11_commitIt_45 rfl (by decide) ?_
        refine vi_aload_n C dX11_commitIt_46 rfl rfl ?_
        refine vi_iload_n C dX11_commitIt_47 rfl rfl ?_
        refine c_cv0 (kc := 9) (a := (ad z x 9 (o3))) C [.int (a1)] [] dX11_commitIt_48 rfl ivX11_132 imX9_ask rfl rfl (rcK hR c4) hR hF h (fun _ e => p_X9_ask c4 e hR) rfl (Nat.le_of_ble_eq_true rfl) ⟨by decide, by decide⟩ ⟨by omega, by omega⟩ (fun S M7 h hR hF => ?_)
        refine vi_aload_nq (o := ((v6).map (ad z x 7))) C dX11_commitIt_51 rfl rfl ?_
        rcases oco h with ⟨rfl, hh⟩ | ⟨o8, rfl, hh⟩
        · replace h := hh
          clear hh
          refine vi_ifnull (o := none) (t' := 66) C dX11_commitIt_52 rfl (by decide) (fun _ => ?_) (fun e => absurd rfl e)
          refine vi_aload_n C dX11_commitIt_66 rfl rfl ?_
          refine c_geti (f := 901) (k := 9) (i := o3) C dX11_commitIt_67 rfl fX11_82 rfl (by decide) rfl hR c4 ?_
          exact c_ret1 C dX11_commitIt_70 rfl hR hF ⟨by omega, by omega⟩ h
        · replace h := hh
          clear hh
          refine vi_ifnull (o := (some (ad z x 7 (o8)))) (t' := 66) C dX11_commitIt_52 rfl (by decide) (fun e => by cases e) (fun _ => ?_)
          obtain ⟨c9, h⟩ := gdo h
          refine vi_aload_n C dX11_commitIt_55 rfl rfl ?_
          refine c_gets (f := 705) (k := 7) (i := o8) C dX11_commitIt_56 rfl fX11_135 rfl (by decide) rfl hR c9 rfl ?_
          refine vi_aload_n C dX11_commitIt_59 rfl rfl ?_
          refine c_getpL (f := 908) (k := 9) (i := o3) C dX11_commitIt_60 rfl fX11_139 rfl (by decide) rfl hR c4 rfl h (fun v10 h => ?_)
          refine c_cv0 (kc := 6) (a := (ad z x 6 (o8))) C [va_rf (v10)] [] dX11_commitIt_63 rfl ivX11_143 imX6_add rfl rfl (rcK hR c9) hR hF h (fun _ e => p_X6_add c9 e hR) rfl (Nat.le_of_ble_eq_true rfl) ⟨by decide, by decide⟩ ⟨by omega, by omega⟩ (fun S M11 h hR hF => ?_)
          refine vi_aload_n C dX11_commitIt_66 rfl rfl ?_
          refine c_geti (f := 901) (k := 9) (i := o3) C dX11_commitIt_67 rfl fX11_82 rfl (by decide) rfl hR c4 ?_
          exact c_ret1 C dX11_commitIt_70 rfl hR hF ⟨by omega, by omega⟩ h
      · replace h := iT c13 h
        refine vi_aload_n C dX11_commitIt_27 rfl rfl ?_
        refine vi_iconst (v := 3) C dX11_commitIt_28 rfl (by decide) ?_
        refine c_cv0 (kc := 9) (a := (ad z x 9 (o3))) C [.int ((3 : Int32))] [] dX11_commitIt_29 rfl ivX11_115 imX9_end rfl rfl (rcK hR c4) hR hF h (fun _ e => p_X9_end c4 e hR) rfl (Nat.le_of_ble_eq_true rfl) ⟨by decide, by decide⟩ ⟨by omega, by omega⟩ (fun S M12 h hR hF => ?_)
        refine vi_aload_n C dX11_commitIt_32 rfl rfl ?_
        refine c_geti (f := 901) (k := 9) (i := o3) C dX11_commitIt_33 rfl fX11_82 rfl (by decide) rfl hR c4 ?_
        exact c_ret1 C dX11_commitIt_36 rfl hR hF ⟨Nat.zero_le _, Nat.zero_le _⟩ h
    · replace h := iN c14 h
      refine vi_iconst (v := -1) C dX11_commitIt_18 rfl (by decide) ?_
      exact c_ret1 C dX11_commitIt_19 rfl hR hF ⟨Nat.zero_le _, Nat.zero_le _⟩ h

def F_X11_giveUp (N : Nat) (M : vC) (a1 : Int32) : Option (vC × Int32) := b2 (F_X11_sessionNumber N M (a1)) fun M1 v2 => oc (v2) (zb ((0 : Int32)) (some (M1, (0 : Int32)))) (fun o3 => gd (o3 < 16) <| if (cI M1 901 (o3)) = (1 : Int32) then ((F_X9_end N M1 (o3) ((4 : Int32))).bind fun M5 => zb ((1 : Int32)) (some (M5, (1 : Int32)))) else (zb ((0 : Int32)) (some (M1, (0 : Int32)))))

set_option maxRecDepth 100000 in
set_option maxHeartbeats 4000000 in
theorem p_X11_giveUp {N : Nat} {M : vC} {R : (vC × Int32)} {a1 : Int32}  (h : F_X11_giveUp N M a1 = some R) {E : vE} {S0 : vS} {z x d0 : Nat} (hR : RC S0 z x N d0 M) : vi_Met E yX11_giveUp cX11_giveUp 3 (some .boolean) 1 0 0 [.ref (ad z x 11 (0)), .int (a1)] S0 (cz M) (D1 S0 z x N d0 R) := by
  refine vi_met (by decide) (Nat.le_of_ble_eq_true rfl) ?_
  intro X C
  have hF := cF.refl S0 z x N d0
  unfold F_X11_giveUp at h
  refine vi_aload_n C dX11_giveUp_0 rfl rfl ?_
  refine vi_iload_n C dX11_giveUp_1 rfl rfl ?_
  refine c_cv3 (kc := 11) (a := (ad z x 11 (0))) (kt := 9) C [.int (a1)] [] dX11_giveUp_2 rfl ivX11_74 imX11_sessionNumber rfl rfl (rcK hR (rfl : 0 = 0)) hR hF h (fun _ e => p_X11_sessionNumber  e hR) rfl (Nat.le_of_ble_eq_true rfl) ⟨by decide, by decide⟩ ⟨Nat.le_refl _, Nat.le_refl _⟩ (fun S M1 v2 h hR hF => ?_)
  refine vi_astore_nq (o := ((v2).map (ad z x 9))) C dX11_giveUp_5 rfl (by decide) ?_
  refine vi_aload_nq (o := ((v2).map (ad z x 9))) C dX11_giveUp_6 rfl rfl ?_
  rcases oco h with ⟨rfl, hh⟩ | ⟨o3, rfl, hh⟩
  · replace h := hh
    clear hh
    refine vi_ifnull (o := none) (t' := 18) C dX11_giveUp_7 rfl (by decide) (fun _ => ?_) (fun e => absurd rfl e)
    refine vi_iconst (v := 0) C dX11_giveUp_18 rfl (by decide) ?_
    exact c_retz C dX11_giveUp_19 rfl hR hF ⟨Nat.zero_le _, Nat.zero_le _⟩ h
  · replace h := hh
    clear hh
    refine vi_ifnull (o := (some (ad z x 9 (o3)))) (t' := 18) C dX11_giveUp_7 rfl (by decide) (fun e => by cases e) (fun _ => ?_)
    obtain ⟨c4, h⟩ := gdo h
    refine vi_aload_n C dX11_giveUp_10 rfl rfl ?_
    refine c_geti (f := 901) (k := 9) (i := o3) C dX11_giveUp_11 rfl fX11_82 rfl (by decide) rfl hR c4 ?_
    refine vi_iconst (v := 1) C dX11_giveUp_14 rfl (by decide) ?_
    refine vi_icmp_eq (t' := 20) C dX11_giveUp_15 rfl (by decide) (fun c6 => ?_) (fun c6 => ?_)
    · replace h := iT c6 h
      refine vi_aload_n C dX11_giveUp_20 rfl rfl ?_
      refine vi_iconst (v := 4) C dX11_giveUp_21 rfl (by decide) ?_
      refine c_cv0 (kc := 9) (a := (ad z x 9 (o3))) C [.int ((4 : Int32))] [] dX11_giveUp_22 rfl ivX11_115 imX9_end rfl rfl (rcK hR c4) hR hF h (fun _ e => p_X9_end c4 e hR) rfl (Nat.le_of_ble_eq_true rfl) ⟨by decide, by decide⟩ ⟨Nat.le_refl _, Nat.le_refl _⟩ (fun S M5 h hR hF => ?_)
      refine vi_iconst (v := 1) C dX11_giveUp_25 rfl (by decide) ?_
      exact c_retz C dX11_giveUp_26 rfl hR hF ⟨Nat.zero_le _, Nat.zero_le _⟩ h
    · replace h := iN c6 h
      refine vi_iconst (v := 0) C dX11_giveUp_18 rfl (by decide) ?_
      exact c_retz C dX11_giveUp_19 rfl hR hF ⟨Nat.zero_le _, Nat.zero_le _⟩ h

def F_X11_retryAt (N : Nat) (M : vC) (a1 : Int32) (a2 : Int32) : Option (vC × Int32) := b2 (F_X11_sessionNumber N M (a1)) fun M1 v2 => b2 (F_X11_upNumber N M1 (a2)) fun M3 v4 => oc (v2) (some (M3, (-1 : Int32))) (fun o5 => gd (o5 < 16) <| oc (v4) (some (M3, (-1 : Int32))) (fun o7 => gd (o7 < N) <| if (cI M3 901 (o5)) = (2 : Int32) then (lt1 (uI M3 903 (o5) (a2)) fun M9 => (cG M9 1002 (o7) (a1)).bind fun v10 => if v10 = (cI M9 902 (o5)) then ((cG M9 1003 (o7) (a1)).bind fun v13 => (F_X9_endBy N M9 (o5) (v13)).bind fun M14 => some (M14, (cI M14 901 (o5)))) else (lt1 (cP M9 908 (o5)) fun v11 => (F_X6_add N M9 (o7) (v11)).bind fun M12 => some (M12, (cI M12 901 (o5))))) else (some (M3, (-1 : Int32)))))

set_option maxRecDepth 100000 in
set_option maxHeartbeats 4000000 in
theorem p_X11_retryAt {N : Nat} {M : vC} {R : (vC × Int32)} {a1 : Int32} {a2 : Int32}  (h : F_X11_retryAt N M a1 a2 = some R) {E : vE} {S0 : vS} {z x d0 : Nat} (hR : RC S0 z x N d0 M) : vi_Met E yX11_retryAt cX11_retryAt 5 (some .int) 2 0 0 [.ref (ad z x 11 (0)), .int (a1), .int (a2)] S0 (cz M) (D1 S0 z x N d0 R) := by
  refine vi_met (by decide) (Nat.le_of_ble_eq_true rfl) ?_
  intro X C
  have hF := cF.refl S0 z x N d0
  unfold F_X11_retryAt at h
  refine vi_aload_n C dX11_retryAt_0 rfl rfl ?_
  refine vi_iload_n C dX11_retryAt_1 rfl rfl ?_
  refine c_cv3 (kc := 11) (a := (ad z x 11 (0))) (kt := 9) C [.int (a1)] [] dX11_retryAt_2 rfl ivX11_74 imX11_sessionNumber rfl rfl (rcK hR (rfl : 0 = 0)) hR hF h (fun _ e => p_X11_sessionNumber  e hR) rfl (Nat.le_of_ble_eq_true rfl) ⟨by decide, by decide⟩ ⟨Nat.le_refl _, Nat.le_refl _⟩ (fun S M1 v2 h hR hF => ?_)
  refine vi_astore_nq (o := ((v2).map (ad z x 9))) C dX11_retryAt_5 rfl (by decide) ?_
  refine vi_aload_n C dX11_retryAt_6 rfl rfl ?_
  refine vi_iload_n C dX11_retryAt_7 rfl rfl ?_
  refine c_cv3 (kc := 11) (a := (ad z x 11 (0))) (kt := 7) C [.int (a2)] [] dX11_retryAt_8 rfl ivX11_78 imX11_upNumber rfl rfl (rcK hR (rfl : 0 = 0)) hR hF h (fun _ e => p_X11_upNumber  e hR) rfl (Nat.le_of_ble_eq_true rfl) ⟨by decide, by decide⟩ ⟨Nat.le_refl _, Nat.le_refl _⟩ (fun S M3 v4 h hR hF => ?_)
  refine vi_astoreq (o := ((v4).map (ad z x 7))) C dX11_retryAt_11 rfl (by decide) ?_
  refine vi_cut [(0, .ref (ad z x 11 (0))), (1, .int (a1)), (2, .int (a2)), (3, va_rf ((v2).map (ad z x 9))), (4, va_rf ((v4).map (ad z x 7)))] (by cases v2 <;> exact ⟨rfl, rfl, rfl, rfl, rfl, trivial⟩) ?_
  refine vi_aload_nq (o := ((v2).map (ad z x 9))) C dX11_retryAt_13 rfl rfl ?_
  rcases oco h with ⟨rfl, hh⟩ | ⟨o5, rfl, hh⟩
  · replace h := hh
    clear hh
    refine vi_ifnull (o := none) (t' := 30) C dX11_retryAt_14 rfl (by decide) (fun _ => ?_) (fun e => absurd rfl e)
    refine vi_iconst (v := -1) C dX11_retryAt_30 rfl (by decide) ?_
    exact c_ret1 C dX11_retryAt_31 rfl hR hF ⟨Nat.zero_le _, Nat.zero_le _⟩ h
  · replace h := hh
    clear hh
    refine vi_ifnull (o := (some (ad z x 9 (o5)))) (t' := 30) C dX11_retryAt_14 rfl (by decide) (fun e => by cases e) (fun _ => ?_)
    obtain ⟨c6, h⟩ := gdo h
    refine vi_aloadq (o := ((v4).map (ad z x 7))) C dX11_retryAt_17 rfl rfl ?_
    rcases oco h with ⟨rfl, hh⟩ | ⟨o7, rfl, hh⟩
    · replace h := hh
      clear hh
      refine vi_ifnull (o := none) (t' := 30) C dX11_retryAt_19 rfl (by decide) (fun _ => ?_) (fun e => absurd rfl e)
      refine vi_iconst (v := -1) C dX11_retryAt_30 rfl (by decide) ?_
      exact c_ret1 C dX11_retryAt_31 rfl hR hF ⟨Nat.zero_le _, Nat.zero_le _⟩ h
    · replace h := hh
      clear hh
      refine vi_ifnull (o := (some (ad z x 7 (o7)))) (t' := 30) C dX11_retryAt_19 rfl (by decide) (fun e => by cases e) (fun _ => ?_)
      obtain ⟨c8, h⟩ := gdo h
      refine vi_aload_n C dX11_retryAt_22 rfl rfl ?_
      refine c_geti (f := 901) (k := 9) (i := o5) C dX11_retryAt_23 rfl fX11_82 rfl (by decide) rfl hR c6 ?_
      refine vi_iconst (v := 2) C dX11_retryAt_26 rfl (by decide) ?_
      refine vi_icmp_eq (t' := 32) C dX11_retryAt_27 rfl (by decide) (fun c16 => ?_) (fun c16 => ?_)
      · replace h := iT c16 h
        refine vi_aload_n C dX11_retryAt_32 rfl rfl ?_
        refine vi_iload_n C dX11_retryAt_33 rfl rfl ?_
        refine c_puti (f := 903) (k := 9) (i := o5) C dX11_retryAt_34 rfl (fpX11_106 _) rfl (by decide) rfl hR hF c6 h (fun S M9 h hR hF => ?_)
        refine vi_aload C dX11_retryAt_37 rfl rfl ?_
        refine c_gets (f := 703) (k := 7) (i := o7) C dX11_retryAt_39 rfl fX11_85 rfl (by decide) rfl hR c8 rfl ?_
        refine c_gets (f := 1002) (k := 10) (i := o7) C dX11_retryAt_42 rfl fX11_149 rfl (by decide) rfl hR c8 rfl ?_
        refine vi_iload_n C dX11_retryAt_45 rfl rfl ?_
        refine c_iaload C dX11_retryAt_46 rfl rfl hR ⟨c8, by decide⟩ h (fun v10 h => ?_)
        refine vi_aload_n C dX11_retryAt_47 rfl rfl ?_
        refine c_geti (f := 902) (k := 9) (i := o5) C dX11_retryAt_48 rfl fX11_153 rfl (by decide) rfl hR c6 ?_
        refine vi_icmp_ne (t' := 71) C dX11_retryAt_51 rfl (by decide) (fun c15 => ?_) (fun c15 => ?_)
        · replace h := iN c15 h
          refine vi_aload C dX11_retryAt_71 rfl rfl ?_
          refine c_gets (f := 705) (k := 7) (i := o7) C dX11_retryAt_73 rfl fX11_135 rfl (by decide) rfl hR c8 rfl ?_
          refine vi_aload_n C dX11_retryAt_76 rfl rfl ?_
          refine c_getpL (f := 908) (k := 9) (i := o5) C dX11_retryAt_77 rfl fX11_139 rfl (by decide) rfl hR c6 rfl h (fun v11 h => ?_)
          refine c_cv0 (kc := 6) (a := (ad z x 6 (o7))) C [va_rf (v11)] [] dX11_retryAt_80 rfl ivX11_143 imX6_add rfl rfl (rcK hR c8) hR hF h (fun _ e => p_X6_add c8 e hR) rfl (Nat.le_of_ble_eq_true rfl) ⟨by decide, by decide⟩ ⟨Nat.le_refl _, Nat.le_refl _⟩ (fun S M12 h hR hF => ?_)
          refine vi_aload_n C dX11_retryAt_83 rfl rfl ?_
          refine c_geti (f := 901) (k := 9) (i := o5) C dX11_retryAt_84 rfl fX11_82 rfl (by decide) rfl hR c6 ?_
          exact c_ret1 C dX11_retryAt_87 rfl hR hF ⟨Nat.zero_le _, Nat.zero_le _⟩ h
        · replace h := iT c15 h
          refine vi_aload_n C dX11_retryAt_54 rfl rfl ?_
          refine vi_aload C dX11_retryAt_55 rfl rfl ?_
          refine c_gets (f := 703) (k := 7) (i := o7) C dX11_retryAt_57 rfl fX11_85 rfl (by decide) rfl hR c8 rfl ?_
          refine c_gets (f := 1003) (k := 10) (i := o7) C dX11_retryAt_60 rfl fX11_156 rfl (by decide) rfl hR c8 rfl ?_
          refine vi_iload_n C dX11_retryAt_63 rfl rfl ?_
          refine c_iaload C dX11_retryAt_64 rfl rfl hR ⟨c8, by decide⟩ h (fun v13 h => ?_)
          refine c_cv0 (kc := 9) (a := (ad z x 9 (o5))) C [.int (v13)] [] dX11_retryAt_65 rfl ivX11_159 imX9_endBy rfl rfl (rcK hR c6) hR hF h (fun _ e => p_X9_endBy c6 e hR) rfl (Nat.le_of_ble_eq_true rfl) ⟨by decide, by decide⟩ ⟨Nat.le_refl _, Nat.le_refl _⟩ (fun S M14 h hR hF => ?_)
          refine vi_goto (t' := 83) C dX11_retryAt_68 (by decide) ?_
          refine vi_aload_n C dX11_retryAt_83 rfl rfl ?_
          refine c_geti (f := 901) (k := 9) (i := o5) C dX11_retryAt_84 rfl fX11_82 rfl (by decide) rfl hR c6 ?_
          exact c_ret1 C dX11_retryAt_87 rfl hR hF ⟨Nat.zero_le _, Nat.zero_le _⟩ h
      · replace h := iN c16 h
        refine vi_iconst (v := -1) C dX11_retryAt_30 rfl (by decide) ?_
        exact c_ret1 C dX11_retryAt_31 rfl hR hF ⟨Nat.zero_le _, Nat.zero_le _⟩ h

def F_X11_tickOf (N : Nat) (M : vC) (a1 : Int32) : Option (vC × Int32) := b2 (F_X11_upNumber N M (a1)) fun M1 v2 => oc (v2) (some (M1, (-1 : Int32))) (fun o3 => gd (o3 < N) <| (F_X7_tick N M1 (o3)).bind fun M5 => some (M5, (cI M5 303 (0))))

set_option maxRecDepth 100000 in
set_option maxHeartbeats 4000000 in
theorem p_X11_tickOf {N : Nat} {M : vC} {R : (vC × Int32)} {a1 : Int32}  (h : F_X11_tickOf N M a1 = some R) {E : vE} {S0 : vS} {z x d0 : Nat} (hR : RC S0 z x N d0 M) : vi_Met E yX11_tickOf cX11_tickOf 3 (some .int) 7 0 0 [.ref (ad z x 11 (0)), .int (a1)] S0 (cz M) (D1 S0 z x N d0 R) := by
  refine vi_met (by decide) (Nat.le_of_ble_eq_true rfl) ?_
  intro X C
  have hF := cF.refl S0 z x N d0
  unfold F_X11_tickOf at h
  refine vi_aload_n C dX11_tickOf_0 rfl rfl ?_
  refine vi_iload_n C dX11_tickOf_1 rfl rfl ?_
  refine c_cv3 (kc := 11) (a := (ad z x 11 (0))) (kt := 7) C [.int (a1)] [] dX11_tickOf_2 rfl ivX11_78 imX11_upNumber rfl rfl (rcK hR (rfl : 0 = 0)) hR hF h (fun _ e => p_X11_upNumber  e hR) rfl (Nat.le_of_ble_eq_true rfl) ⟨by decide, by decide⟩ ⟨Nat.le_refl _, Nat.le_refl _⟩ (fun S M1 v2 h hR hF => ?_)
  refine vi_astore_nq (o := ((v2).map (ad z x 7))) C dX11_tickOf_5 rfl (by decide) ?_
  refine vi_aload_nq (o := ((v2).map (ad z x 7))) C dX11_tickOf_6 rfl rfl ?_
  rcases oco h with ⟨rfl, hh⟩ | ⟨o3, rfl, hh⟩
  · replace h := hh
    clear hh
    refine vi_ifnonnull (o := none) (t' := 12) C dX11_tickOf_7 rfl (by decide) (fun e => absurd rfl e) (fun _ => ?_)
    refine vi_iconst (v := -1) C dX11_tickOf_10 rfl (by decide) ?_
    exact c_ret1 C dX11_tickOf_11 rfl hR hF ⟨Nat.zero_le _, Nat.zero_le _⟩ h
  · replace h := hh
    clear hh
    refine vi_ifnonnull (o := (some (ad z x 7 (o3)))) (t' := 12) C dX11_tickOf_7 rfl (by decide) (fun _ => ?_) (fun e => by cases e)
    obtain ⟨c4, h⟩ := gdo h
    refine vi_aload_n C dX11_tickOf_12 rfl rfl ?_
    refine c_cv0 (kc := 7) (a := (ad z x 7 (o3))) C [] [] dX11_tickOf_13 rfl ivX11_162 imX7_tick rfl rfl (rcK hR c4) hR hF h (fun _ e => p_X7_tick c4 e hR) rfl (Nat.le_of_ble_eq_true rfl) ⟨by decide, by decide⟩ ⟨Nat.le_refl _, Nat.le_refl _⟩ (fun S M5 h hR hF => ?_)
    refine vi_aload_n C dX11_tickOf_16 rfl rfl ?_
    refine c_gets (f := 1105) (k := 11) (i := 0) C dX11_tickOf_17 rfl fX11_40 rfl (by decide) rfl hR (rfl : 0 = 0) rfl ?_
    refine c_geti (f := 303) (k := 3) (i := 0) C dX11_tickOf_20 rfl fX11_165 rfl (by decide) rfl hR (rfl : 0 = 0) ?_
    exact c_ret1 C dX11_tickOf_23 rfl hR hF ⟨Nat.zero_le _, Nat.zero_le _⟩ h

def F_X11_deliverAt (N : Nat) (M : vC) (a1 : Int32) : Option (vC × Int32) := b2 (F_X3_take N M (a1)) fun M1 v2 => oc (v2) (some (M1, (-1 : Int32))) (fun o3 => gd (o3 < 202) <| b2 (F_X1_isSpoilt N M1 (o3)) fun M5 v6 => if v6 = 0 then (b2 (F_X11_upNumber N M5 ((cI M5 102 (o3)))) fun M7 v8 => oc (v8) (some (M7, (cI M5 100 (o3)))) (fun o9 => gd (o9 < N) <| (F_X7_receive N M7 (o9) (o3)).bind fun M11 => some (M11, (cI M5 100 (o3))))) else (lt1 (uI M5 306 (0) (((cI M5 306 (0)) + (1 : Int32)))) fun M12 => some (M12, (0 : Int32))))

set_option maxRecDepth 100000 in
set_option maxHeartbeats 4000000 in
theorem p_X11_deliverAt {N : Nat} {M : vC} {R : (vC × Int32)} {a1 : Int32}  (h : F_X11_deliverAt N M a1 = some R) {E : vE} {S0 : vS} {z x d0 : Nat} (hR : RC S0 z x N d0 M) : vi_Met E yX11_deliverAt cX11_deliverAt 5 (some .int) 7 1 256 [.ref (ad z x 11 (0)), .int (a1)] S0 (cz M) (D1 S0 z x N d0 R) := by
  refine vi_met (by decide) (Nat.le_of_ble_eq_true rfl) ?_
  intro X C
  have hF := cF.refl S0 z x N d0
  unfold F_X11_deliverAt at h
  refine vi_aload_n C dX11_deliverAt_0 rfl rfl ?_
  refine c_gets (f := 1105) (k := 11) (i := 0) C dX11_deliverAt_1 rfl fX11_40 rfl (by decide) rfl hR (rfl : 0 = 0) rfl ?_
  refine vi_iload_n C dX11_deliverAt_4 rfl rfl ?_
  refine c_cv3 (kc := 3) (a := (ad z x 3 (0))) (kt := 1) C [.int (a1)] [] dX11_deliverAt_5 rfl ivX11_168 imX3_take rfl rfl (rcK hR (rfl : 0 = 0)) hR hF h (fun _ e => p_X3_take  e hR) rfl (Nat.le_of_ble_eq_true rfl) ⟨by decide, by decide⟩ ⟨by omega, by omega⟩ (fun S M1 v2 h hR hF => ?_)
  refine vi_astore_nq (o := ((v2).map (ad z x 1))) C dX11_deliverAt_8 rfl (by decide) ?_
  refine vi_aload_nq (o := ((v2).map (ad z x 1))) C dX11_deliverAt_9 rfl rfl ?_
  rcases oco h with ⟨rfl, hh⟩ | ⟨o3, rfl, hh⟩
  · replace h := hh
    clear hh
    refine vi_ifnonnull (o := none) (t' := 15) C dX11_deliverAt_10 rfl (by decide) (fun e => absurd rfl e) (fun _ => ?_)
    refine vi_iconst (v := -1) C dX11_deliverAt_13 rfl (by decide) ?_
    exact c_ret1 C dX11_deliverAt_14 rfl hR hF ⟨Nat.zero_le _, Nat.zero_le _⟩ h
  · replace h := hh
    clear hh
    refine vi_ifnonnull (o := (some (ad z x 1 (o3)))) (t' := 15) C dX11_deliverAt_10 rfl (by decide) (fun _ => ?_) (fun e => by cases e)
    obtain ⟨c4, h⟩ := gdo h
    refine vi_aload_n C dX11_deliverAt_15 rfl rfl ?_
    refine c_cv1 (kc := 1) (a := (ad z x 1 (o3))) C [] [] dX11_deliverAt_16 rfl ivX11_172 imX1_isSpoilt rfl rfl (rcK hR c4) hR hF h (fun _ e => p_X1_isSpoilt c4 e hR) rfl (Nat.le_of_ble_eq_true rfl) ⟨by decide, by decide⟩ ⟨by omega, by omega⟩ (fun S M5 v6 h hR hF => ?_)
    refine vi_if_eq (t' := 37) C dX11_deliverAt_19 rfl (by decide) (fun c13 => ?_) (fun c13 => ?_)
    · replace h := iT c13 h
      refine vi_aload_n C dX11_deliverAt_37 rfl rfl ?_
      refine c_geti (f := 100) (k := 1) (i := o3) C dX11_deliverAt_38 rfl fX11_181 rfl (by decide) rfl hR c4 ?_
      refine vi_istore_n C dX11_deliverAt_41 rfl (by decide) ?_
      refine vi_aload_n C dX11_deliverAt_42 rfl rfl ?_
      refine vi_aload_n C dX11_deliverAt_43 rfl rfl ?_
      refine c_geti (f := 102) (k := 1) (i := o3) C dX11_deliverAt_44 rfl fX11_184 rfl (by decide) rfl hR c4 ?_
      refine c_cv3 (kc := 11) (a := (ad z x 11 (0))) (kt := 7) C [.int ((cI M5 102 (o3)))] [] dX11_deliverAt_47 rfl ivX11_78 imX11_upNumber rfl rfl (rcK hR (rfl : 0 = 0)) hR hF h (fun _ e => p_X11_upNumber  e hR) rfl (Nat.le_of_ble_eq_true rfl) ⟨by decide, by decide⟩ ⟨by omega, by omega⟩ (fun S M7 v8 h hR hF => ?_)
      refine vi_astoreq (o := ((v8).map (ad z x 7))) C dX11_deliverAt_50 rfl (by decide) ?_
      refine vi_aloadq (o := ((v8).map (ad z x 7))) C dX11_deliverAt_52 rfl rfl ?_
      rcases oco h with ⟨rfl, hh⟩ | ⟨o9, rfl, hh⟩
      · replace h := hh
        clear hh
        refine vi_ifnull (o := none) (t' := 63) C dX11_deliverAt_54 rfl (by decide) (fun _ => ?_) (fun e => absurd rfl e)
        refine vi_iload_n C dX11_deliverAt_63 rfl rfl ?_
        exact c_ret1 C dX11_deliverAt_64 rfl hR hF ⟨Nat.zero_le _, Nat.zero_le _⟩ h
      · replace h := hh
        clear hh
        refine vi_ifnull (o := (some (ad z x 7 (o9)))) (t' := 63) C dX11_deliverAt_54 rfl (by decide) (fun e => by cases e) (fun _ => ?_)
        obtain ⟨c10, h⟩ := gdo h
        refine vi_aload C dX11_deliverAt_57 rfl rfl ?_
        refine vi_aload_n C dX11_deliverAt_59 rfl rfl ?_
        refine c_cv0 (kc := 7) (a := (ad z x 7 (o9))) C [.ref (ad z x 1 (o3))] [] dX11_deliverAt_60 rfl ivX11_187 imX7_receive rfl rfl (rcK hR c10) hR hF h (fun _ e => p_X7_receive c10 c4 e hR) rfl (Nat.le_of_ble_eq_true rfl) ⟨by decide, by decide⟩ ⟨by omega, by omega⟩ (fun S M11 h hR hF => ?_)
        refine vi_iload_n C dX11_deliverAt_63 rfl rfl ?_
        exact c_ret1 C dX11_deliverAt_64 rfl hR hF ⟨by omega, by omega⟩ h
    · replace h := iN c13 h
      refine vi_aload_n C dX11_deliverAt_22 rfl rfl ?_
      refine c_gets (f := 1105) (k := 11) (i := 0) C dX11_deliverAt_23 rfl fX11_40 rfl (by decide) rfl hR (rfl : 0 = 0) rfl ?_
      refine vi_dup C dX11_deliverAt_26 rfl rfl ?_
      refine c_geti (f := 306) (k := 3) (i := 0) C dX11_deliverAt_27 rfl fX11_178 rfl (by decide) rfl hR (rfl : 0 = 0) ?_
      refine vi_iconst (v := 1) C dX11_deliverAt_30 rfl (by decide) ?_
      refine vi_iadd C dX11_deliverAt_31 rfl ?_
      refine c_puti (f := 306) (k := 3) (i := 0) C dX11_deliverAt_32 rfl (fpX11_178 _) rfl (by decide) rfl hR hF (rfl : 0 = 0) h (fun S M12 h hR hF => ?_)
      refine vi_iconst (v := 0) C dX11_deliverAt_35 rfl (by decide) ?_
      exact c_ret1 C dX11_deliverAt_36 rfl hR hF ⟨Nat.zero_le _, Nat.zero_le _⟩ h

def F_X11_loseAt (N : Nat) (M : vC) (a1 : Int32) : Option (vC × Int32) := b2 (F_X3_take N M (a1)) fun M1 v2 => oc (v2) (zb ((0 : Int32)) (some (M1, (0 : Int32)))) (fun o3 => gd (o3 < 202) <| zb ((1 : Int32)) (some (M1, (1 : Int32))))

set_option maxRecDepth 100000 in
set_option maxHeartbeats 4000000 in
theorem p_X11_loseAt {N : Nat} {M : vC} {R : (vC × Int32)} {a1 : Int32}  (h : F_X11_loseAt N M a1 = some R) {E : vE} {S0 : vS} {z x d0 : Nat} (hR : RC S0 z x N d0 M) : vi_Met E yX11_loseAt cX11_loseAt 2 (some .boolean) 2 0 0 [.ref (ad z x 11 (0)), .int (a1)] S0 (cz M) (D1 S0 z x N d0 R) := by
  refine vi_met (by decide) (Nat.le_of_ble_eq_true rfl) ?_
  intro X C
  have hF := cF.refl S0 z x N d0
  unfold F_X11_loseAt at h
  refine vi_aload_n C dX11_loseAt_0 rfl rfl ?_
  refine c_gets (f := 1105) (k := 11) (i := 0) C dX11_loseAt_1 rfl fX11_40 rfl (by decide) rfl hR (rfl : 0 = 0) rfl ?_
  refine vi_iload_n C dX11_loseAt_4 rfl rfl ?_
  refine c_cv3 (kc := 3) (a := (ad z x 3 (0))) (kt := 1) C [.int (a1)] [] dX11_loseAt_5 rfl ivX11_168 imX3_take rfl rfl (rcK hR (rfl : 0 = 0)) hR hF h (fun _ e => p_X3_take  e hR) rfl (Nat.le_of_ble_eq_true rfl) ⟨by decide, by decide⟩ ⟨Nat.le_refl _, Nat.le_refl _⟩ (fun S M1 v2 h hR hF => ?_)
  rcases oco h with ⟨rfl, hh⟩ | ⟨o3, rfl, hh⟩
  · replace h := hh
    clear hh
    refine vi_ifnull (o := none) (t' := 15) C dX11_loseAt_8 rfl (by decide) (fun _ => ?_) (fun e => absurd rfl e)
    refine vi_iconst (v := 0) C dX11_loseAt_15 rfl (by decide) ?_
    exact c_retz C dX11_loseAt_16 rfl hR hF ⟨Nat.zero_le _, Nat.zero_le _⟩ h
  · replace h := hh
    clear hh
    refine vi_ifnull (o := (some (ad z x 1 (o3)))) (t' := 15) C dX11_loseAt_8 rfl (by decide) (fun e => by cases e) (fun _ => ?_)
    obtain ⟨c4, h⟩ := gdo h
    refine vi_iconst (v := 1) C dX11_loseAt_11 rfl (by decide) ?_
    refine vi_goto (t' := 16) C dX11_loseAt_12 (by decide) ?_
    exact c_retz C dX11_loseAt_16 rfl hR hF ⟨Nat.zero_le _, Nat.zero_le _⟩ h

def F_X11_doubleAt (N : Nat) (M : vC) (a1 : Int32) : Option (vC × Int32) := b2 (F_X3_look N M (a1)) fun M1 v2 => oc (v2) (zb ((0 : Int32)) (some (M1, (0 : Int32)))) (fun o3 => gd (o3 < 202) <| if (cI M1 303 (0)) < (200 : Int32) then ((F_X3_repeat N M1 (o3)).bind fun M5 => zb ((1 : Int32)) (some (M5, (1 : Int32)))) else (zb ((0 : Int32)) (some (M1, (0 : Int32)))))

set_option maxRecDepth 100000 in
set_option maxHeartbeats 4000000 in
theorem p_X11_doubleAt {N : Nat} {M : vC} {R : (vC × Int32)} {a1 : Int32}  (h : F_X11_doubleAt N M a1 = some R) {E : vE} {S0 : vS} {z x d0 : Nat} (hR : RC S0 z x N d0 M) : vi_Met E yX11_doubleAt cX11_doubleAt 3 (some .boolean) 3 0 0 [.ref (ad z x 11 (0)), .int (a1)] S0 (cz M) (D1 S0 z x N d0 R) := by
  refine vi_met (by decide) (Nat.le_of_ble_eq_true rfl) ?_
  intro X C
  have hF := cF.refl S0 z x N d0
  unfold F_X11_doubleAt at h
  refine vi_aload_n C dX11_doubleAt_0 rfl rfl ?_
  refine c_gets (f := 1105) (k := 11) (i := 0) C dX11_doubleAt_1 rfl fX11_40 rfl (by decide) rfl hR (rfl : 0 = 0) rfl ?_
  refine vi_iload_n C dX11_doubleAt_4 rfl rfl ?_
  refine c_cv3 (kc := 3) (a := (ad z x 3 (0))) (kt := 1) C [.int (a1)] [] dX11_doubleAt_5 rfl ivX11_191 imX3_look rfl rfl (rcK hR (rfl : 0 = 0)) hR hF h (fun _ e => p_X3_look  e hR) rfl (Nat.le_of_ble_eq_true rfl) ⟨by decide, by decide⟩ ⟨Nat.le_refl _, Nat.le_refl _⟩ (fun S M1 v2 h hR hF => ?_)
  refine vi_astore_nq (o := ((v2).map (ad z x 1))) C dX11_doubleAt_8 rfl (by decide) ?_
  refine vi_aload_nq (o := ((v2).map (ad z x 1))) C dX11_doubleAt_9 rfl rfl ?_
  rcases oco h with ⟨rfl, hh⟩ | ⟨o3, rfl, hh⟩
  · replace h := hh
    clear hh
    refine vi_ifnull (o := none) (t' := 26) C dX11_doubleAt_10 rfl (by decide) (fun _ => ?_) (fun e => absurd rfl e)
    refine vi_iconst (v := 0) C dX11_doubleAt_26 rfl (by decide) ?_
    exact c_retz C dX11_doubleAt_27 rfl hR hF ⟨Nat.zero_le _, Nat.zero_le _⟩ h
  · replace h := hh
    clear hh
    refine vi_ifnull (o := (some (ad z x 1 (o3)))) (t' := 26) C dX11_doubleAt_10 rfl (by decide) (fun e => by cases e) (fun _ => ?_)
    obtain ⟨c4, h⟩ := gdo h
    refine vi_aload_n C dX11_doubleAt_13 rfl rfl ?_
    refine c_gets (f := 1105) (k := 11) (i := 0) C dX11_doubleAt_14 rfl fX11_40 rfl (by decide) rfl hR (rfl : 0 = 0) rfl ?_
    refine c_geti (f := 303) (k := 3) (i := 0) C dX11_doubleAt_17 rfl fX11_165 rfl (by decide) rfl hR (rfl : 0 = 0) ?_
    refine vi_sipush (v := 200) C dX11_doubleAt_20 rfl (by decide) ?_
    refine vi_icmp_lt (t' := 28) C dX11_doubleAt_23 rfl (by decide) (fun c6 => ?_) (fun c6 => ?_)
    · replace h := iT c6 h
      refine vi_aload_n C dX11_doubleAt_28 rfl rfl ?_
      refine c_gets (f := 1105) (k := 11) (i := 0) C dX11_doubleAt_29 rfl fX11_40 rfl (by decide) rfl hR (rfl : 0 = 0) rfl ?_
      refine vi_aload_n C dX11_doubleAt_32 rfl rfl ?_
      refine c_cv0 (kc := 3) (a := (ad z x 3 (0))) C [.ref (ad z x 1 (o3))] [] dX11_doubleAt_33 rfl ivX11_194 imX3_repeat rfl rfl (rcK hR (rfl : 0 = 0)) hR hF h (fun _ e => p_X3_repeat c4 e hR) rfl (Nat.le_of_ble_eq_true rfl) ⟨by decide, by decide⟩ ⟨Nat.le_refl _, Nat.le_refl _⟩ (fun S M5 h hR hF => ?_)
      refine vi_iconst (v := 1) C dX11_doubleAt_36 rfl (by decide) ?_
      exact c_retz C dX11_doubleAt_37 rfl hR hF ⟨Nat.zero_le _, Nat.zero_le _⟩ h
    · replace h := iN c6 h
      refine vi_iconst (v := 0) C dX11_doubleAt_26 rfl (by decide) ?_
      exact c_retz C dX11_doubleAt_27 rfl hR hF ⟨Nat.zero_le _, Nat.zero_le _⟩ h

def F_X11_spoilAt (N : Nat) (M : vC) (a1 : Int32) (a2 : Int32) (a3 : Int32) : Option (vC × Int32) := b2 (F_X3_look N M (a1)) fun M1 v2 => oc (v2) (zb ((0 : Int32)) (some (M1, (0 : Int32)))) (fun o3 => gd (o3 < 202) <| b2 (F_X1_isSpoilt N M1 (o3)) fun M5 v6 => if v6 = 0 then (if a2 < 0 then (zb ((0 : Int32)) (some (M5, (0 : Int32)))) else (if a3 < 0 then (zb ((0 : Int32)) (some (M5, (0 : Int32)))) else (if a3 ≤ (7 : Int32) then ((F_X1_writeTo N M5 (o3) (0)).bind fun M7 => if a2 < (cI M7 1 (0)) then (lt1 (uI M7 109 (o3) (a2)) fun M8 => lt1 (uI M8 110 (o3) (a3)) fun M9 => zb ((1 : Int32)) (some (M9, (1 : Int32)))) else (zb ((0 : Int32)) (some (M7, (0 : Int32))))) else (zb ((0 : Int32)) (some (M5, (0 : Int32))))))) else (zb ((0 : Int32)) (some (M5, (0 : Int32)))))

set_option maxRecDepth 100000 in
set_option maxHeartbeats 4000000 in
theorem p_X11_spoilAt {N : Nat} {M : vC} {R : (vC × Int32)} {a1 : Int32} {a2 : Int32} {a3 : Int32}  (h : F_X11_spoilAt N M a1 a2 a3 = some R) {E : vE} {S0 : vS} {z x d0 : Nat} (hR : RC S0 z x N d0 M) : vi_Met E yX11_spoilAt cX11_spoilAt 5 (some .boolean) 4 0 0 [.ref (ad z x 11 (0)), .int (a1), .int (a2), .int (a3)] S0 (cz M) (D1 S0 z x N d0 R) := by
  refine vi_met (by decide) (Nat.le_of_ble_eq_true rfl) ?_
  intro X C
  have hF := cF.refl S0 z x N d0
  unfold F_X11_spoilAt at h
  refine vi_aload_n C dX11_spoilAt_0 rfl rfl ?_
  refine c_gets (f := 1105) (k := 11) (i := 0) C dX11_spoilAt_1 rfl fX11_40 rfl (by decide) rfl hR (rfl : 0 = 0) rfl ?_
  refine vi_iload_n C dX11_spoilAt_4 rfl rfl ?_
  refine c_cv3 (kc := 3) (a := (ad z x 3 (0))) (kt := 1) C [.int (a1)] [] dX11_spoilAt_5 rfl ivX11_191 imX3_look rfl rfl (rcK hR (rfl : 0 = 0)) hR hF h (fun _ e => p_X3_look  e hR) rfl (Nat.le_of_ble_eq_true rfl) ⟨by decide, by decide⟩ ⟨Nat.le_refl _, Nat.le_refl _⟩ (fun S M1 v2 h hR hF => ?_)
  refine vi_astoreq (o := ((v2).map (ad z x 1))) C dX11_spoilAt_8 rfl (by decide) ?_
  refine vi_aloadq (o := ((v2).map (ad z x 1))) C dX11_spoilAt_10 rfl rfl ?_
  rcases oco h with ⟨rfl, hh⟩ | ⟨o3, rfl, hh⟩
  · replace h := hh
    clear hh
    refine vi_ifnull (o := none) (t' := 37) C dX11_spoilAt_12 rfl (by decide) (fun _ => ?_) (fun e => absurd rfl e)
    refine vi_iconst (v := 0) C dX11_spoilAt_37 rfl (by decide) ?_
    exact c_retz C dX11_spoilAt_38 rfl hR hF ⟨Nat.zero_le _, Nat.zero_le _⟩ h
  · replace h := hh
    clear hh
    refine vi_ifnull (o := (some (ad z x 1 (o3)))) (t' := 37) C dX11_spoilAt_12 rfl (by decide) (fun e => by cases e) (fun _ => ?_)
    obtain ⟨c4, h⟩ := gdo h
    refine vi_aload C dX11_spoilAt_15 rfl rfl ?_
    refine c_cv1 (kc := 1) (a := (ad z x 1 (o3))) C [] [] dX11_spoilAt_17 rfl ivX11_172 imX1_isSpoilt rfl rfl (rcK hR c4) hR hF h (fun _ e => p_X1_isSpoilt c4 e hR) rfl (Nat.le_of_ble_eq_true rfl) ⟨by decide, by decide⟩ ⟨Nat.le_refl _, Nat.le_refl _⟩ (fun S M5 v6 h hR hF => ?_)
    refine vi_if_ne (t' := 37) C dX11_spoilAt_20 rfl (by decide) (fun c14 => ?_) (fun c14 => ?_)
    · replace h := iN c14 h
      refine vi_iconst (v := 0) C dX11_spoilAt_37 rfl (by decide) ?_
      exact c_retz C dX11_spoilAt_38 rfl hR hF ⟨Nat.zero_le _, Nat.zero_le _⟩ h
    · replace h := iT c14 h
      refine vi_iload_n C dX11_spoilAt_23 rfl rfl ?_
      refine vi_if_lt (t' := 37) C dX11_spoilAt_24 rfl (by decide) (fun c13 => ?_) (fun c13 => ?_)
      · replace h := iT c13 h
        refine vi_iconst (v := 0) C dX11_spoilAt_37 rfl (by decide) ?_
        exact c_retz C dX11_spoilAt_38 rfl hR hF ⟨Nat.zero_le _, Nat.zero_le _⟩ h
      · replace h := iN c13 h
        refine vi_iload_n C dX11_spoilAt_27 rfl rfl ?_
        refine vi_if_lt (t' := 37) C dX11_spoilAt_28 rfl (by decide) (fun c12 => ?_) (fun c12 => ?_)
        · replace h := iT c12 h
          refine vi_iconst (v := 0) C dX11_spoilAt_37 rfl (by decide) ?_
          exact c_retz C dX11_spoilAt_38 rfl hR hF ⟨Nat.zero_le _, Nat.zero_le _⟩ h
        · replace h := iN c12 h
          refine vi_iload_n C dX11_spoilAt_31 rfl rfl ?_
          refine vi_bipush (v := 7) C dX11_spoilAt_32 rfl (by decide) ?_
          refine vi_icmp_le (t' := 39) C dX11_spoilAt_34 rfl (by decide) (fun c11 => ?_) (fun c11 => ?_)
          · replace h := iT c11 h
            refine vi_aload C dX11_spoilAt_39 rfl rfl ?_
            refine vi_aload_n C dX11_spoilAt_41 rfl rfl ?_
            refine c_gets (f := 1106) (k := 11) (i := 0) C dX11_spoilAt_42 rfl fX11_33 rfl (by decide) rfl hR (rfl : 0 = 0) rfl ?_
            refine c_cv0 (kc := 1) (a := (ad z x 1 (o3))) C [.ref (ad z x 0 (0))] [] dX11_spoilAt_45 rfl ivX11_197 imX1_writeTo rfl rfl (rcK hR c4) hR hF h (fun _ e => p_X1_writeTo c4 (show 0 < 3 from by decide) e hR) rfl (Nat.le_of_ble_eq_true rfl) ⟨by decide, by decide⟩ ⟨Nat.le_refl _, Nat.le_refl _⟩ (fun S M7 h hR hF => ?_)
            refine vi_iload_n C dX11_spoilAt_48 rfl rfl ?_
            refine vi_aload_n C dX11_spoilAt_49 rfl rfl ?_
            refine c_gets (f := 1106) (k := 11) (i := 0) C dX11_spoilAt_50 rfl fX11_33 rfl (by decide) rfl hR (rfl : 0 = 0) rfl ?_
            refine c_geti (f := 1) (k := 0) (i := 0) C dX11_spoilAt_53 rfl fX11_200 rfl (by decide) rfl hR (show 0 < 3 from by decide) ?_
            refine vi_icmp_lt (t' := 61) C dX11_spoilAt_56 rfl (by decide) (fun c10 => ?_) (fun c10 => ?_)
            · replace h := iT c10 h
              refine vi_aload C dX11_spoilAt_61 rfl rfl ?_
              refine vi_iload_n C dX11_spoilAt_63 rfl rfl ?_
              refine c_puti (f := 109) (k := 1) (i := o3) C dX11_spoilAt_64 rfl (fpX11_203 _) rfl (by decide) rfl hR hF c4 h (fun S M8 h hR hF => ?_)
              refine vi_aload C dX11_spoilAt_67 rfl rfl ?_
              refine vi_iload_n C dX11_spoilAt_69 rfl rfl ?_
              refine c_puti (f := 110) (k := 1) (i := o3) C dX11_spoilAt_70 rfl (fpX11_206 _) rfl (by decide) rfl hR hF c4 h (fun S M9 h hR hF => ?_)
              refine vi_iconst (v := 1) C dX11_spoilAt_73 rfl (by decide) ?_
              exact c_retz C dX11_spoilAt_74 rfl hR hF ⟨Nat.zero_le _, Nat.zero_le _⟩ h
            · replace h := iN c10 h
              refine vi_iconst (v := 0) C dX11_spoilAt_59 rfl (by decide) ?_
              exact c_retz C dX11_spoilAt_60 rfl hR hF ⟨Nat.zero_le _, Nat.zero_le _⟩ h
          · replace h := iN c11 h
            refine vi_iconst (v := 0) C dX11_spoilAt_37 rfl (by decide) ?_
            exact c_retz C dX11_spoilAt_38 rfl hR hF ⟨Nat.zero_le _, Nat.zero_le _⟩ h

def F_X11_turnTo (N : Nat) (M : vC) (a1 : Int32) (a2 : Int32) : Option (vC × Int32) := b2 (F_X11_replicaNumber N M (a1)) fun M1 v2 => oc (v2) (zb ((0 : Int32)) (some (M1, (0 : Int32)))) (fun o3 => gd (o3 < N) <| if (cI M1 711 (o3)) = a2 then (zb ((0 : Int32)) (some (M1, (0 : Int32)))) else (if a2 = 0 then ((F_X7_goDown N M1 (o3)).bind fun M5 => zb ((1 : Int32)) (some (M5, (1 : Int32)))) else ((F_X7_comeUp N M1 (o3)).bind fun M6 => zb ((1 : Int32)) (some (M6, (1 : Int32))))))

set_option maxRecDepth 100000 in
set_option maxHeartbeats 4000000 in
theorem p_X11_turnTo {N : Nat} {M : vC} {R : (vC × Int32)} {a1 : Int32} {a2 : Int32}  (h : F_X11_turnTo N M a1 a2 = some R) {E : vE} {S0 : vS} {z x d0 : Nat} (hR : RC S0 z x N d0 M) : vi_Met E yX11_turnTo cX11_turnTo 4 (some .boolean) 7 256 2816 [.ref (ad z x 11 (0)), .int (a1), .int (a2)] S0 (cz M) (D1 S0 z x N d0 R) := by
  refine vi_met (by decide) (Nat.le_of_ble_eq_true rfl) ?_
  intro X C
  have hF := cF.refl S0 z x N d0
  unfold F_X11_turnTo at h
  refine vi_aload_n C dX11_turnTo_0 rfl rfl ?_
  refine vi_iload_n C dX11_turnTo_1 rfl rfl ?_
  refine c_cv3 (kc := 11) (a := (ad z x 11 (0))) (kt := 7) C [.int (a1)] [] dX11_turnTo_2 rfl ivX11_209 imX11_replicaNumber rfl rfl (rcK hR (rfl : 0 = 0)) hR hF h (fun _ e => p_X11_replicaNumber  e hR) rfl (Nat.le_of_ble_eq_true rfl) ⟨by decide, by decide⟩ ⟨by omega, by omega⟩ (fun S M1 v2 h hR hF => ?_)
  refine vi_astore_nq (o := ((v2).map (ad z x 7))) C dX11_turnTo_5 rfl (by decide) ?_
  refine vi_aload_nq (o := ((v2).map (ad z x 7))) C dX11_turnTo_6 rfl rfl ?_
  rcases oco h with ⟨rfl, hh⟩ | ⟨o3, rfl, hh⟩
  · replace h := hh
    clear hh
    refine vi_ifnull (o := none) (t' := 18) C dX11_turnTo_7 rfl (by decide) (fun _ => ?_) (fun e => absurd rfl e)
    refine vi_iconst (v := 0) C dX11_turnTo_18 rfl (by decide) ?_
    exact c_retz C dX11_turnTo_19 rfl hR hF ⟨Nat.zero_le _, Nat.zero_le _⟩ h
  · replace h := hh
    clear hh
    refine vi_ifnull (o := (some (ad z x 7 (o3)))) (t' := 18) C dX11_turnTo_7 rfl (by decide) (fun e => by cases e) (fun _ => ?_)
    obtain ⟨c4, h⟩ := gdo h
    refine vi_aload_n C dX11_turnTo_10 rfl rfl ?_
    refine c_geti (f := 711) (k := 7) (i := o3) C dX11_turnTo_11 rfl fX11_212 rfl (by decide) rfl hR c4 ?_
    refine vi_iload_n C dX11_turnTo_14 rfl rfl ?_
    refine vi_icmp_ne (t' := 20) C dX11_turnTo_15 rfl (by decide) (fun c8 => ?_) (fun c8 => ?_)
    · replace h := iN c8 h
      refine vi_iload_n C dX11_turnTo_20 rfl rfl ?_
      refine vi_if_eq (t' := 31) C dX11_turnTo_21 rfl (by decide) (fun c7 => ?_) (fun c7 => ?_)
      · replace h := iT c7 h
        refine vi_aload_n C dX11_turnTo_31 rfl rfl ?_
        refine c_cv0 (kc := 7) (a := (ad z x 7 (o3))) C [] [] dX11_turnTo_32 rfl ivX11_218 imX7_goDown rfl rfl (rcK hR c4) hR hF h (fun _ e => p_X7_goDown c4 e hR) rfl (Nat.le_of_ble_eq_true rfl) ⟨by decide, by decide⟩ ⟨by omega, by omega⟩ (fun S M5 h hR hF => ?_)
        refine vi_iconst (v := 1) C dX11_turnTo_35 rfl (by decide) ?_
        exact c_retz C dX11_turnTo_36 rfl hR hF ⟨Nat.zero_le _, Nat.zero_le _⟩ h
      · replace h := iN c7 h
        refine vi_aload_n C dX11_turnTo_24 rfl rfl ?_
        refine c_cv0 (kc := 7) (a := (ad z x 7 (o3))) C [] [] dX11_turnTo_25 rfl ivX11_215 imX7_comeUp rfl rfl (rcK hR c4) hR hF h (fun _ e => p_X7_comeUp c4 e hR) rfl (Nat.le_of_ble_eq_true rfl) ⟨by decide, by decide⟩ ⟨by omega, by omega⟩ (fun S M6 h hR hF => ?_)
        refine vi_goto (t' := 35) C dX11_turnTo_28 (by decide) ?_
        refine vi_iconst (v := 1) C dX11_turnTo_35 rfl (by decide) ?_
        exact c_retz C dX11_turnTo_36 rfl hR hF ⟨by omega, by omega⟩ h
    · replace h := iT c8 h
      refine vi_iconst (v := 0) C dX11_turnTo_18 rfl (by decide) ?_
      exact c_retz C dX11_turnTo_19 rfl hR hF ⟨Nat.zero_le _, Nat.zero_le _⟩ h

def F_X11_crashAfter (N : Nat) (M : vC) (a1 : Int32) (a2 : Int32) : Option (vC × Int32) := b2 (F_X11_upNumber N M (a1)) fun M1 v2 => oc (v2) (zb ((0 : Int32)) (some (M1, (0 : Int32)))) (fun o3 => gd (o3 < N) <| if a2 ≤ (1000 : Int32) then (if 0 ≤ a2 then (lt1 (uI M1 205 (o3) (a2)) fun M5 => zb ((1 : Int32)) (some (M5, (1 : Int32)))) else (lt1 (uI M1 205 (o3) ((-1 : Int32))) fun M6 => zb ((1 : Int32)) (some (M6, (1 : Int32))))) else (zb ((0 : Int32)) (some (M1, (0 : Int32)))))

set_option maxRecDepth 100000 in
set_option maxHeartbeats 4000000 in
theorem p_X11_crashAfter {N : Nat} {M : vC} {R : (vC × Int32)} {a1 : Int32} {a2 : Int32}  (h : F_X11_crashAfter N M a1 a2 = some R) {E : vE} {S0 : vS} {z x d0 : Nat} (hR : RC S0 z x N d0 M) : vi_Met E yX11_crashAfter cX11_crashAfter 4 (some .boolean) 2 0 0 [.ref (ad z x 11 (0)), .int (a1), .int (a2)] S0 (cz M) (D1 S0 z x N d0 R) := by
  refine vi_met (by decide) (Nat.le_of_ble_eq_true rfl) ?_
  intro X C
  have hF := cF.refl S0 z x N d0
  unfold F_X11_crashAfter at h
  refine vi_aload_n C dX11_crashAfter_0 rfl rfl ?_
  refine vi_iload_n C dX11_crashAfter_1 rfl rfl ?_
  refine c_cv3 (kc := 11) (a := (ad z x 11 (0))) (kt := 7) C [.int (a1)] [] dX11_crashAfter_2 rfl ivX11_78 imX11_upNumber rfl rfl (rcK hR (rfl : 0 = 0)) hR hF h (fun _ e => p_X11_upNumber  e hR) rfl (Nat.le_of_ble_eq_true rfl) ⟨by decide, by decide⟩ ⟨Nat.le_refl _, Nat.le_refl _⟩ (fun S M1 v2 h hR hF => ?_)
  refine vi_astore_nq (o := ((v2).map (ad z x 7))) C dX11_crashAfter_5 rfl (by decide) ?_
  refine vi_aload_nq (o := ((v2).map (ad z x 7))) C dX11_crashAfter_6 rfl rfl ?_
  rcases oco h with ⟨rfl, hh⟩ | ⟨o3, rfl, hh⟩
  · replace h := hh
    clear hh
    refine vi_ifnull (o := none) (t' := 17) C dX11_crashAfter_7 rfl (by decide) (fun _ => ?_) (fun e => absurd rfl e)
    refine vi_iconst (v := 0) C dX11_crashAfter_17 rfl (by decide) ?_
    exact c_retz C dX11_crashAfter_18 rfl hR hF ⟨Nat.zero_le _, Nat.zero_le _⟩ h
  · replace h := hh
    clear hh
    refine vi_ifnull (o := (some (ad z x 7 (o3)))) (t' := 17) C dX11_crashAfter_7 rfl (by decide) (fun e => by cases e) (fun _ => ?_)
    obtain ⟨c4, h⟩ := gdo h
    refine vi_iload_n C dX11_crashAfter_10 rfl rfl ?_
    refine vi_sipush (v := 1000) C dX11_crashAfter_11 rfl (by decide) ?_
    refine vi_icmp_le (t' := 19) C dX11_crashAfter_14 rfl (by decide) (fun c8 => ?_) (fun c8 => ?_)
    · replace h := iT c8 h
      refine vi_aload_n C dX11_crashAfter_19 rfl rfl ?_
      refine c_gets (f := 704) (k := 7) (i := o3) C dX11_crashAfter_20 rfl fX11_221 rfl (by decide) rfl hR c4 rfl ?_
      refine vi_iload_n C dX11_crashAfter_23 rfl rfl ?_
      refine vi_if_ge (t' := 31) C dX11_crashAfter_24 rfl (by decide) (fun c7 => ?_) (fun c7 => ?_)
      · replace h := iT c7 h
        refine vi_iload_n C dX11_crashAfter_31 rfl rfl ?_
        refine c_puti (f := 205) (k := 2) (i := o3) C dX11_crashAfter_32 rfl (fpX11_225 _) rfl (by decide) rfl hR hF c4 h (fun S M5 h hR hF => ?_)
        refine vi_iconst (v := 1) C dX11_crashAfter_35 rfl (by decide) ?_
        exact c_retz C dX11_crashAfter_36 rfl hR hF ⟨Nat.zero_le _, Nat.zero_le _⟩ h
      · replace h := iN c7 h
        refine vi_iconst (v := -1) C dX11_crashAfter_27 rfl (by decide) ?_
        refine vi_goto (t' := 32) C dX11_crashAfter_28 (by decide) ?_
        refine c_puti (f := 205) (k := 2) (i := o3) C dX11_crashAfter_32 rfl (fpX11_225 _) rfl (by decide) rfl hR hF c4 h (fun S M6 h hR hF => ?_)
        refine vi_iconst (v := 1) C dX11_crashAfter_35 rfl (by decide) ?_
        exact c_retz C dX11_crashAfter_36 rfl hR hF ⟨Nat.zero_le _, Nat.zero_le _⟩ h
    · replace h := iN c8 h
      refine vi_iconst (v := 0) C dX11_crashAfter_17 rfl (by decide) ?_
      exact c_retz C dX11_crashAfter_18 rfl hR hF ⟨Nat.zero_le _, Nat.zero_le _⟩ h

def F_X11_replicaOf (N : Nat) (M : vC) (a1 : Int32) (a2 : Int32) : Option (vC × Int32) := b2 (F_X11_replicaNumber N M (a1)) fun M1 v2 => oc (v2) (some (M1, (-1 : Int32))) (fun o3 => gd (o3 < N) <| if a2 = 0 then (if (cI M1 711 (o3)) = 0 then (some (M1, (0 : Int32))) else (some (M1, (1 : Int32)))) else (if (cI M1 711 (o3)) = 0 then (some (M1, (-1 : Int32))) else (b2 (F_X7_tell N M1 (o3) (a2)) fun M5 v6 => some (M5, v6))))

set_option maxRecDepth 100000 in
set_option maxHeartbeats 4000000 in
theorem p_X11_replicaOf {N : Nat} {M : vC} {R : (vC × Int32)} {a1 : Int32} {a2 : Int32}  (h : F_X11_replicaOf N M a1 a2 = some R) {E : vE} {S0 : vS} {z x d0 : Nat} (hR : RC S0 z x N d0 M) : vi_Met E yX11_replicaOf cX11_replicaOf 4 (some .int) 2 0 0 [.ref (ad z x 11 (0)), .int (a1), .int (a2)] S0 (cz M) (D1 S0 z x N d0 R) := by
  refine vi_met (by decide) (Nat.le_of_ble_eq_true rfl) ?_
  intro X C
  have hF := cF.refl S0 z x N d0
  unfold F_X11_replicaOf at h
  refine vi_aload_n C dX11_replicaOf_0 rfl rfl ?_
  refine vi_iload_n C dX11_replicaOf_1 rfl rfl ?_
  refine c_cv3 (kc := 11) (a := (ad z x 11 (0))) (kt := 7) C [.int (a1)] [] dX11_replicaOf_2 rfl ivX11_209 imX11_replicaNumber rfl rfl (rcK hR (rfl : 0 = 0)) hR hF h (fun _ e => p_X11_replicaNumber  e hR) rfl (Nat.le_of_ble_eq_true rfl) ⟨by decide, by decide⟩ ⟨Nat.le_refl _, Nat.le_refl _⟩ (fun S M1 v2 h hR hF => ?_)
  refine vi_astore_nq (o := ((v2).map (ad z x 7))) C dX11_replicaOf_5 rfl (by decide) ?_
  refine vi_aload_nq (o := ((v2).map (ad z x 7))) C dX11_replicaOf_6 rfl rfl ?_
  rcases oco h with ⟨rfl, hh⟩ | ⟨o3, rfl, hh⟩
  · replace h := hh
    clear hh
    refine vi_ifnonnull (o := none) (t' := 12) C dX11_replicaOf_7 rfl (by decide) (fun e => absurd rfl e) (fun _ => ?_)
    refine vi_iconst (v := -1) C dX11_replicaOf_10 rfl (by decide) ?_
    exact c_ret1 C dX11_replicaOf_11 rfl hR hF ⟨Nat.zero_le _, Nat.zero_le _⟩ h
  · replace h := hh
    clear hh
    refine vi_ifnonnull (o := (some (ad z x 7 (o3)))) (t' := 12) C dX11_replicaOf_7 rfl (by decide) (fun _ => ?_) (fun e => by cases e)
    obtain ⟨c4, h⟩ := gdo h
    refine vi_iload_n C dX11_replicaOf_12 rfl rfl ?_
    refine vi_if_ne (t' := 29) C dX11_replicaOf_13 rfl (by decide) (fun c9 => ?_) (fun c9 => ?_)
    · replace h := iN c9 h
      refine vi_aload_n C dX11_replicaOf_29 rfl rfl ?_
      refine c_geti (f := 711) (k := 7) (i := o3) C dX11_replicaOf_30 rfl fX11_212 rfl (by decide) rfl hR c4 ?_
      refine vi_if_eq (t' := 44) C dX11_replicaOf_33 rfl (by decide) (fun c7 => ?_) (fun c7 => ?_)
      · replace h := iT c7 h
        refine vi_iconst (v := -1) C dX11_replicaOf_44 rfl (by decide) ?_
        exact c_ret1 C dX11_replicaOf_45 rfl hR hF ⟨Nat.zero_le _, Nat.zero_le _⟩ h
      · replace h := iN c7 h
        refine vi_aload_n C dX11_replicaOf_36 rfl rfl ?_
        refine vi_iload_n C dX11_replicaOf_37 rfl rfl ?_
        refine c_cv1 (kc := 7) (a := (ad z x 7 (o3))) C [.int (a2)] [] dX11_replicaOf_38 rfl ivX11_228 imX7_tell rfl rfl (rcK hR c4) hR hF h (fun _ e => p_X7_tell c4 e hR) rfl (Nat.le_of_ble_eq_true rfl) ⟨by decide, by decide⟩ ⟨Nat.le_refl _, Nat.le_refl _⟩ (fun S M5 v6 h hR hF => ?_)
        refine vi_goto (t' := 45) C dX11_replicaOf_41 (by decide) ?_
        exact c_ret1 C dX11_replicaOf_45 rfl hR hF ⟨Nat.zero_le _, Nat.zero_le _⟩ h
    · replace h := iT c9 h
      refine vi_aload_n C dX11_replicaOf_16 rfl rfl ?_
      refine c_geti (f := 711) (k := 7) (i := o3) C dX11_replicaOf_17 rfl fX11_212 rfl (by decide) rfl hR c4 ?_
      refine vi_if_eq (t' := 27) C dX11_replicaOf_20 rfl (by decide) (fun c8 => ?_) (fun c8 => ?_)
      · replace h := iT c8 h
        refine vi_iconst (v := 0) C dX11_replicaOf_27 rfl (by decide) ?_
        exact c_ret1 C dX11_replicaOf_28 rfl hR hF ⟨Nat.zero_le _, Nat.zero_le _⟩ h
      · replace h := iN c8 h
        refine vi_iconst (v := 1) C dX11_replicaOf_23 rfl (by decide) ?_
        refine vi_goto (t' := 28) C dX11_replicaOf_24 (by decide) ?_
        exact c_ret1 C dX11_replicaOf_28 rfl hR hF ⟨Nat.zero_le _, Nat.zero_le _⟩ h

def F_X11_journalOf (N : Nat) (M : vC) (a1 : Int32) (a2 : Int32) : Option (vC × Int32) := b2 (F_X11_replicaNumber N M (a1)) fun M1 v2 => oc (v2) (some (M1, (-1 : Int32))) (fun o3 => gd (o3 < N) <| if (cI M1 711 (o3)) = 0 then (if (4 : Int32) ≤ a2 then (b2 (F_X2_tell N M1 (o3) (a2)) fun M7 v8 => some (M7, v8)) else (some (M1, (-1 : Int32)))) else (b2 (F_X2_tell N M1 (o3) (a2)) fun M5 v6 => some (M5, v6)))

set_option maxRecDepth 100000 in
set_option maxHeartbeats 4000000 in
theorem p_X11_journalOf {N : Nat} {M : vC} {R : (vC × Int32)} {a1 : Int32} {a2 : Int32}  (h : F_X11_journalOf N M a1 a2 = some R) {E : vE} {S0 : vS} {z x d0 : Nat} (hR : RC S0 z x N d0 M) : vi_Met E yX11_journalOf cX11_journalOf 4 (some .int) 1 0 0 [.ref (ad z x 11 (0)), .int (a1), .int (a2)] S0 (cz M) (D1 S0 z x N d0 R) := by
  refine vi_met (by decide) (Nat.le_of_ble_eq_true rfl) ?_
  intro X C
  have hF := cF.refl S0 z x N d0
  unfold F_X11_journalOf at h
  refine vi_aload_n C dX11_journalOf_0 rfl rfl ?_
  refine vi_iload_n C dX11_journalOf_1 rfl rfl ?_
  refine c_cv3 (kc := 11) (a := (ad z x 11 (0))) (kt := 7) C [.int (a1)] [] dX11_journalOf_2 rfl ivX11_209 imX11_replicaNumber rfl rfl (rcK hR (rfl : 0 = 0)) hR hF h (fun _ e => p_X11_replicaNumber  e hR) rfl (Nat.le_of_ble_eq_true rfl) ⟨by decide, by decide⟩ ⟨Nat.le_refl _, Nat.le_refl _⟩ (fun S M1 v2 h hR hF => ?_)
  refine vi_astore_nq (o := ((v2).map (ad z x 7))) C dX11_journalOf_5 rfl (by decide) ?_
  refine vi_aload_nq (o := ((v2).map (ad z x 7))) C dX11_journalOf_6 rfl rfl ?_
  rcases oco h with ⟨rfl, hh⟩ | ⟨o3, rfl, hh⟩
  · replace h := hh
    clear hh
    refine vi_ifnull (o := none) (t' := 22) C dX11_journalOf_7 rfl (by decide) (fun _ => ?_) (fun e => absurd rfl e)
    refine vi_iconst (v := -1) C dX11_journalOf_22 rfl (by decide) ?_
    exact c_ret1 C dX11_journalOf_23 rfl hR hF ⟨Nat.zero_le _, Nat.zero_le _⟩ h
  · replace h := hh
    clear hh
    refine vi_ifnull (o := (some (ad z x 7 (o3)))) (t' := 22) C dX11_journalOf_7 rfl (by decide) (fun e => by cases e) (fun _ => ?_)
    obtain ⟨c4, h⟩ := gdo h
    refine vi_aload_n C dX11_journalOf_10 rfl rfl ?_
    refine c_geti (f := 711) (k := 7) (i := o3) C dX11_journalOf_11 rfl fX11_212 rfl (by decide) rfl hR c4 ?_
    refine vi_if_ne (t' := 24) C dX11_journalOf_14 rfl (by decide) (fun c10 => ?_) (fun c10 => ?_)
    · replace h := iN c10 h
      refine vi_aload_n C dX11_journalOf_24 rfl rfl ?_
      refine c_gets (f := 704) (k := 7) (i := o3) C dX11_journalOf_25 rfl fX11_221 rfl (by decide) rfl hR c4 rfl ?_
      refine vi_iload_n C dX11_journalOf_28 rfl rfl ?_
      refine c_cv1 (kc := 2) (a := (ad z x 2 (o3))) C [.int (a2)] [] dX11_journalOf_29 rfl ivX11_232 imX2_tell rfl rfl (rcK hR c4) hR hF h (fun _ e => p_X2_tell c4 e hR) rfl (Nat.le_of_ble_eq_true rfl) ⟨by decide, by decide⟩ ⟨Nat.le_refl _, Nat.le_refl _⟩ (fun S M5 v6 h hR hF => ?_)
      exact c_ret1 C dX11_journalOf_32 rfl hR hF ⟨Nat.zero_le _, Nat.zero_le _⟩ h
    · replace h := iT c10 h
      refine vi_iload_n C dX11_journalOf_17 rfl rfl ?_
      refine vi_iconst (v := 4) C dX11_journalOf_18 rfl (by decide) ?_
      refine vi_icmp_ge (t' := 24) C dX11_journalOf_19 rfl (by decide) (fun c9 => ?_) (fun c9 => ?_)
      · replace h := iT c9 h
        refine vi_aload_n C dX11_journalOf_24 rfl rfl ?_
        refine c_gets (f := 704) (k := 7) (i := o3) C dX11_journalOf_25 rfl fX11_221 rfl (by decide) rfl hR c4 rfl ?_
        refine vi_iload_n C dX11_journalOf_28 rfl rfl ?_
        refine c_cv1 (kc := 2) (a := (ad z x 2 (o3))) C [.int (a2)] [] dX11_journalOf_29 rfl ivX11_232 imX2_tell rfl rfl (rcK hR c4) hR hF h (fun _ e => p_X2_tell c4 e hR) rfl (Nat.le_of_ble_eq_true rfl) ⟨by decide, by decide⟩ ⟨Nat.le_refl _, Nat.le_refl _⟩ (fun S M7 v8 h hR hF => ?_)
        exact c_ret1 C dX11_journalOf_32 rfl hR hF ⟨Nat.zero_le _, Nat.zero_le _⟩ h
      · replace h := iN c9 h
        refine vi_iconst (v := -1) C dX11_journalOf_22 rfl (by decide) ?_
        exact c_ret1 C dX11_journalOf_23 rfl hR hF ⟨Nat.zero_le _, Nat.zero_le _⟩ h

def F_X11_blockOf (N : Nat) (M : vC) (a1 : Int32) (a2 : Int32) (a3 : Int32) : Option (vC × Int64) := b2 (F_X11_replicaNumber N M (a1)) fun M1 v2 => oc (v2) (some (M1, (0 : Int64))) (fun o3 => gd (o3 < N) <| if a2 < 0 then (some (M1, (0 : Int64))) else (if (64 : Int32) ≤ a2 then (some (M1, (0 : Int64))) else (if a3 < 0 then (some (M1, (0 : Int64))) else (if a3 < (64 : Int32) then ((cGJ M1 (o3) (((a2 * (64 : Int32)) + a3))).bind fun v5 => some (M1, v5)) else (some (M1, (0 : Int64)))))))

set_option maxRecDepth 100000 in
set_option maxHeartbeats 4000000 in
theorem p_X11_blockOf {N : Nat} {M : vC} {R : (vC × Int64)} {a1 : Int32} {a2 : Int32} {a3 : Int32}  (h : F_X11_blockOf N M a1 a2 a3 = some R) {E : vE} {S0 : vS} {z x d0 : Nat} (hR : RC S0 z x N d0 M) : vi_Met E yX11_blockOf cX11_blockOf 5 (some .long) 1 0 0 [.ref (ad z x 11 (0)), .int (a1), .int (a2), .int (a3)] S0 (cz M) (D2 S0 z x N d0 R) := by
  refine vi_met (by decide) (Nat.le_of_ble_eq_true rfl) ?_
  intro X C
  have hF := cF.refl S0 z x N d0
  unfold F_X11_blockOf at h
  refine vi_aload_n C dX11_blockOf_0 rfl rfl ?_
  refine vi_iload_n C dX11_blockOf_1 rfl rfl ?_
  refine c_cv3 (kc := 11) (a := (ad z x 11 (0))) (kt := 7) C [.int (a1)] [] dX11_blockOf_2 rfl ivX11_209 imX11_replicaNumber rfl rfl (rcK hR (rfl : 0 = 0)) hR hF h (fun _ e => p_X11_replicaNumber  e hR) rfl (Nat.le_of_ble_eq_true rfl) ⟨by decide, by decide⟩ ⟨Nat.le_refl _, Nat.le_refl _⟩ (fun S M1 v2 h hR hF => ?_)
  refine vi_astoreq (o := ((v2).map (ad z x 7))) C dX11_blockOf_5 rfl (by decide) ?_
  refine vi_aloadq (o := ((v2).map (ad z x 7))) C dX11_blockOf_7 rfl rfl ?_
  rcases oco h with ⟨rfl, hh⟩ | ⟨o3, rfl, hh⟩
  · replace h := hh
    clear hh
    refine vi_ifnull (o := none) (t' := 32) C dX11_blockOf_9 rfl (by decide) (fun _ => ?_) (fun e => absurd rfl e)
    refine vi_lconst (v := 0) C dX11_blockOf_32 rfl (by decide) ?_
    exact c_ret2 C dX11_blockOf_33 rfl hR hF ⟨Nat.zero_le _, Nat.zero_le _⟩ h
  · replace h := hh
    clear hh
    refine vi_ifnull (o := (some (ad z x 7 (o3)))) (t' := 32) C dX11_blockOf_9 rfl (by decide) (fun e => by cases e) (fun _ => ?_)
    obtain ⟨c4, h⟩ := gdo h
    refine vi_iload_n C dX11_blockOf_12 rfl rfl ?_
    refine vi_if_lt (t' := 32) C dX11_blockOf_13 rfl (by decide) (fun c9 => ?_) (fun c9 => ?_)
    · replace h := iT c9 h
      refine vi_lconst (v := 0) C dX11_blockOf_32 rfl (by decide) ?_
      exact c_ret2 C dX11_blockOf_33 rfl hR hF ⟨Nat.zero_le _, Nat.zero_le _⟩ h
    · replace h := iN c9 h
      refine vi_iload_n C dX11_blockOf_16 rfl rfl ?_
      refine vi_bipush (v := 64) C dX11_blockOf_17 rfl (by decide) ?_
      refine vi_icmp_ge (t' := 32) C dX11_blockOf_19 rfl (by decide) (fun c8 => ?_) (fun c8 => ?_)
      · replace h := iT c8 h
        refine vi_lconst (v := 0) C dX11_blockOf_32 rfl (by decide) ?_
        exact c_ret2 C dX11_blockOf_33 rfl hR hF ⟨Nat.zero_le _, Nat.zero_le _⟩ h
      · replace h := iN c8 h
        refine vi_iload_n C dX11_blockOf_22 rfl rfl ?_
        refine vi_if_lt (t' := 32) C dX11_blockOf_23 rfl (by decide) (fun c7 => ?_) (fun c7 => ?_)
        · replace h := iT c7 h
          refine vi_lconst (v := 0) C dX11_blockOf_32 rfl (by decide) ?_
          exact c_ret2 C dX11_blockOf_33 rfl hR hF ⟨Nat.zero_le _, Nat.zero_le _⟩ h
        · replace h := iN c7 h
          refine vi_iload_n C dX11_blockOf_26 rfl rfl ?_
          refine vi_bipush (v := 64) C dX11_blockOf_27 rfl (by decide) ?_
          refine vi_icmp_lt (t' := 34) C dX11_blockOf_29 rfl (by decide) (fun c6 => ?_) (fun c6 => ?_)
          · replace h := iT c6 h
            refine vi_aload C dX11_blockOf_34 rfl rfl ?_
            refine c_gets (f := 704) (k := 7) (i := o3) C dX11_blockOf_36 rfl fX11_221 rfl (by decide) rfl hR c4 rfl ?_
            refine c_gets (f := 200) (k := 2) (i := o3) C dX11_blockOf_39 rfl fX11_233 rfl (by decide) rfl hR c4 rfl ?_
            refine vi_iload_n C dX11_blockOf_42 rfl rfl ?_
            refine vi_bipush (v := 64) C dX11_blockOf_43 rfl (by decide) ?_
            refine vi_imul C dX11_blockOf_45 rfl ?_
            refine vi_iload_n C dX11_blockOf_46 rfl rfl ?_
            refine vi_iadd C dX11_blockOf_47 rfl ?_
            refine c_laload C dX11_blockOf_48 rfl hR c4 h (fun v5 h => ?_)
            exact c_ret2 C dX11_blockOf_49 rfl hR hF ⟨Nat.zero_le _, Nat.zero_le _⟩ h
          · replace h := iN c6 h
            refine vi_lconst (v := 0) C dX11_blockOf_32 rfl (by decide) ?_
            exact c_ret2 C dX11_blockOf_33 rfl hR hF ⟨Nat.zero_le _, Nat.zero_le _⟩ h

def L_X11_frameOf_43 {ρ : Type} (N : Nat) (l2 : Int32) (l3 : Nat) (kx103 : vC → Int64 → Option ρ) : Nat → vC → Int64 → Int32 → Option ρ
  | 0, _, _, _ => none
  | f + 1, M, l4, l6 => if (((8 : Int32) * l2) + (8 : Int32)) ≤ l6 then (kx103 M (l4)) else (jn (fun (s0_74 : Int32) => b2 (F_X0_byteAt N M (0) (l6)) fun M8 v9 => L_X11_frameOf_43 N l2 l3 kx103 f M8 (((l4 <<< (((8 : Int32)).toInt64 &&& 63)) ||| ((v9 ^^^ s0_74)).toInt64)) ((l6 + (1)))) (fun k74_6 => if l6 = (cI M 109 (l3)) then ((k74_6 (((1 : Int32) <<< ((cI M 110 (l3)) &&& 31))))) else ((k74_6 ((0 : Int32))))))

def F_X11_frameOf (N : Nat) (M : vC) (a1 : Int32) (a2 : Int32) : Option (vC × Int64) := b2 (F_X3_look N M (a1)) fun M1 v2 => oc (v2) (some (M1, (0 : Int64))) (fun o3 => gd (o3 < 202) <| if a2 < 0 then (some (M1, (0 : Int64))) else (if a2 < (256 : Int32) then ((F_X1_writeTo N M1 (o3) (0)).bind fun M5 => L_X11_frameOf_43 N (a2) (o3) (fun (M11 : vC) (l12 : Int64) => some (M11, l12)) fu M5 ((0 : Int64)) (((8 : Int32) * a2))) else (some (M1, (0 : Int64)))))

set_option maxRecDepth 100000 in
set_option maxHeartbeats 4000000 in
theorem w_X11_frameOf_43 {E : vE} {X : vX} {S0 : vS} {z x N d0 : Nat} {ρ : Type} {R : ρ} {Z : State → Prop} {l2 : Int32} {l3 : Nat} {kx103 : vC → Int64 → Option ρ} (hl3 : l3 < 202) (C : vi_C E X yX11_frameOf cX11_frameOf 8 (some .long) 4 0 0 (45 * 4)) (hx103 : ∀ (M : vC) (l4 : Int64), kx103 M l4 = some R → ∀ S, RC S z x N d0 M → cF S0 S z x N d0 → vi_W E X 8 Z 103 [(4, .long (l4))] [] S (cz M) 0 0) : ∀ (f : Nat) (M : vC) (l4 : Int64) (l6 : Int32), L_X11_frameOf_43 N l2 l3 kx103 f M l4 l6 = some R → ∀ S, RC S z x N d0 M → cF S0 S z x N d0 → vi_W E X 8 Z 43 [(0, .ref (ad z x 11 (0))), (2, .int (l2)), (3, .ref (ad z x 1 (l3))), (4, .long (l4)), (6, .int (l6))] [] S (cz M) 0 0 := by
  intro f
  induction f with
  | zero => intro M l4 l6 h; cases h
  | succ f ih =>
    intro M l4 l6 h S hR hF
    rw [L_X11_frameOf_43] at h
    refine vi_iload C dX11_frameOf_43 rfl rfl ?_
    refine vi_bipush (v := 8) C dX11_frameOf_45 rfl (by decide) ?_
    refine vi_iload_n C dX11_frameOf_47 rfl rfl ?_
    refine vi_imul C dX11_frameOf_48 rfl ?_
    refine vi_bipush (v := 8) C dX11_frameOf_49 rfl (by decide) ?_
    refine vi_iadd C dX11_frameOf_51 rfl ?_
    refine vi_icmp_ge (t' := 103) C dX11_frameOf_52 rfl (by decide) (fun c10 => ?_) (fun c10 => ?_)
    · replace h := iT c10 h
      exact (vi_cut [(4, .long (l4))] ⟨rfl, trivial⟩ (hx103 _ _ h _ hR hF))
    · replace h := iN c10 h
      refine vi_iload C dX11_frameOf_55 rfl rfl ?_
      refine vi_aload_n C dX11_frameOf_57 rfl rfl ?_
      refine c_geti (f := 109) (k := 1) (i := l3) C dX11_frameOf_58 rfl fX11_203 rfl (by decide) rfl hR hl3 ?_
      refine r_jn h (fun k => ∀ (s0_74 : Int32), k s0_74 = some R → ∀ S, RC S z x N d0 M → cF S0 S z x N d0 → vi_W E X 8 Z 74 [(0, .ref (ad z x 11 (0))), (2, .int (l2)), (3, .ref (ad z x 1 (l3))), (4, .long (l4)), (6, .int (l6))] [.int (s0_74)] S (cz M) 0 0) ?_ ?_
      · intro s0_74 h S hR hF
        refine vi_istore C dX11_frameOf_74 rfl (by decide) ?_
        refine vi_lload C dX11_frameOf_76 rfl rfl ?_
        refine vi_bipush (v := 8) C dX11_frameOf_78 rfl (by decide) ?_
        refine vi_lshl C dX11_frameOf_80 rfl ?_
        refine vi_aload_n C dX11_frameOf_81 rfl rfl ?_
        refine c_gets (f := 1106) (k := 11) (i := 0) C dX11_frameOf_82 rfl fX11_33 rfl (by decide) rfl hR (rfl : 0 = 0) rfl ?_
        refine vi_iload C dX11_frameOf_85 rfl rfl ?_
        refine c_cv1 (kc := 0) (a := (ad z x 0 (0))) C [.int (l6)] [.long ((l4 <<< (((8 : Int32)).toInt64 &&& 63)))] dX11_frameOf_87 rfl ivX11_237 imX0_byteAt rfl rfl (rcK hR (show 0 < 3 from by decide)) hR hF h (fun _ e => p_X0_byteAt (show 0 < 3 from by decide) e hR) rfl (Nat.le_of_ble_eq_true rfl) ⟨by decide, by decide⟩ ⟨Nat.le_refl _, Nat.le_refl _⟩ (fun S M8 v9 h hR hF => ?_)
        refine vi_iload C dX11_frameOf_90 rfl rfl ?_
        refine vi_ixor C dX11_frameOf_92 rfl ?_
        refine vi_i2l C dX11_frameOf_93 rfl ?_
        refine vi_lor C dX11_frameOf_94 rfl ?_
        refine vi_lstore C dX11_frameOf_95 rfl (by decide) ?_
        refine vi_iincv (v := 1) C dX11_frameOf_97 rfl rfl (by decide) (by decide) ?_
        refine vi_goto (t' := 43) C dX11_frameOf_100 (by decide) ?_
        exact vi_cut [(0, .ref (ad z x 11 (0))), (2, .int (l2)), (3, .ref (ad z x 1 (l3))), (4, .long (((l4 <<< (((8 : Int32)).toInt64 &&& 63)) ||| ((v9 ^^^ s0_74)).toInt64))), (6, .int ((l6 + (1))))] ⟨rfl, rfl, rfl, rfl, rfl, trivial⟩ (ih _ _ _ h _ hR hF)
      · intro k74_6 h74_6 h
        refine vi_icmp_ne (t' := 73) C dX11_frameOf_61 rfl (by decide) (fun c7 => ?_) (fun c7 => ?_)
        · replace h := iN c7 h
          refine vi_iconst (v := 0) C dX11_frameOf_73 rfl (by decide) ?_
          exact (vi_cut [(0, .ref (ad z x 11 (0))), (2, .int (l2)), (3, .ref (ad z x 1 (l3))), (4, .long (l4)), (6, .int (l6))] ⟨rfl, rfl, rfl, rfl, rfl, trivial⟩ (h74_6 _ h _ hR hF))
        · replace h := iT c7 h
          refine vi_iconst (v := 1) C dX11_frameOf_64 rfl (by decide) ?_
          refine vi_aload_n C dX11_frameOf_65 rfl rfl ?_
          refine c_geti (f := 110) (k := 1) (i := l3) C dX11_frameOf_66 rfl fX11_206 rfl (by decide) rfl hR hl3 ?_
          refine vi_ishl C dX11_frameOf_69 rfl ?_
          refine vi_goto (t' := 74) C dX11_frameOf_70 (by decide) ?_
          exact (vi_cut [(0, .ref (ad z x 11 (0))), (2, .int (l2)), (3, .ref (ad z x 1 (l3))), (4, .long (l4)), (6, .int (l6))] ⟨rfl, rfl, rfl, rfl, rfl, trivial⟩ (h74_6 _ h _ hR hF))

set_option maxRecDepth 100000 in
set_option maxHeartbeats 4000000 in
theorem p_X11_frameOf {N : Nat} {M : vC} {R : (vC × Int64)} {a1 : Int32} {a2 : Int32}  (h : F_X11_frameOf N M a1 a2 = some R) {E : vE} {S0 : vS} {z x d0 : Nat} (hR : RC S0 z x N d0 M) : vi_Met E yX11_frameOf cX11_frameOf 8 (some .long) 4 0 0 [.ref (ad z x 11 (0)), .int (a1), .int (a2)] S0 (cz M) (D2 S0 z x N d0 R) := by
  refine vi_met (by decide) (Nat.le_of_ble_eq_true rfl) ?_
  intro X C
  have hF := cF.refl S0 z x N d0
  unfold F_X11_frameOf at h
  refine vi_aload_n C dX11_frameOf_0 rfl rfl ?_
  refine c_gets (f := 1105) (k := 11) (i := 0) C dX11_frameOf_1 rfl fX11_40 rfl (by decide) rfl hR (rfl : 0 = 0) rfl ?_
  refine vi_iload_n C dX11_frameOf_4 rfl rfl ?_
  refine c_cv3 (kc := 3) (a := (ad z x 3 (0))) (kt := 1) C [.int (a1)] [] dX11_frameOf_5 rfl ivX11_191 imX3_look rfl rfl (rcK hR (rfl : 0 = 0)) hR hF h (fun _ e => p_X3_look  e hR) rfl (Nat.le_of_ble_eq_true rfl) ⟨by decide, by decide⟩ ⟨Nat.le_refl _, Nat.le_refl _⟩ (fun S M1 v2 h hR hF => ?_)
  refine vi_astore_nq (o := ((v2).map (ad z x 1))) C dX11_frameOf_8 rfl (by decide) ?_
  refine vi_aload_nq (o := ((v2).map (ad z x 1))) C dX11_frameOf_9 rfl rfl ?_
  rcases oco h with ⟨rfl, hh⟩ | ⟨o3, rfl, hh⟩
  · replace h := hh
    clear hh
    refine vi_ifnull (o := none) (t' := 24) C dX11_frameOf_10 rfl (by decide) (fun _ => ?_) (fun e => absurd rfl e)
    refine vi_lconst (v := 0) C dX11_frameOf_24 rfl (by decide) ?_
    exact c_ret2 C dX11_frameOf_25 rfl hR hF ⟨Nat.zero_le _, Nat.zero_le _⟩ h
  · replace h := hh
    clear hh
    refine vi_ifnull (o := (some (ad z x 1 (o3)))) (t' := 24) C dX11_frameOf_10 rfl (by decide) (fun e => by cases e) (fun _ => ?_)
    obtain ⟨c4, h⟩ := gdo h
    refine vi_iload_n C dX11_frameOf_13 rfl rfl ?_
    refine vi_if_lt (t' := 24) C dX11_frameOf_14 rfl (by decide) (fun c14 => ?_) (fun c14 => ?_)
    · replace h := iT c14 h
      refine vi_lconst (v := 0) C dX11_frameOf_24 rfl (by decide) ?_
      exact c_ret2 C dX11_frameOf_25 rfl hR hF ⟨Nat.zero_le _, Nat.zero_le _⟩ h
    · replace h := iN c14 h
      refine vi_iload_n C dX11_frameOf_17 rfl rfl ?_
      refine vi_sipush (v := 256) C dX11_frameOf_18 rfl (by decide) ?_
      refine vi_icmp_lt (t' := 26) C dX11_frameOf_21 rfl (by decide) (fun c13 => ?_) (fun c13 => ?_)
      · replace h := iT c13 h
        refine vi_aload_n C dX11_frameOf_26 rfl rfl ?_
        refine vi_aload_n C dX11_frameOf_27 rfl rfl ?_
        refine c_gets (f := 1106) (k := 11) (i := 0) C dX11_frameOf_28 rfl fX11_33 rfl (by decide) rfl hR (rfl : 0 = 0) rfl ?_
        refine c_cv0 (kc := 1) (a := (ad z x 1 (o3))) C [.ref (ad z x 0 (0))] [] dX11_frameOf_31 rfl ivX11_197 imX1_writeTo rfl rfl (rcK hR c4) hR hF h (fun _ e => p_X1_writeTo c4 (show 0 < 3 from by decide) e hR) rfl (Nat.le_of_ble_eq_true rfl) ⟨by decide, by decide⟩ ⟨Nat.le_refl _, Nat.le_refl _⟩ (fun S M5 h hR hF => ?_)
        refine vi_lconst (v := 0) C dX11_frameOf_34 rfl (by decide) ?_
        refine vi_lstore C dX11_frameOf_35 rfl (by decide) ?_
        refine vi_bipush (v := 8) C dX11_frameOf_37 rfl (by decide) ?_
        refine vi_iload_n C dX11_frameOf_39 rfl rfl ?_
        refine vi_imul C dX11_frameOf_40 rfl ?_
        refine vi_istore C dX11_frameOf_41 rfl (by decide) ?_
        refine vi_cut [(0, .ref (ad z x 11 (0))), (2, .int (a2)), (3, .ref (ad z x 1 (o3))), (4, .long ((0 : Int64))), (6, .int (((8 : Int32) * a2)))] ⟨rfl, rfl, rfl, rfl, rfl, trivial⟩ (w_X11_frameOf_43 c4 C ?_ _ _ _ _ h _ hR hF)
        · intro M11 l12 h S hR hF
          refine vi_lload C dX11_frameOf_103 rfl rfl ?_
          exact c_ret2 C dX11_frameOf_105 rfl hR hF ⟨Nat.zero_le _, Nat.zero_le _⟩ h
      · replace h := iN c13 h
        refine vi_lconst (v := 0) C dX11_frameOf_24 rfl (by decide) ?_
        exact c_ret2 C dX11_frameOf_25 rfl hR hF ⟨Nat.zero_le _, Nat.zero_le _⟩ h

def F_X11_slotOf (N : Nat) (M : vC) (a1 : Int32) (a2 : Int32) (a3 : Int32) : Option (vC × Int32) := b2 (F_X11_upNumber N M (a1)) fun M1 v2 => jn (fun (M8 : vC) (s0_25 : (Option Nat)) => oc (s0_25) (some (M8, (-1 : Int32))) (fun o9 => gd (cK M8 (o9) = 9) <| b2 (F_X8_tell N M8 (o9) (a3)) fun M11 v12 => some (M11, v12))) (fun k25_3 => oc (v2) ((k25_3 (M1) (none))) (fun o4 => gd (o4 < N) <| b2 (F_X10_requestOf N M1 (o4) (a2)) fun M6 v7 => (k25_3 (M6) ((v7)))))

set_option maxRecDepth 100000 in
set_option maxHeartbeats 4000000 in
theorem p_X11_slotOf {N : Nat} {M : vC} {R : (vC × Int32)} {a1 : Int32} {a2 : Int32} {a3 : Int32}  (h : F_X11_slotOf N M a1 a2 a3 = some R) {E : vE} {S0 : vS} {z x d0 : Nat} (hR : RC S0 z x N d0 M) : vi_Met E yX11_slotOf cX11_slotOf 6 (some .int) 2 0 0 [.ref (ad z x 11 (0)), .int (a1), .int (a2), .int (a3)] S0 (cz M) (D1 S0 z x N d0 R) := by
  refine vi_met (by decide) (Nat.le_of_ble_eq_true rfl) ?_
  intro X C
  have hF := cF.refl S0 z x N d0
  unfold F_X11_slotOf at h
  refine vi_aload_n C dX11_slotOf_0 rfl rfl ?_
  refine vi_iload_n C dX11_slotOf_1 rfl rfl ?_
  refine c_cv3 (kc := 11) (a := (ad z x 11 (0))) (kt := 7) C [.int (a1)] [] dX11_slotOf_2 rfl ivX11_78 imX11_upNumber rfl rfl (rcK hR (rfl : 0 = 0)) hR hF h (fun _ e => p_X11_upNumber  e hR) rfl (Nat.le_of_ble_eq_true rfl) ⟨by decide, by decide⟩ ⟨Nat.le_refl _, Nat.le_refl _⟩ (fun S M1 v2 h hR hF => ?_)
  refine vi_astoreq (o := ((v2).map (ad z x 7))) C dX11_slotOf_5 rfl (by decide) ?_
  refine vi_aloadq (o := ((v2).map (ad z x 7))) C dX11_slotOf_7 rfl rfl ?_
  refine r_jn h (fun k => ∀ (M8 : vC) (s0_25 : (Option Nat)), k M8 s0_25 = some R → ∀ S, RC S z x N d0 M8 → cF S0 S z x N d0 → vi_W E X 6 (vi_Z E X (D1 S0 z x N d0 R) 0 0) 25 [(3, .int (a3))] [va_rf (s0_25)] S (cz M8) 0 0) ?_ ?_
  · intro M8 s0_25 h S hR hF
    refine vi_astoreq (o := (s0_25)) C dX11_slotOf_25 rfl (by decide) ?_
    refine vi_aloadq (o := (s0_25)) C dX11_slotOf_27 rfl rfl ?_
    rcases oco h with ⟨rfl, hh⟩ | ⟨o9, rfl, hh⟩
    · replace h := hh
      clear hh
      refine vi_ifnonnull (o := none) (t' := 36) C dX11_slotOf_29 rfl (by decide) (fun e => absurd rfl e) (fun _ => ?_)
      refine vi_iconst (v := -1) C dX11_slotOf_32 rfl (by decide) ?_
      refine vi_goto (t' := 42) C dX11_slotOf_33 (by decide) ?_
      exact c_ret1 C dX11_slotOf_42 rfl hR hF ⟨Nat.zero_le _, Nat.zero_le _⟩ h
    · replace h := hh
      clear hh
      refine vi_ifnonnull (o := (some (o9))) (t' := 36) C dX11_slotOf_29 rfl (by decide) (fun _ => ?_) (fun e => by cases e)
      refine vi_aload C dX11_slotOf_36 rfl rfl ?_
      refine vi_iload_n C dX11_slotOf_38 rfl rfl ?_
      obtain ⟨c10, h⟩ := gdo h
      refine c_cv1 (kc := 8) (a := (o9)) C [.int (a3)] [] dX11_slotOf_39 rfl ivX11_250 imX8_tell rfl rfl (rcKD hR c10) hR hF h (fun _ e => p_X8_tell  e hR) rfl (Nat.le_of_ble_eq_true rfl) ⟨by decide, by decide⟩ ⟨Nat.le_refl _, Nat.le_refl _⟩ (fun S M11 v12 h hR hF => ?_)
      exact c_ret1 C dX11_slotOf_42 rfl hR hF ⟨Nat.zero_le _, Nat.zero_le _⟩ h
  · intro k25_3 h25_3 h
    rcases oco h with ⟨rfl, hh⟩ | ⟨o4, rfl, hh⟩
    · replace h := hh
      clear hh
      refine vi_ifnonnull (o := none) (t' := 16) C dX11_slotOf_9 rfl (by decide) (fun e => absurd rfl e) (fun _ => ?_)
      refine vi_null C dX11_slotOf_12 rfl ?_
      refine vi_goto (t' := 25) C dX11_slotOf_13 (by decide) ?_
      exact (vi_cut [(3, .int (a3))] ⟨rfl, trivial⟩ (h25_3 _ _ h _ hR hF))
    · replace h := hh
      clear hh
      refine vi_ifnonnull (o := (some (ad z x 7 (o4)))) (t' := 16) C dX11_slotOf_9 rfl (by decide) (fun _ => ?_) (fun e => by cases e)
      obtain ⟨c5, h⟩ := gdo h
      refine vi_aload C dX11_slotOf_16 rfl rfl ?_
      refine c_gets (f := 703) (k := 7) (i := o4) C dX11_slotOf_18 rfl fX11_85 rfl (by decide) rfl hR c5 rfl ?_
      refine vi_iload_n C dX11_slotOf_21 rfl rfl ?_
      refine c_cv4 (kc := 10) (a := (ad z x 10 (o4))) C [.int (a2)] [] dX11_slotOf_22 rfl ivX11_246 imX10_requestOf rfl rfl (rcK hR c5) hR hF h (fun _ e => p_X10_requestOf c5 e hR) rfl (Nat.le_of_ble_eq_true rfl) ⟨by decide, by decide⟩ ⟨Nat.le_refl _, Nat.le_refl _⟩ (fun S M6 v7 h hR hF => ?_)
      exact (vi_cut [(3, .int (a3))] ⟨rfl, trivial⟩ (h25_3 _ _ h _ hR hF))

def F_X11_knownOf (N : Nat) (M : vC) (a1 : Int32) (a2 : Int32) (a3 : Int32) : Option (vC × Int32) := b2 (F_X11_upNumber N M (a1)) fun M1 v2 => oc (v2) (some (M1, (-1 : Int32))) (fun o3 => gd (o3 < N) <| b2 (F_X11_sessionNumber N M1 (a2)) fun M5 v6 => oc (v6) (some (M5, (-1 : Int32))) (fun o7 => gd (o7 < 16) <| if a3 = 0 then ((cG M5 1002 (o3) (a2)).bind fun v9 => some (M5, v9)) else ((cG M5 1003 (o3) (a2)).bind fun v10 => some (M5, v10))))

set_option maxRecDepth 100000 in
set_option maxHeartbeats 4000000 in
theorem p_X11_knownOf {N : Nat} {M : vC} {R : (vC × Int32)} {a1 : Int32} {a2 : Int32} {a3 : Int32}  (h : F_X11_knownOf N M a1 a2 a3 = some R) {E : vE} {S0 : vS} {z x d0 : Nat} (hR : RC S0 z x N d0 M) : vi_Met E yX11_knownOf cX11_knownOf 5 (some .int) 2 0 0 [.ref (ad z x 11 (0)), .int (a1), .int (a2), .int (a3)] S0 (cz M) (D1 S0 z x N d0 R) := by
  refine vi_met (by decide) (Nat.le_of_ble_eq_true rfl) ?_
  intro X C
  have hF := cF.refl S0 z x N d0
  unfold F_X11_knownOf at h
  refine vi_aload_n C dX11_knownOf_0 rfl rfl ?_
  refine vi_iload_n C dX11_knownOf_1 rfl rfl ?_
  refine c_cv3 (kc := 11) (a := (ad z x 11 (0))) (kt := 7) C [.int (a1)] [] dX11_knownOf_2 rfl ivX11_78 imX11_upNumber rfl rfl (rcK hR (rfl : 0 = 0)) hR hF h (fun _ e => p_X11_upNumber  e hR) rfl (Nat.le_of_ble_eq_true rfl) ⟨by decide, by decide⟩ ⟨Nat.le_refl _, Nat.le_refl _⟩ (fun S M1 v2 h hR hF => ?_)
  refine vi_astoreq (o := ((v2).map (ad z x 7))) C dX11_knownOf_5 rfl (by decide) ?_
  refine vi_aloadq (o := ((v2).map (ad z x 7))) C dX11_knownOf_7 rfl rfl ?_
  rcases oco h with ⟨rfl, hh⟩ | ⟨o3, rfl, hh⟩
  · replace h := hh
    clear hh
    refine vi_ifnull (o := none) (t' := 20) C dX11_knownOf_9 rfl (by decide) (fun _ => ?_) (fun e => absurd rfl e)
    refine vi_iconst (v := -1) C dX11_knownOf_20 rfl (by decide) ?_
    exact c_ret1 C dX11_knownOf_21 rfl hR hF ⟨Nat.zero_le _, Nat.zero_le _⟩ h
  · replace h := hh
    clear hh
    refine vi_ifnull (o := (some (ad z x 7 (o3)))) (t' := 20) C dX11_knownOf_9 rfl (by decide) (fun e => by cases e) (fun _ => ?_)
    obtain ⟨c4, h⟩ := gdo h
    refine vi_aload_n C dX11_knownOf_12 rfl rfl ?_
    refine vi_iload_n C dX11_knownOf_13 rfl rfl ?_
    refine c_cv3 (kc := 11) (a := (ad z x 11 (0))) (kt := 9) C [.int (a2)] [] dX11_knownOf_14 rfl ivX11_74 imX11_sessionNumber rfl rfl (rcK hR (rfl : 0 = 0)) hR hF h (fun _ e => p_X11_sessionNumber  e hR) rfl (Nat.le_of_ble_eq_true rfl) ⟨by decide, by decide⟩ ⟨Nat.le_refl _, Nat.le_refl _⟩ (fun S M5 v6 h hR hF => ?_)
    rcases oco h with ⟨rfl, hh⟩ | ⟨o7, rfl, hh⟩
    · replace h := hh
      clear hh
      refine vi_ifnonnull (o := none) (t' := 22) C dX11_knownOf_17 rfl (by decide) (fun e => absurd rfl e) (fun _ => ?_)
      refine vi_iconst (v := -1) C dX11_knownOf_20 rfl (by decide) ?_
      exact c_ret1 C dX11_knownOf_21 rfl hR hF ⟨Nat.zero_le _, Nat.zero_le _⟩ h
    · replace h := hh
      clear hh
      refine vi_ifnonnull (o := (some (ad z x 9 (o7)))) (t' := 22) C dX11_knownOf_17 rfl (by decide) (fun _ => ?_) (fun e => by cases e)
      obtain ⟨c8, h⟩ := gdo h
      refine vi_iload_n C dX11_knownOf_22 rfl rfl ?_
      refine vi_if_eq (t' := 39) C dX11_knownOf_23 rfl (by decide) (fun c11 => ?_) (fun c11 => ?_)
      · replace h := iT c11 h
        refine vi_aload C dX11_knownOf_39 rfl rfl ?_
        refine c_gets (f := 703) (k := 7) (i := o3) C dX11_knownOf_41 rfl fX11_85 rfl (by decide) rfl hR c4 rfl ?_
        refine c_gets (f := 1002) (k := 10) (i := o3) C dX11_knownOf_44 rfl fX11_149 rfl (by decide) rfl hR c4 rfl ?_
        refine vi_iload_n C dX11_knownOf_47 rfl rfl ?_
        refine c_iaload C dX11_knownOf_48 rfl rfl hR ⟨c4, by decide⟩ h (fun v9 h => ?_)
        exact c_ret1 C dX11_knownOf_49 rfl hR hF ⟨Nat.zero_le _, Nat.zero_le _⟩ h
      · replace h := iN c11 h
        refine vi_aload C dX11_knownOf_26 rfl rfl ?_
        refine c_gets (f := 703) (k := 7) (i := o3) C dX11_knownOf_28 rfl fX11_85 rfl (by decide) rfl hR c4 rfl ?_
        refine c_gets (f := 1003) (k := 10) (i := o3) C dX11_knownOf_31 rfl fX11_156 rfl (by decide) rfl hR c4 rfl ?_
        refine vi_iload_n C dX11_knownOf_34 rfl rfl ?_
        refine c_iaload C dX11_knownOf_35 rfl rfl hR ⟨c4, by decide⟩ h (fun v10 h => ?_)
        refine vi_goto (t' := 49) C dX11_knownOf_36 (by decide) ?_
        exact c_ret1 C dX11_knownOf_49 rfl hR hF ⟨Nat.zero_le _, Nat.zero_le _⟩ h

def F_X11_sessionOf (N : Nat) (M : vC) (a1 : Int32) (a2 : Int32) : Option (vC × Int32) := b2 (F_X11_sessionNumber N M (a1)) fun M1 v2 => oc (v2) (some (M1, (-1 : Int32))) (fun o3 => gd (o3 < 16) <| b2 (F_X9_tell N M1 (o3) (a2)) fun M5 v6 => some (M5, v6))

set_option maxRecDepth 100000 in
set_option maxHeartbeats 4000000 in
theorem p_X11_sessionOf {N : Nat} {M : vC} {R : (vC × Int32)} {a1 : Int32} {a2 : Int32}  (h : F_X11_sessionOf N M a1 a2 = some R) {E : vE} {S0 : vS} {z x d0 : Nat} (hR : RC S0 z x N d0 M) : vi_Met E yX11_sessionOf cX11_sessionOf 4 (some .int) 1 0 0 [.ref (ad z x 11 (0)), .int (a1), .int (a2)] S0 (cz M) (D1 S0 z x N d0 R) := by
  refine vi_met (by decide) (Nat.le_of_ble_eq_true rfl) ?_
  intro X C
  have hF := cF.refl S0 z x N d0
  unfold F_X11_sessionOf at h
  refine vi_aload_n C dX11_sessionOf_0 rfl rfl ?_
  refine vi_iload_n C dX11_sessionOf_1 rfl rfl ?_
  refine c_cv3 (kc := 11) (a := (ad z x 11 (0))) (kt := 9) C [.int (a1)] [] dX11_sessionOf_2 rfl ivX11_74 imX11_sessionNumber rfl rfl (rcK hR (rfl : 0 = 0)) hR hF h (fun _ e => p_X11_sessionNumber  e hR) rfl (Nat.le_of_ble_eq_true rfl) ⟨by decide, by decide⟩ ⟨Nat.le_refl _, Nat.le_refl _⟩ (fun S M1 v2 h hR hF => ?_)
  refine vi_astore_nq (o := ((v2).map (ad z x 9))) C dX11_sessionOf_5 rfl (by decide) ?_
  refine vi_aload_nq (o := ((v2).map (ad z x 9))) C dX11_sessionOf_6 rfl rfl ?_
  rcases oco h with ⟨rfl, hh⟩ | ⟨o3, rfl, hh⟩
  · replace h := hh
    clear hh
    refine vi_ifnonnull (o := none) (t' := 14) C dX11_sessionOf_7 rfl (by decide) (fun e => absurd rfl e) (fun _ => ?_)
    refine vi_iconst (v := -1) C dX11_sessionOf_10 rfl (by decide) ?_
    refine vi_goto (t' := 19) C dX11_sessionOf_11 (by decide) ?_
    exact c_ret1 C dX11_sessionOf_19 rfl hR hF ⟨Nat.zero_le _, Nat.zero_le _⟩ h
  · replace h := hh
    clear hh
    refine vi_ifnonnull (o := (some (ad z x 9 (o3)))) (t' := 14) C dX11_sessionOf_7 rfl (by decide) (fun _ => ?_) (fun e => by cases e)
    obtain ⟨c4, h⟩ := gdo h
    refine vi_aload_n C dX11_sessionOf_14 rfl rfl ?_
    refine vi_iload_n C dX11_sessionOf_15 rfl rfl ?_
    refine c_cv1 (kc := 9) (a := (ad z x 9 (o3))) C [.int (a2)] [] dX11_sessionOf_16 rfl ivX11_253 imX9_tell rfl rfl (rcK hR c4) hR hF h (fun _ e => p_X9_tell c4 e hR) rfl (Nat.le_of_ble_eq_true rfl) ⟨by decide, by decide⟩ ⟨Nat.le_refl _, Nat.le_refl _⟩ (fun S M5 v6 h hR hF => ?_)
    exact c_ret1 C dX11_sessionOf_19 rfl hR hF ⟨Nat.zero_le _, Nat.zero_le _⟩ h

def F_X11_messageOf (N : Nat) (M : vC) (a1 : Int32) (a2 : Int32) : Option (vC × Int32) := b2 (F_X3_look N M (a1)) fun M1 v2 => oc (v2) (some (M1, (-1 : Int32))) (fun o3 => gd (o3 < 202) <| if a2 = (8 : Int32) then ((F_X1_writeTo N M1 (o3) (0)).bind fun M7 => some (M7, (cI M7 1 (0)))) else (b2 (F_X1_tell N M1 (o3) (a2)) fun M5 v6 => some (M5, v6)))

set_option maxRecDepth 100000 in
set_option maxHeartbeats 4000000 in
theorem p_X11_messageOf {N : Nat} {M : vC} {R : (vC × Int32)} {a1 : Int32} {a2 : Int32}  (h : F_X11_messageOf N M a1 a2 = some R) {E : vE} {S0 : vS} {z x d0 : Nat} (hR : RC S0 z x N d0 M) : vi_Met E yX11_messageOf cX11_messageOf 4 (some .int) 4 0 0 [.ref (ad z x 11 (0)), .int (a1), .int (a2)] S0 (cz M) (D1 S0 z x N d0 R) := by
  refine vi_met (by decide) (Nat.le_of_ble_eq_true rfl) ?_
  intro X C
  have hF := cF.refl S0 z x N d0
  unfold F_X11_messageOf at h
  refine vi_aload_n C dX11_messageOf_0 rfl rfl ?_
  refine c_gets (f := 1105) (k := 11) (i := 0) C dX11_messageOf_1 rfl fX11_40 rfl (by decide) rfl hR (rfl : 0 = 0) rfl ?_
  refine vi_iload_n C dX11_messageOf_4 rfl rfl ?_
  refine c_cv3 (kc := 3) (a := (ad z x 3 (0))) (kt := 1) C [.int (a1)] [] dX11_messageOf_5 rfl ivX11_191 imX3_look rfl rfl (rcK hR (rfl : 0 = 0)) hR hF h (fun _ e => p_X3_look  e hR) rfl (Nat.le_of_ble_eq_true rfl) ⟨by decide, by decide⟩ ⟨Nat.le_refl _, Nat.le_refl _⟩ (fun S M1 v2 h hR hF => ?_)
  refine vi_astore_nq (o := ((v2).map (ad z x 1))) C dX11_messageOf_8 rfl (by decide) ?_
  refine vi_aload_nq (o := ((v2).map (ad z x 1))) C dX11_messageOf_9 rfl rfl ?_
  rcases oco h with ⟨rfl, hh⟩ | ⟨o3, rfl, hh⟩
  · replace h := hh
    clear hh
    refine vi_ifnonnull (o := none) (t' := 15) C dX11_messageOf_10 rfl (by decide) (fun e => absurd rfl e) (fun _ => ?_)
    refine vi_iconst (v := -1) C dX11_messageOf_13 rfl (by decide) ?_
    exact c_ret1 C dX11_messageOf_14 rfl hR hF ⟨Nat.zero_le _, Nat.zero_le _⟩ h
  · replace h := hh
    clear hh
    refine vi_ifnonnull (o := (some (ad z x 1 (o3)))) (t' := 15) C dX11_messageOf_10 rfl (by decide) (fun _ => ?_) (fun e => by cases e)
    obtain ⟨c4, h⟩ := gdo h
    refine vi_iload_n C dX11_messageOf_15 rfl rfl ?_
    refine vi_bipush (v := 8) C dX11_messageOf_16 rfl (by decide) ?_
    refine vi_icmp_ne (t' := 37) C dX11_messageOf_18 rfl (by decide) (fun c8 => ?_) (fun c8 => ?_)
    · replace h := iN c8 h
      refine vi_aload_n C dX11_messageOf_37 rfl rfl ?_
      refine vi_iload_n C dX11_messageOf_38 rfl rfl ?_
      refine c_cv1 (kc := 1) (a := (ad z x 1 (o3))) C [.int (a2)] [] dX11_messageOf_39 rfl ivX11_254 imX1_tell rfl rfl (rcK hR c4) hR hF h (fun _ e => p_X1_tell c4 e hR) rfl (Nat.le_of_ble_eq_true rfl) ⟨by decide, by decide⟩ ⟨Nat.le_refl _, Nat.le_refl _⟩ (fun S M5 v6 h hR hF => ?_)
      exact c_ret1 C dX11_messageOf_42 rfl hR hF ⟨Nat.zero_le _, Nat.zero_le _⟩ h
    · replace h := iT c8 h
      refine vi_aload_n C dX11_messageOf_21 rfl rfl ?_
      refine vi_aload_n C dX11_messageOf_22 rfl rfl ?_
      refine c_gets (f := 1106) (k := 11) (i := 0) C dX11_messageOf_23 rfl fX11_33 rfl (by decide) rfl hR (rfl : 0 = 0) rfl ?_
      refine c_cv0 (kc := 1) (a := (ad z x 1 (o3))) C [.ref (ad z x 0 (0))] [] dX11_messageOf_26 rfl ivX11_197 imX1_writeTo rfl rfl (rcK hR c4) hR hF h (fun _ e => p_X1_writeTo c4 (show 0 < 3 from by decide) e hR) rfl (Nat.le_of_ble_eq_true rfl) ⟨by decide, by decide⟩ ⟨Nat.le_refl _, Nat.le_refl _⟩ (fun S M7 h hR hF => ?_)
      refine vi_aload_n C dX11_messageOf_29 rfl rfl ?_
      refine c_gets (f := 1106) (k := 11) (i := 0) C dX11_messageOf_30 rfl fX11_33 rfl (by decide) rfl hR (rfl : 0 = 0) rfl ?_
      refine c_geti (f := 1) (k := 0) (i := 0) C dX11_messageOf_33 rfl fX11_200 rfl (by decide) rfl hR (show 0 < 3 from by decide) ?_
      exact c_ret1 C dX11_messageOf_36 rfl hR hF ⟨Nat.zero_le _, Nat.zero_le _⟩ h

def L_X11_greatestIndex_4 {ρ : Type} (N : Nat)  (kx48 : vC → Int32 → Option ρ) : Nat → vC → Int32 → Int32 → Option ρ
  | 0, _, _, _ => none
  | f + 1, M, l1, l2 => if (Int32.ofNat N) ≤ l2 then (kx48 M (l1)) else ((ix N (l2)).bind fun v1 => if (cI M 711 (v1)) = 0 then (L_X11_greatestIndex_4 N  kx48 f M (l1) ((l2 + (1)))) else ((ix N (l2)).bind fun v3 => L_X11_greatestIndex_4 N  kx48 f M ((mxI (l1) ((cI M 1007 (v3))))) ((l2 + (1)))))

def F_X11_greatestIndex (N : Nat) (M : vC)  : Option (vC × Int32) := L_X11_greatestIndex_4 N  (fun (M7 : vC) (l8 : Int32) => some (M7, l8)) fu M ((0 : Int32)) ((0 : Int32))

set_option maxRecDepth 100000 in
set_option maxHeartbeats 4000000 in
theorem w_X11_greatestIndex_4 {E : vE} {X : vX} {S0 : vS} {z x N d0 : Nat} {ρ : Type} {R : ρ} {Z : State → Prop}  {kx48 : vC → Int32 → Option ρ}  (C : vi_C E X yX11_greatestIndex cX11_greatestIndex 3 (some .int) 1 0 0 (45 * 1)) (hx48 : ∀ (M : vC) (l1 : Int32), kx48 M l1 = some R → ∀ S, RC S z x N d0 M → cF S0 S z x N d0 → vi_W E X 3 Z 48 [(1, .int (l1))] [] S (cz M) 0 0) : ∀ (f : Nat) (M : vC) (l1 : Int32) (l2 : Int32), L_X11_greatestIndex_4 N  kx48 f M l1 l2 = some R → ∀ S, RC S z x N d0 M → cF S0 S z x N d0 → vi_W E X 3 Z 4 [(0, .ref (ad z x 11 (0))), (1, .int (l1)), (2, .int (l2))] [] S (cz M) 0 0 := by
  intro f
  induction f with
  | zero => intro M l1 l2 h; cases h
  | succ f ih =>
    intro M l1 l2 h S hR hF
    rw [L_X11_greatestIndex_4] at h
    refine vi_iload_n C dX11_greatestIndex_4 rfl rfl ?_
    refine vi_aload_n C dX11_greatestIndex_5 rfl rfl ?_
    refine c_gets (f := 1103) (k := 11) (i := 0) C dX11_greatestIndex_6 rfl fX11_53 rfl (by decide) rfl hR (rfl : 0 = 0) rfl ?_
    refine c_alenR C dX11_greatestIndex_9 rfl hR ?_
    refine vi_icmp_ge (t' := 48) C dX11_greatestIndex_10 rfl (by decide) (fun c6 => ?_) (fun c6 => ?_)
    · replace h := iT c6 h
      exact (vi_cut [(1, .int (l1))] ⟨rfl, trivial⟩ (hx48 _ _ h _ hR hF))
    · replace h := iN c6 h
      refine vi_aload_n C dX11_greatestIndex_13 rfl rfl ?_
      refine c_gets (f := 1103) (k := 11) (i := 0) C dX11_greatestIndex_14 rfl fX11_53 rfl (by decide) rfl hR (rfl : 0 = 0) rfl ?_
      refine vi_iload_n C dX11_greatestIndex_17 rfl rfl ?_
      refine c_aaloadR C dX11_greatestIndex_18 rfl hR h (fun v1 c2 h => ?_)
      refine c_geti (f := 711) (k := 7) (i := v1) C dX11_greatestIndex_19 rfl fX11_212 rfl (by decide) rfl hR c2 ?_
      refine vi_if_eq (t' := 42) C dX11_greatestIndex_22 rfl (by decide) (fun c5 => ?_) (fun c5 => ?_)
      · replace h := iT c5 h
        refine vi_iincv (v := 1) C dX11_greatestIndex_42 rfl rfl (by decide) (by decide) ?_
        refine vi_goto (t' := 4) C dX11_greatestIndex_45 (by decide) ?_
        exact vi_cut [(0, .ref (ad z x 11 (0))), (1, .int (l1)), (2, .int ((l2 + (1))))] ⟨rfl, rfl, rfl, trivial⟩ (ih _ _ _ h _ hR hF)
      · replace h := iN c5 h
        refine vi_iload_n C dX11_greatestIndex_25 rfl rfl ?_
        refine vi_aload_n C dX11_greatestIndex_26 rfl rfl ?_
        refine c_gets (f := 1103) (k := 11) (i := 0) C dX11_greatestIndex_27 rfl fX11_53 rfl (by decide) rfl hR (rfl : 0 = 0) rfl ?_
        refine vi_iload_n C dX11_greatestIndex_30 rfl rfl ?_
        refine c_aaloadR C dX11_greatestIndex_31 rfl hR h (fun v3 c4 h => ?_)
        refine c_gets (f := 703) (k := 7) (i := v3) C dX11_greatestIndex_32 rfl fX11_85 rfl (by decide) rfl hR c4 rfl ?_
        refine c_geti (f := 1007) (k := 10) (i := v3) C dX11_greatestIndex_35 rfl fX11_89 rfl (by decide) rfl hR c4 ?_
        refine vi_mmax C dX11_greatestIndex_38 rfl ivX11_15 mlX11_15 (by decide) (Nat.le_of_ble_eq_true rfl) (Nat.zero_le _) (Nat.zero_le _) ?_
        refine vi_istore_n C dX11_greatestIndex_41 rfl (by decide) ?_
        refine vi_iincv (v := 1) C dX11_greatestIndex_42 rfl rfl (by decide) (by decide) ?_
        refine vi_goto (t' := 4) C dX11_greatestIndex_45 (by decide) ?_
        exact vi_cut [(0, .ref (ad z x 11 (0))), (1, .int ((mxI (l1) ((cI M 1007 (v3)))))), (2, .int ((l2 + (1))))] ⟨rfl, rfl, rfl, trivial⟩ (ih _ _ _ h _ hR hF)

set_option maxRecDepth 100000 in
set_option maxHeartbeats 4000000 in
theorem p_X11_greatestIndex {N : Nat} {M : vC} {R : (vC × Int32)}   (h : F_X11_greatestIndex N M  = some R) {E : vE} {S0 : vS} {z x d0 : Nat} (hR : RC S0 z x N d0 M) : vi_Met E yX11_greatestIndex cX11_greatestIndex 3 (some .int) 1 0 0 [.ref (ad z x 11 (0))] S0 (cz M) (D1 S0 z x N d0 R) := by
  refine vi_met (by decide) (Nat.le_of_ble_eq_true rfl) ?_
  intro X C
  have hF := cF.refl S0 z x N d0
  unfold F_X11_greatestIndex at h
  refine vi_iconst (v := 0) C dX11_greatestIndex_0 rfl (by decide) ?_
  refine vi_istore_n C dX11_greatestIndex_1 rfl (by decide) ?_
  refine vi_iconst (v := 0) C dX11_greatestIndex_2 rfl (by decide) ?_
  refine vi_istore_n C dX11_greatestIndex_3 rfl (by decide) ?_
  refine vi_cut [(0, .ref (ad z x 11 (0))), (1, .int ((0 : Int32))), (2, .int ((0 : Int32)))] ⟨rfl, rfl, rfl, trivial⟩ (w_X11_greatestIndex_4  C ?_ _ _ _ _ h _ hR hF)
  · intro M7 l8 h S hR hF
    refine vi_iload_n C dX11_greatestIndex_48 rfl rfl ?_
    exact c_ret1 C dX11_greatestIndex_49 rfl hR hF ⟨Nat.zero_le _, Nat.zero_le _⟩ h

def L_X11_waitingSessions_4 {ρ : Type} (N : Nat)  (kx32 : vC → Int32 → Option ρ) : Nat → vC → Int32 → Int32 → Option ρ
  | 0, _, _, _ => none
  | f + 1, M, l1, l2 => if (16 : Int32) ≤ l2 then (kx32 M (l1)) else ((ix 16 (l2)).bind fun v1 => if (cI M 901 (v1)) = (2 : Int32) then (L_X11_waitingSessions_4 N  kx32 f M ((l1 + (1))) ((l2 + (1)))) else (L_X11_waitingSessions_4 N  kx32 f M (l1) ((l2 + (1)))))

def F_X11_waitingSessions (N : Nat) (M : vC)  : Option (vC × Int32) := L_X11_waitingSessions_4 N  (fun (M5 : vC) (l6 : Int32) => some (M5, l6)) fu M ((0 : Int32)) ((0 : Int32))

set_option maxRecDepth 100000 in
set_option maxHeartbeats 4000000 in
theorem w_X11_waitingSessions_4 {E : vE} {X : vX} {S0 : vS} {z x N d0 : Nat} {ρ : Type} {R : ρ} {Z : State → Prop}  {kx32 : vC → Int32 → Option ρ}  (C : vi_C E X yX11_waitingSessions cX11_waitingSessions 3 (some .int) 0 0 0 (45 * 0)) (hx32 : ∀ (M : vC) (l1 : Int32), kx32 M l1 = some R → ∀ S, RC S z x N d0 M → cF S0 S z x N d0 → vi_W E X 3 Z 32 [(1, .int (l1))] [] S (cz M) 0 0) : ∀ (f : Nat) (M : vC) (l1 : Int32) (l2 : Int32), L_X11_waitingSessions_4 N  kx32 f M l1 l2 = some R → ∀ S, RC S z x N d0 M → cF S0 S z x N d0 → vi_W E X 3 Z 4 [(0, .ref (ad z x 11 (0))), (1, .int (l1)), (2, .int (l2))] [] S (cz M) 0 0 := by
  intro f
  induction f with
  | zero => intro M l1 l2 h; cases h
  | succ f ih =>
    intro M l1 l2 h S hR hF
    rw [L_X11_waitingSessions_4] at h
    refine vi_iload_n C dX11_waitingSessions_4 rfl rfl ?_
    refine vi_bipush (v := 16) C dX11_waitingSessions_5 rfl (by decide) ?_
    refine vi_icmp_ge (t' := 32) C dX11_waitingSessions_7 rfl (by decide) (fun c4 => ?_) (fun c4 => ?_)
    · replace h := iT c4 h
      exact (vi_cut [(1, .int (l1))] ⟨rfl, trivial⟩ (hx32 _ _ h _ hR hF))
    · replace h := iN c4 h
      refine vi_aload_n C dX11_waitingSessions_10 rfl rfl ?_
      refine c_gets (f := 1104) (k := 11) (i := 0) C dX11_waitingSessions_11 rfl fX11_46 rfl (by decide) rfl hR (rfl : 0 = 0) rfl ?_
      refine vi_iload_n C dX11_waitingSessions_14 rfl rfl ?_
      refine c_aaloadS C dX11_waitingSessions_15 rfl hR h (fun v1 c2 h => ?_)
      refine c_geti (f := 901) (k := 9) (i := v1) C dX11_waitingSessions_16 rfl fX11_82 rfl (by decide) rfl hR c2 ?_
      refine vi_iconst (v := 2) C dX11_waitingSessions_19 rfl (by decide) ?_
      refine vi_icmp_ne (t' := 26) C dX11_waitingSessions_20 rfl (by decide) (fun c3 => ?_) (fun c3 => ?_)
      · replace h := iN c3 h
        refine vi_iincv (v := 1) C dX11_waitingSessions_26 rfl rfl (by decide) (by decide) ?_
        refine vi_goto (t' := 4) C dX11_waitingSessions_29 (by decide) ?_
        exact vi_cut [(0, .ref (ad z x 11 (0))), (1, .int (l1)), (2, .int ((l2 + (1))))] ⟨rfl, rfl, rfl, trivial⟩ (ih _ _ _ h _ hR hF)
      · replace h := iT c3 h
        refine vi_iincv (v := 1) C dX11_waitingSessions_23 rfl rfl (by decide) (by decide) ?_
        refine vi_iincv (v := 1) C dX11_waitingSessions_26 rfl rfl (by decide) (by decide) ?_
        refine vi_goto (t' := 4) C dX11_waitingSessions_29 (by decide) ?_
        exact vi_cut [(0, .ref (ad z x 11 (0))), (1, .int ((l1 + (1)))), (2, .int ((l2 + (1))))] ⟨rfl, rfl, rfl, trivial⟩ (ih _ _ _ h _ hR hF)

set_option maxRecDepth 100000 in
set_option maxHeartbeats 4000000 in
theorem p_X11_waitingSessions {N : Nat} {M : vC} {R : (vC × Int32)}   (h : F_X11_waitingSessions N M  = some R) {E : vE} {S0 : vS} {z x d0 : Nat} (hR : RC S0 z x N d0 M) : vi_Met E yX11_waitingSessions cX11_waitingSessions 3 (some .int) 0 0 0 [.ref (ad z x 11 (0))] S0 (cz M) (D1 S0 z x N d0 R) := by
  refine vi_met (by decide) (Nat.le_of_ble_eq_true rfl) ?_
  intro X C
  have hF := cF.refl S0 z x N d0
  unfold F_X11_waitingSessions at h
  refine vi_iconst (v := 0) C dX11_waitingSessions_0 rfl (by decide) ?_
  refine vi_istore_n C dX11_waitingSessions_1 rfl (by decide) ?_
  refine vi_iconst (v := 0) C dX11_waitingSessions_2 rfl (by decide) ?_
  refine vi_istore_n C dX11_waitingSessions_3 rfl (by decide) ?_
  refine vi_cut [(0, .ref (ad z x 11 (0))), (1, .int ((0 : Int32))), (2, .int ((0 : Int32)))] ⟨rfl, rfl, rfl, trivial⟩ (w_X11_waitingSessions_4  C ?_ _ _ _ _ h _ hR hF)
  · intro M5 l6 h S hR hF
    refine vi_iload_n C dX11_waitingSessions_32 rfl rfl ?_
    exact c_ret1 C dX11_waitingSessions_33 rfl hR hF ⟨Nat.zero_le _, Nat.zero_le _⟩ h

def F_X11_lookAt (N : Nat) (M : vC) (a1 : Int32) : Option (vC × Int32) := if a1 = 0 then (some (M, (Int32.ofNat N))) else if a1 = 1 then (some (M, (cI M 1100 (0)))) else if a1 = 2 then (some (M, (cI M 1101 (0)))) else if a1 = 3 then (some (M, (cI M 303 (0)))) else if a1 = 4 then (some (M, (cI M 304 (0)))) else if a1 = 5 then (some (M, (cI M 305 (0)))) else if a1 = 6 then (b2 (F_X11_greatestIndex N M ) fun M8 v9 => some (M8, v9)) else if a1 = 7 then (b2 (F_X11_waitingSessions N M ) fun M11 v12 => some (M11, v12)) else if a1 = 8 then (some (M, (cI M 1102 (0)))) else if a1 = 9 then (some (M, (cI M 306 (0)))) else (some (M, (-1 : Int32)))

set_option maxRecDepth 100000 in
set_option maxHeartbeats 4000000 in
theorem p_X11_lookAt {N : Nat} {M : vC} {R : (vC × Int32)} {a1 : Int32}  (h : F_X11_lookAt N M a1 = some R) {E : vE} {S0 : vS} {z x d0 : Nat} (hR : RC S0 z x N d0 M) : vi_Met E yX11_lookAt cX11_lookAt 2 (some .int) 2 0 0 [.ref (ad z x 11 (0)), .int (a1)] S0 (cz M) (D1 S0 z x N d0 R) := by
  refine vi_met (by decide) (Nat.le_of_ble_eq_true rfl) ?_
  intro X C
  have hF := cF.refl S0 z x N d0
  unfold F_X11_lookAt at h
  refine vi_iload_n C dX11_lookAt_0 rfl rfl ?_
  by_cases c2 : a1 = 0
  · replace h := iT c2 h
    refine vi_tswI (v := 0) (t' := 56) C c2 dX11_lookAt_1 (by decide) (by decide) rfl (by decide) ?_
    refine vi_aload_n C dX11_lookAt_56 rfl rfl ?_
    refine c_gets (f := 1103) (k := 11) (i := 0) C dX11_lookAt_57 rfl fX11_53 rfl (by decide) rfl hR (rfl : 0 = 0) rfl ?_
    refine c_alenR C dX11_lookAt_60 rfl hR ?_
    exact c_ret1 C dX11_lookAt_61 rfl hR hF ⟨Nat.zero_le _, Nat.zero_le _⟩ h
  replace h := iN c2 h
  by_cases c3 : a1 = 1
  · replace h := iT c3 h
    refine vi_tswI (v := 1) (t' := 62) C c3 dX11_lookAt_1 (by decide) (by decide) rfl (by decide) ?_
    refine vi_aload_n C dX11_lookAt_62 rfl rfl ?_
    refine c_geti (f := 1100) (k := 11) (i := 0) C dX11_lookAt_63 rfl fX11_18 rfl (by decide) rfl hR (rfl : 0 = 0) ?_
    exact c_ret1 C dX11_lookAt_66 rfl hR hF ⟨Nat.zero_le _, Nat.zero_le _⟩ h
  replace h := iN c3 h
  by_cases c4 : a1 = 2
  · replace h := iT c4 h
    refine vi_tswI (v := 2) (t' := 67) C c4 dX11_lookAt_1 (by decide) (by decide) rfl (by decide) ?_
    refine vi_aload_n C dX11_lookAt_67 rfl rfl ?_
    refine c_geti (f := 1101) (k := 11) (i := 0) C dX11_lookAt_68 rfl fX11_22 rfl (by decide) rfl hR (rfl : 0 = 0) ?_
    exact c_ret1 C dX11_lookAt_71 rfl hR hF ⟨Nat.zero_le _, Nat.zero_le _⟩ h
  replace h := iN c4 h
  by_cases c5 : a1 = 3
  · replace h := iT c5 h
    refine vi_tswI (v := 3) (t' := 72) C c5 dX11_lookAt_1 (by decide) (by decide) rfl (by decide) ?_
    refine vi_aload_n C dX11_lookAt_72 rfl rfl ?_
    refine c_gets (f := 1105) (k := 11) (i := 0) C dX11_lookAt_73 rfl fX11_40 rfl (by decide) rfl hR (rfl : 0 = 0) rfl ?_
    refine c_geti (f := 303) (k := 3) (i := 0) C dX11_lookAt_76 rfl fX11_165 rfl (by decide) rfl hR (rfl : 0 = 0) ?_
    exact c_ret1 C dX11_lookAt_79 rfl hR hF ⟨Nat.zero_le _, Nat.zero_le _⟩ h
  replace h := iN c5 h
  by_cases c6 : a1 = 4
  · replace h := iT c6 h
    refine vi_tswI (v := 4) (t' := 80) C c6 dX11_lookAt_1 (by decide) (by decide) rfl (by decide) ?_
    refine vi_aload_n C dX11_lookAt_80 rfl rfl ?_
    refine c_gets (f := 1105) (k := 11) (i := 0) C dX11_lookAt_81 rfl fX11_40 rfl (by decide) rfl hR (rfl : 0 = 0) rfl ?_
    refine c_geti (f := 304) (k := 3) (i := 0) C dX11_lookAt_84 rfl fX11_255 rfl (by decide) rfl hR (rfl : 0 = 0) ?_
    exact c_ret1 C dX11_lookAt_87 rfl hR hF ⟨Nat.zero_le _, Nat.zero_le _⟩ h
  replace h := iN c6 h
  by_cases c7 : a1 = 5
  · replace h := iT c7 h
    refine vi_tswI (v := 5) (t' := 88) C c7 dX11_lookAt_1 (by decide) (by decide) rfl (by decide) ?_
    refine vi_aload_n C dX11_lookAt_88 rfl rfl ?_
    refine c_gets (f := 1105) (k := 11) (i := 0) C dX11_lookAt_89 rfl fX11_40 rfl (by decide) rfl hR (rfl : 0 = 0) rfl ?_
    refine c_geti (f := 305) (k := 3) (i := 0) C dX11_lookAt_92 rfl fX11_258 rfl (by decide) rfl hR (rfl : 0 = 0) ?_
    exact c_ret1 C dX11_lookAt_95 rfl hR hF ⟨Nat.zero_le _, Nat.zero_le _⟩ h
  replace h := iN c7 h
  by_cases c10 : a1 = 6
  · replace h := iT c10 h
    refine vi_tswI (v := 6) (t' := 96) C c10 dX11_lookAt_1 (by decide) (by decide) rfl (by decide) ?_
    refine vi_aload_n C dX11_lookAt_96 rfl rfl ?_
    refine c_cv1 (kc := 11) (a := (ad z x 11 (0))) C [] [] dX11_lookAt_97 rfl ivX11_261 imX11_greatestIndex rfl rfl (rcK hR (rfl : 0 = 0)) hR hF h (fun _ e => p_X11_greatestIndex  e hR) rfl (Nat.le_of_ble_eq_true rfl) ⟨by decide, by decide⟩ ⟨Nat.le_refl _, Nat.le_refl _⟩ (fun S M8 v9 h hR hF => ?_)
    exact c_ret1 C dX11_lookAt_100 rfl hR hF ⟨Nat.zero_le _, Nat.zero_le _⟩ h
  replace h := iN c10 h
  by_cases c13 : a1 = 7
  · replace h := iT c13 h
    refine vi_tswI (v := 7) (t' := 101) C c13 dX11_lookAt_1 (by decide) (by decide) rfl (by decide) ?_
    refine vi_aload_n C dX11_lookAt_101 rfl rfl ?_
    refine c_cv1 (kc := 11) (a := (ad z x 11 (0))) C [] [] dX11_lookAt_102 rfl ivX11_265 imX11_waitingSessions rfl rfl (rcK hR (rfl : 0 = 0)) hR hF h (fun _ e => p_X11_waitingSessions  e hR) rfl (Nat.le_of_ble_eq_true rfl) ⟨by decide, by decide⟩ ⟨Nat.le_refl _, Nat.le_refl _⟩ (fun S M11 v12 h hR hF => ?_)
    exact c_ret1 C dX11_lookAt_105 rfl hR hF ⟨Nat.zero_le _, Nat.zero_le _⟩ h
  replace h := iN c13 h
  by_cases c14 : a1 = 8
  · replace h := iT c14 h
    refine vi_tswI (v := 8) (t' := 106) C c14 dX11_lookAt_1 (by decide) (by decide) rfl (by decide) ?_
    refine vi_aload_n C dX11_lookAt_106 rfl rfl ?_
    refine c_geti (f := 1102) (k := 11) (i := 0) C dX11_lookAt_107 rfl fX11_25 rfl (by decide) rfl hR (rfl : 0 = 0) ?_
    exact c_ret1 C dX11_lookAt_110 rfl hR hF ⟨Nat.zero_le _, Nat.zero_le _⟩ h
  replace h := iN c14 h
  by_cases c15 : a1 = 9
  · replace h := iT c15 h
    refine vi_tswI (v := 9) (t' := 111) C c15 dX11_lookAt_1 (by decide) (by decide) rfl (by decide) ?_
    refine vi_aload_n C dX11_lookAt_111 rfl rfl ?_
    refine c_gets (f := 1105) (k := 11) (i := 0) C dX11_lookAt_112 rfl fX11_40 rfl (by decide) rfl hR (rfl : 0 = 0) rfl ?_
    refine c_geti (f := 306) (k := 3) (i := 0) C dX11_lookAt_115 rfl fX11_178 rfl (by decide) rfl hR (rfl : 0 = 0) ?_
    exact c_ret1 C dX11_lookAt_118 rfl hR hF ⟨Nat.zero_le _, Nat.zero_le _⟩ h
  replace h := iN c15 h
  have tc2 := tne (w := 0) c2 (by decide)
  have tc3 := tne (w := 1) c3 (by decide)
  have tc4 := tne (w := 2) c4 (by decide)
  have tc5 := tne (w := 3) c5 (by decide)
  have tc6 := tne (w := 4) c6 (by decide)
  have tc7 := tne (w := 5) c7 (by decide)
  have tc10 := tne (w := 6) c10 (by decide)
  have tc13 := tne (w := 7) c13 (by decide)
  have tc14 := tne (w := 8) c14 (by decide)
  have tc15 := tne (w := 9) c15 (by decide)
  refine vi_tswO (t' := 119) C dX11_lookAt_1 (by omega) (by decide) ?_
  refine vi_iconst (v := -1) C dX11_lookAt_119 rfl (by decide) ?_
  exact c_ret1 C dX11_lookAt_120 rfl hR hF ⟨Nat.zero_le _, Nat.zero_le _⟩ h
