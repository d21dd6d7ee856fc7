def uZ (c : vC) (t : Nat) : vC := (cI c, cP c, cR c, cJ c, cQ c, cK c, cN c, cD c, t)
theorem rcZ {S : vS} {z x N d0 : Nat} {c : vC} (h : RC S z x N d0 c) {t : Nat} (ht : cz c ≤ t) : RC S z x N d0 (uZ c t) := by
  obtain ⟨h1, h2, h3, h4, h5, h6, h7, h8⟩ := h
  refine ⟨⟨h1.1, h1.2.1, Nat.le_trans h1.2.2 ht⟩, h2, h3, h4, h5, h6, h7, fun a ha => ?_⟩
  obtain ⟨q1, q2⟩ := h8 a ha
  exact ⟨⟨q1.1, Nat.lt_of_lt_of_le q1.2 ht⟩, q2⟩
/-- it returned (tag 0), or threw -/
def DX (S0 : vS) (z x N d0 : Nat) (R : vC × Int32 × Int32) : Option Value → vS → Nat → Prop := fun rv S1 z1 => R.2.1 = 0 ∧ rv = some (.int R.2.2) ∧ z1 = cz R.1 ∧ RC S1 z x N d0 R.1 ∧ cF S0 S1 z x N d0
def DT (t : Int32) (En : String) : Prop := t = 1 ∧ En = "java/lang/IllegalArgumentException" ∨ t = 2 ∧ En = "java/lang/IllegalStateException" ∨ t = 3 ∧ En = "java/lang/IndexOutOfBoundsException"
def DXX (S0 : vS) (z x N d0 : Nat) (R : vC × Int32 × Int32) : String → vS → Nat → Prop := fun En S1 z1 => DT R.2.1 En ∧ z1 = cz R.1 ∧ RC S1 z x N d0 R.1 ∧ cF S0 S1 z x N d0
section CLT
variable {E : vE} {X : vX} {y : MethodName} {cc : ByteArray} {nL : Nat} {ret : Option FieldType} {d mc ms lo : Nat} {Z : State → Prop} {pc : Nat} {lv : List (Nat × Value)} {st : List Value} {S S0 : vS} {z x N d0 q n : Nat} {c : vC} {ρ : Type} {R : ρ}
theorem c_retX (C : vi_C E X y cc nL ret d mc ms lo) {v : Int32} {R : vC × Int32 × Int32} (hd : decode cc pc = .ok (.ireturn, 1)) (hr : ret = some .int) (hR : RC S z x N d0 c) (hF : cF S0 S z x N d0) (hk : q ≤ mc ∧ n ≤ ms) (h : some (c, (0 : Int32), v) = some R) : vi_W E X nL (vi_ZX E X (DX S0 z x N d0 R) (DXX S0 z x N d0 R) mc ms) pc lv [.int v] S (cz c) q n := by
  cases h
  exact vi_retX (vi_ireturn C hd hr rfl hk.1 hk.2 ⟨rfl, rfl, rfl, hR, hF⟩)
theorem c_thr (C : vi_C E X y cc nL ret d mc ms lo) (hZ : vi_Zs E X.2.2.2.1 X.2.2.2.1.heap) (ht : ∀ x ∈ X.2.2.2.2.2.2.2.2.exceptionTable.toList, False) {cls : String} {names : List String} {ik ic : Nat} {t : Int32} {R : vC × Int32 × Int32} (hcls : Bundle.fit cls = true) (hnames : ∀ n ∈ names, Bundle.fit n = true)
    (hk : Cond.classLink y.cls ik cls ∈ vi_tb) (hini : Cond.initialized cls ∈ vi_tb) (hat : ∀ w ∈ vx_at0 y.cls ic cls names, w ∈ vi_tb ∨ w ∈ vi_nt ∨ w ∈ vi_dw) (hgood : ∀ w ∈ Cond.classLink y.cls ik cls :: Cond.initialized cls :: vx_at0 y.cls ic cls names, vx_ot w = true)
    (d0' : decode cc pc = .ok (.new ik, 3)) (d3 : decode cc (pc + 3) = .ok (.dup, 1)) (d4 : decode cc (pc + 4) = .ok (.invokespecial ic, 3)) (d7 : decode cc (pc + 7) = .ok (.athrow, 1))
    (hfr : names.length + 3 < d) (hlo : (st.map fun v => v.category).sum + (13 * (names.length + 1) + 42) ≤ lo) (hk1 : q + 1 ≤ mc) (hn1 : n + 6 ≤ ms) (hR : RC S z x N d0 c) (hF : cF S0 S z x N d0) (he : DT t cls) (h : some (uZ c (cz c + 1), t, (0 : Int32)) = some R) : vi_W E X nL (vi_ZX E X (DX S0 z x N d0 R) (DXX S0 z x N d0 R) mc ms) pc lv st S (cz c) q n := by
  cases h
  exact vi_throw0 C hZ ht hcls hnames hk hini hat hgood d0' d3 d4 d7 hfr hlo hk1 hn1 ⟨he, rfl, rcZ hR (Nat.le_succ _), hF⟩
end CLT

def F_X11_readKey (N : Nat) (M : vC) (a1 : Int32) (a2 : Int32) : Option (vC × Int32 × Int32) := b2 (F_X11_sessionNumber N M (a1)) fun M1 v2 => oc (v2) (some (uZ M1 (cz M1 + 1), (1 : Int32), (0 : Int32))) (fun o3 => gd (o3 < 16) <| b2 (F_X11_isKey N M1 (a2)) fun M5 v6 => if v6 = 0 then (some (uZ M5 (cz M5 + 1), (1 : Int32), (0 : Int32))) else (if (cI M5 901 (o3)) = (1 : Int32) then (b2 (F_X11_upNumber N M5 ((cI M5 903 (o3)))) fun M7 v8 => jn (fun (u : Unit) => (F_X9_end N M7 (o3) ((4 : Int32))).bind fun M15 => some (uZ M15 (cz M15 + 1), (2 : Int32), (0 : Int32))) (fun k71_9 => oc (v8) ((k71_9 (()))) (fun o10 => gd (o10 < N) <| if (cI M7 1008 (o10)) ≤ (cI M7 904 (o3)) then (b2 (F_X9_read N M7 (o3) (a2) (o10)) fun M12 v13 => some (M12, (0 : Int32), v13)) else ((k71_9 (())))))) else (some (uZ M5 (cz M5 + 1), (2 : Int32), (0 : Int32)))))

set_option maxRecDepth 100000 in
set_option maxHeartbeats 4000000 in
theorem p_X11_readKey {N : Nat} {M : vC} {R : (vC × Int32 × Int32)} {a1 : Int32} {a2 : Int32}  (h : F_X11_readKey N M a1 a2 = some R) {E : vE} {S0 : vS} {z x d0 : Nat} (hR : RC S0 z x N d0 M) : vi_MetX E yX11_readKey cX11_readKey 5 (some .int) 6 1 6 [.ref (ad z x 11 (0)), .int (a1), .int (a2)] S0 (cz M) (DX S0 z x N d0 R) (DXX S0 z x N d0 R) := by
  refine vi_metX (by decide) (Nat.le_of_ble_eq_true rfl) ?_
  intro X C hZ hT
  have hF := cF.refl S0 z x N d0
  unfold F_X11_readKey at h
  refine vi_aload_n C dX11_readKey_0 rfl rfl ?_
  refine vi_iload_n C dX11_readKey_1 rfl rfl ?_
  refine c_cv3 (kc := 11) (a := (ad z x 11 (0))) (kt := 9) C [.int (a1)] [] dX11_readKey_2 rfl ivX11_74 imX11_sessionNumber rfl rfl (rcK hR (rfl : 0 = 0)) hR hF h (fun _ e => p_X11_sessionNumber  e hR) rfl (Nat.le_of_ble_eq_true rfl) ⟨by decide, by decide⟩ ⟨by omega, by omega⟩ (fun S M1 v2 h hR hF => ?_)
  refine vi_astore_nq (o := ((v2).map (ad z x 9))) C dX11_readKey_5 rfl (by decide) ?_
  refine vi_aload_nq (o := ((v2).map (ad z x 9))) C dX11_readKey_6 rfl rfl ?_
  rcases oco h with ⟨rfl, hh⟩ | ⟨o3, rfl, hh⟩
  · replace h := hh
    clear hh
    refine vi_ifnull (o := none) (t' := 17) C dX11_readKey_7 rfl (by decide) (fun _ => ?_) (fun e => absurd rfl e)
    exact c_thr (names := ["java/lang/RuntimeException", "java/lang/Exception"]) C hZ hT rfl (by decide) xk_IA xi_IA xa_IA xg_IA dX11_readKey_17 dX11_readKey_20 dX11_readKey_21 dX11_readKey_24 (by decide) (Nat.le_of_ble_eq_true rfl) (by decide) (by decide) hR hF (Or.inl ⟨rfl, rfl⟩) h
  · replace h := hh
    clear hh
    refine vi_ifnull (o := (some (ad z x 9 (o3)))) (t' := 17) C dX11_readKey_7 rfl (by decide) (fun e => by cases e) (fun _ => ?_)
    obtain ⟨c4, h⟩ := gdo h
    refine vi_iload_n C dX11_readKey_10 rfl rfl ?_
    refine c_cs1 C [.int (a2)] [] dX11_readKey_11 rfl ivX11_96 isX11_isKey hR hF h (fun _ e => p_X11_isKey  e hR) rfl (Nat.le_of_ble_eq_true rfl) ⟨by decide, by decide⟩ ⟨by omega, by omega⟩ (fun S M5 v6 h hR hF => ?_)
    refine vi_if_ne (t' := 25) C dX11_readKey_14 rfl (by decide) (fun c17 => ?_) (fun c17 => ?_)
    · replace h := iN c17 h
      refine vi_aload_n C dX11_readKey_25 rfl rfl ?_
      refine c_geti (f := 901) (k := 9) (i := o3) C dX11_readKey_26 rfl fX11_82 rfl (by decide) rfl hR c4 ?_
      refine vi_iconst (v := 1) C dX11_readKey_29 rfl (by decide) ?_
      refine vi_icmp_eq (t' := 41) C dX11_readKey_30 rfl (by decide) (fun c16 => ?_) (fun c16 => ?_)
      · replace h := iT c16 h
        refine vi_aload_n C dX11_readKey_41 rfl rfl ?_
        refine vi_aload_n C dX11_readKey_42 rfl rfl ?_
        refine c_geti (f := 903) (k := 9) (i := o3) C dX11_readKey_43 rfl fX11_106 rfl (by decide) rfl hR c4 ?_
        refine c_cv3 (kc := 11) (a := (ad z x 11 (0))) (kt := 7) C [.int ((cI M5 903 (o3)))] [] dX11_readKey_46 rfl ivX11_78 imX11_upNumber rfl rfl (rcK hR (rfl : 0 = 0)) hR hF h (fun _ e => p_X11_upNumber  e hR) rfl (Nat.le_of_ble_eq_true rfl) ⟨by decide, by decide⟩ ⟨by omega, by omega⟩ (fun S M7 v8 h hR hF => ?_)
        refine vi_astoreq (o := ((v8).map (ad z x 7))) C dX11_readKey_49 rfl (by decide) ?_
        refine vi_aloadq (o := ((v8).map (ad z x 7))) C dX11_readKey_51 rfl rfl ?_
        refine r_jn h (fun k => ∀ (u : Unit), k u = some R → ∀ S, RC S z x N d0 M7 → cF S0 S z x N d0 → vi_W E X 5 (vi_ZX E X (DX S0 z x N d0 R) (DXX S0 z x N d0 R) 1 6) 71 [(3, .ref (ad z x 9 (o3)))] [] S (cz M7) 0 0) ?_ ?_
        · intro u h S hR hF
          refine vi_aload_n C dX11_readKey_71 rfl rfl ?_
          refine vi_iconst (v := 4) C dX11_readKey_72 rfl (by decide) ?_
          refine c_cv0 (kc := 9) (a := (ad z x 9 (o3))) C [.int ((4 : Int32))] [] dX11_readKey_73 rfl ivX11_115 imX9_end rfl rfl (rcK hR c4) hR hF h (fun _ e => p_X9_end c4 e hR) rfl (Nat.le_of_ble_eq_true rfl) ⟨by decide, by decide⟩ ⟨by omega, by omega⟩ (fun S M15 h hR hF => ?_)
          exact c_thr (names := ["java/lang/RuntimeException", "java/lang/Exception"]) C hZ hT rfl (by decide) xk_IS xi_IS xa_IS xg_IS dX11_readKey_76 dX11_readKey_79 dX11_readKey_80 dX11_readKey_83 (by decide) (Nat.le_of_ble_eq_true rfl) (by decide) (by decide) hR hF (Or.inr (Or.inl ⟨rfl, rfl⟩)) h
        · intro k71_9 h71_9 h
          rcases oco h with ⟨rfl, hh⟩ | ⟨o10, rfl, hh⟩
          · replace h := hh
            clear hh
            refine vi_ifnull (o := none) (t' := 71) C dX11_readKey_53 rfl (by decide) (fun _ => ?_) (fun e => absurd rfl e)
            exact (vi_cut [(3, .ref (ad z x 9 (o3)))] ⟨rfl, trivial⟩ (h71_9 _ h _ hR hF))
          · replace h := hh
            clear hh
            refine vi_ifnull (o := (some (ad z x 7 (o10)))) (t' := 71) C dX11_readKey_53 rfl (by decide) (fun e => by cases e) (fun _ => ?_)
            obtain ⟨c11, h⟩ := gdo h
            refine vi_aload_n C dX11_readKey_56 rfl rfl ?_
            refine c_geti (f := 904) (k := 9) (i := o3) C dX11_readKey_57 rfl fX11_109 rfl (by decide) rfl hR c4 ?_
            refine vi_aload C dX11_readKey_60 rfl rfl ?_
            refine c_gets (f := 703) (k := 7) (i := o10) C dX11_readKey_62 rfl fX11_85 rfl (by decide) rfl hR c11 rfl ?_
            refine c_geti (f := 1008) (k := 10) (i := o10) C dX11_readKey_65 rfl fX11_112 rfl (by decide) rfl hR c11 ?_
            refine vi_icmp_ge (t' := 84) C dX11_readKey_68 rfl (by decide) (fun c14 => ?_) (fun c14 => ?_)
            · replace h := iT c14 h
              refine vi_aload_n C dX11_readKey_84 rfl rfl ?_
              refine vi_iload_n C dX11_readKey_85 rfl rfl ?_
              refine vi_aload C dX11_readKey_86 rfl rfl ?_
              refine c_gets (f := 703) (k := 7) (i := o10) C dX11_readKey_88 rfl fX11_85 rfl (by decide) rfl hR c11 rfl ?_
              refine c_cv1 (kc := 9) (a := (ad z x 9 (o3))) C [.int (a2), .ref (ad z x 10 (o10))] [] dX11_readKey_91 rfl ivX11_118 imX9_read rfl rfl (rcK hR c4) hR hF h (fun _ e => p_X9_read c4 c11 e hR) rfl (Nat.le_of_ble_eq_true rfl) ⟨by decide, by decide⟩ ⟨by omega, by omega⟩ (fun S M12 v13 h hR hF => ?_)
              exact c_retX C dX11_readKey_94 rfl hR hF ⟨Nat.zero_le _, Nat.zero_le _⟩ h
            · replace h := iN c14 h
              exact (vi_cut [(3, .ref (ad z x 9 (o3)))] ⟨rfl, trivial⟩ (h71_9 _ h _ hR hF))
      · replace h := iN c16 h
        exact c_thr (names := ["java/lang/RuntimeException", "java/lang/Exception"]) C hZ hT rfl (by decide) xk_IS xi_IS xa_IS xg_IS dX11_readKey_33 dX11_readKey_36 dX11_readKey_37 dX11_readKey_40 (by decide) (Nat.le_of_ble_eq_true rfl) (by decide) (by decide) hR hF (Or.inr (Or.inl ⟨rfl, rfl⟩)) h
    · replace h := iT c17 h
      exact c_thr (names := ["java/lang/RuntimeException", "java/lang/Exception"]) C hZ hT rfl (by decide) xk_IA xi_IA xa_IA xg_IA dX11_readKey_17 dX11_readKey_20 dX11_readKey_21 dX11_readKey_24 (by decide) (Nat.le_of_ble_eq_true rfl) (by decide) (by decide) hR hF (Or.inl ⟨rfl, rfl⟩) h

def F_X11_valueAt (N : Nat) (M : vC) (a1 : Int32) (a2 : Int32) (a3 : Int32) : Option (vC × Int32 × Int32) := b2 (F_X11_upNumber N M (a1)) fun M1 v2 => oc (v2) (some (uZ M1 (cz M1 + 1), (3 : Int32), (0 : Int32))) (fun o3 => gd (o3 < N) <| b2 (F_X11_isKey N M1 (a2)) fun M5 v6 => if v6 = 0 then (some (uZ M5 (cz M5 + 1), (3 : Int32), (0 : Int32))) else (if a3 < (cI M5 1008 (o3)) then (some (uZ M5 (cz M5 + 1), (3 : Int32), (0 : Int32))) else (if a3 ≤ (cI M5 1007 (o3)) then (b2 (F_X10_valueOf N M5 (o3) (a2) (a3)) fun M7 v8 => some (M7, (0 : Int32), v8)) else (some (uZ M5 (cz M5 + 1), (3 : Int32), (0 : Int32))))))

set_option maxRecDepth 100000 in
set_option maxHeartbeats 4000000 in
theorem p_X11_valueAt {N : Nat} {M : vC} {R : (vC × Int32 × Int32)} {a1 : Int32} {a2 : Int32} {a3 : Int32}  (h : F_X11_valueAt N M a1 a2 a3 = some R) {E : vE} {S0 : vS} {z x d0 : Nat} (hR : RC S0 z x N d0 M) : vi_MetX E yX11_valueAt cX11_valueAt 5 (some .int) 6 1 6 [.ref (ad z x 11 (0)), .int (a1), .int (a2), .int (a3)] S0 (cz M) (DX S0 z x N d0 R) (DXX S0 z x N d0 R) := by
  refine vi_metX (by decide) (Nat.le_of_ble_eq_true rfl) ?_
  intro X C hZ hT
  have hF := cF.refl S0 z x N d0
  unfold F_X11_valueAt at h
  refine vi_aload_n C dX11_valueAt_0 rfl rfl ?_
  refine vi_iload_n C dX11_valueAt_1 rfl rfl ?_
  refine c_cv3 (kc := 11) (a := (ad z x 11 (0))) (kt := 7) C [.int (a1)] [] dX11_valueAt_2 rfl ivX11_78 imX11_upNumber rfl rfl (rcK hR (rfl : 0 = 0)) hR hF h (fun _ e => p_X11_upNumber  e hR) rfl (Nat.le_of_ble_eq_true rfl) ⟨by decide, by decide⟩ ⟨by omega, by omega⟩ (fun S M1 v2 h hR hF => ?_)
  refine vi_astoreq (o := ((v2).map (ad z x 7))) C dX11_valueAt_5 rfl (by decide) ?_
  refine vi_aloadq (o := ((v2).map (ad z x 7))) C dX11_valueAt_7 rfl rfl ?_
  rcases oco h with ⟨rfl, hh⟩ | ⟨o3, rfl, hh⟩
  · replace h := hh
    clear hh
    refine vi_ifnull (o := none) (t' := 43) C dX11_valueAt_9 rfl (by decide) (fun _ => ?_) (fun e => absurd rfl e)
    exact c_thr (names := ["java/lang/RuntimeException", "java/lang/Exception"]) C hZ hT rfl (by decide) xk_IO xi_IO xa_IO xg_IO dX11_valueAt_43 dX11_valueAt_46 dX11_valueAt_47 dX11_valueAt_50 (by decide) (Nat.le_of_ble_eq_true rfl) (by decide) (by decide) hR hF (Or.inr (Or.inr ⟨rfl, rfl⟩)) h
  · replace h := hh
    clear hh
    refine vi_ifnull (o := (some (ad z x 7 (o3)))) (t' := 43) C dX11_valueAt_9 rfl (by decide) (fun e => by cases e) (fun _ => ?_)
    obtain ⟨c4, h⟩ := gdo h
    refine vi_iload_n C dX11_valueAt_12 rfl rfl ?_
    refine c_cs1 C [.int (a2)] [] dX11_valueAt_13 rfl ivX11_96 isX11_isKey hR hF h (fun _ e => p_X11_isKey  e hR) rfl (Nat.le_of_ble_eq_true rfl) ⟨by decide, by decide⟩ ⟨by omega, by omega⟩ (fun S M5 v6 h hR hF => ?_)
    refine vi_if_eq (t' := 43) C dX11_valueAt_16 rfl (by decide) (fun c11 => ?_) (fun c11 => ?_)
    · replace h := iT c11 h
      exact c_thr (names := ["java/lang/RuntimeException", "java/lang/Exception"]) C hZ hT rfl (by decide) xk_IO xi_IO xa_IO xg_IO dX11_valueAt_43 dX11_valueAt_46 dX11_valueAt_47 dX11_valueAt_50 (by decide) (Nat.le_of_ble_eq_true rfl) (by decide) (by decide) hR hF (Or.inr (Or.inr ⟨rfl, rfl⟩)) h
    · replace h := iN c11 h
      refine vi_iload_n C dX11_valueAt_19 rfl rfl ?_
      refine vi_aload C dX11_valueAt_20 rfl rfl ?_
      refine c_gets (f := 703) (k := 7) (i := o3) C dX11_valueAt_22 rfl fX11_85 rfl (by decide) rfl hR c4 rfl ?_
      refine c_geti (f := 1008) (k := 10) (i := o3) C dX11_valueAt_25 rfl fX11_112 rfl (by decide) rfl hR c4 ?_
      refine vi_icmp_lt (t' := 43) C dX11_valueAt_28 rfl (by decide) (fun c10 => ?_) (fun c10 => ?_)
      · replace h := iT c10 h
        exact c_thr (names := ["java/lang/RuntimeException", "java/lang/Exception"]) C hZ hT rfl (by decide) xk_IO xi_IO xa_IO xg_IO dX11_valueAt_43 dX11_valueAt_46 dX11_valueAt_47 dX11_valueAt_50 (by decide) (Nat.le_of_ble_eq_true rfl) (by decide) (by decide) hR hF (Or.inr (Or.inr ⟨rfl, rfl⟩)) h
      · replace h := iN c10 h
        refine vi_iload_n C dX11_valueAt_31 rfl rfl ?_
        refine vi_aload C dX11_valueAt_32 rfl rfl ?_
        refine c_gets (f := 703) (k := 7) (i := o3) C dX11_valueAt_34 rfl fX11_85 rfl (by decide) rfl hR c4 rfl ?_
        refine c_geti (f := 1007) (k := 10) (i := o3) C dX11_valueAt_37 rfl fX11_89 rfl (by decide) rfl hR c4 ?_
        refine vi_icmp_le (t' := 51) C dX11_valueAt_40 rfl (by decide) (fun c9 => ?_) (fun c9 => ?_)
        · replace h := iT c9 h
          refine vi_aload C dX11_valueAt_51 rfl rfl ?_
          refine c_gets (f := 703) (k := 7) (i := o3) C dX11_valueAt_53 rfl fX11_85 rfl (by decide) rfl hR c4 rfl ?_
          refine vi_iload_n C dX11_valueAt_56 rfl rfl ?_
          refine vi_iload_n C dX11_valueAt_57 rfl rfl ?_
          refine c_cv1 (kc := 10) (a := (ad z x 10 (o3))) C [.int (a2), .int (a3)] [] dX11_valueAt_58 rfl ivX11_243 imX10_valueOf rfl rfl (rcK hR c4) hR hF h (fun _ e => p_X10_valueOf c4 e hR) rfl (Nat.le_of_ble_eq_true rfl) ⟨by decide, by decide⟩ ⟨by omega, by omega⟩ (fun S M7 v8 h hR hF => ?_)
          exact c_retX C dX11_valueAt_61 rfl hR hF ⟨Nat.zero_le _, Nat.zero_le _⟩ h
        · replace h := iN c9 h
          exact c_thr (names := ["java/lang/RuntimeException", "java/lang/Exception"]) C hZ hT rfl (by decide) xk_IO xi_IO xa_IO xg_IO dX11_valueAt_43 dX11_valueAt_46 dX11_valueAt_47 dX11_valueAt_50 (by decide) (Nat.le_of_ble_eq_true rfl) (by decide) (by decide) hR hF (Or.inr (Or.inr ⟨rfl, rfl⟩)) h
