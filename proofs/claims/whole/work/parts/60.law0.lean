theorem hk_l : Cond.methodLink RL 40 yL_readKey ∈ vi_tb := vi_mem (vi_m5 (List.mem_of_getElem? (i := 192) rfl)) rfl
theorem hk_s : Cond.static yL_readKey ∈ vi_tb := vi_mem (vi_m5 (List.mem_of_getElem? (i := 193) rfl)) rfl
theorem hk_c : Cond.codeWith yL_readKey cL_readKey 5 (some .int) [(0, 10, 13, 13), (0, 10, 17, 15)] ∈ vi_tb := vi_mem (vi_m5 (List.mem_of_getElem? (i := 194) rfl)) rfl
theorem hv_l : Cond.methodLink RL 115 yL_valueAt ∈ vi_tb := vi_mem (vi_m6 (List.mem_of_getElem? (i := 48) rfl)) rfl
theorem hv_s : Cond.static yL_valueAt ∈ vi_tb := vi_mem (vi_m6 (List.mem_of_getElem? (i := 49) rfl)) rfl
theorem hv_c : Cond.codeWith yL_valueAt cL_valueAt 6 (some .int) [(0, 12, 15, 21)] ∈ vi_tb := vi_mem (vi_m6 (List.mem_of_getElem? (i := 50) rfl)) rfl
theorem hk_d : (parseMethodDescriptor yL_readKey.desc).map (fun d => d.parameters.length) = some 4 := by decide +kernel
theorem hv_d : (parseMethodDescriptor yL_valueAt.desc).map (fun d => d.parameters.length) = some 5 := by decide +kernel
theorem h_in : Cond.initialized RL ∈ vi_tb := vi_mem (vi_m1 (List.mem_of_getElem? (i := 0) rfl)) rfl
theorem hk_x : Cond.methodLink RL 7 yX11_readKey ∈ vi_tb := vi_mem (vi_m5 (List.mem_of_getElem? (i := 197) rfl)) rfl
theorem hv_x : Cond.methodLink RL 17 yX11_valueAt ∈ vi_tb := vi_mem (vi_m6 (List.mem_of_getElem? (i := 52) rfl)) rfl
def lcI (x w : Int64) : Int32 := if x > w then 1 else if x = w then 0 else -1
/-- a helper with handlers -/
def vi_MetH (E : vE) (y : MethodName) (cc : ByteArray) (nL : Nat) (ret : Option FieldType) (hh : List (Nat × Nat × Nat × Nat)) (d mc ms : Nat) (av : List Value) (S : vS) (sz : Nat) (Q : Option Value → vS → Nat → Prop) : Prop :=
  Met E.1 y (.codeWith y cc nL ret hh :: vi_tb) { frames := d, cells := mc, slots := ms, locals := 45 * d } (va_Pc av (vi_BX E S sz)) (vi_Qc E Q) mc ms (fun q => E.2.2.2.1 ≤ q)
theorem vi_metH {E : vE} {y : MethodName} {cc : ByteArray} {nL : Nat} {ret : Option FieldType} {hh : List (Nat × Nat × Nat × Nat)} {d mc ms : Nat} {av : List Value} {S : vS} {sz : Nat} {Q : Option Value → vS → Nat → Prop} (hy : plainName y.cls = true) (hlen : (lg_sl av).length ≤ nL)
    (body : ∀ X : vX, vi_C E X y cc nL ret d mc ms (45 * d) → vi_Zs E X.2.2.2.1 X.2.2.2.1.heap → X.2.2.2.2.2.2.2.2.exceptionTable.toList = tableOf hh → vi_W E X nL (vi_Z E X Q mc ms) 0 (lv_args 0 av) [] S sz 0 0) : vi_MetH E y cc nL ret hh d mc ms av S sz Q := by
  refine va_MetW (cc := cc) (maxL := nL) (ret := ret) (hh := hh) hy rfl ?_
  intro p e s m args below meth c s₁ B hml hv
  obtain ⟨rfl, ⟨hH, hK, hX, hb⟩, hZ⟩ := hv
  have ht := vx_table (x := y) B (atoms_spec (ws := .codeWith y cc nL ret hh :: vi_tb) B.pre _ List.mem_cons_self)
  rw [lg_entry_eq]
  exact body (p, e, _, s, m, _, below, meth, c) ⟨B.exec, B.bytes, hml, B.returns, B.notSynchronized, findClass_of_methodNamed B.named, fun h => (name_of_methodNamed B.named B.method).1.trans h, fun w hw => atoms_spec (ws := .codeWith y cc nL ret hh :: vi_tb) B.pre w (List.mem_cons_of_mem _ hw), hK, hX, hb, rfl⟩ hZ ht s.heap [] _ (lv_entry av hlen) hH ⟨fun _ _ => rfl, fun x h => by cases h⟩
section VIHL
variable {E : vE} {X : vX} {y : MethodName} {cc : ByteArray} {nL : Nat} {ret : Option FieldType} {d mc ms lo : Nat} {Z : State → Prop} {pc : Nat} {lv : List (Nat × Value)} {st : List Value} {S : vS} {sz k n : Nat}
theorem vi_lcmp (C : vi_C E X y cc nL ret d mc ms lo) {p' : Nat} {x w : Int64} (hd : decode cc pc = .ok (.lcmp, 1)) (hp : pc + 1 = p') (kk : vi_W E X nL Z p' lv (.int (lcI x w) :: st) S sz k n) : vi_W E X nL Z pc lv (.long w :: .long x :: st) S sz k n := by
  subst hp
  intro H locs ls hl hH hS T hT XX
  obtain ⟨t, a, b⟩ := kk H locs ls hl hH hS T hT XX
  refine ⟨t, ?_, b⟩
  have hx := C.1
  have hb := C.2.1
  unfold lcI at a
  by_cases h1 : x > w
  · rw [if_pos h1] at a
    jvm_step XX.here [XX.here.top, hx, hb, hd, lcmp.wp_sem, h1]
    exact a
  · rw [if_neg h1] at a
    by_cases h2 : x = w
    · rw [if_pos h2] at a
      jvm_step XX.here [XX.here.top, hx, hb, hd, lcmp.wp_sem, h1, h2]
      first | exact a | (subst h2; exact a)
    · rw [if_neg h2] at a
      jvm_step XX.here [XX.here.top, hx, hb, hd, lcmp.wp_sem, h1, h2]
      exact a
theorem vi_callSH (C : vi_C E X y cc nL ret d mc ms lo) (hZ : vi_Zs E X.2.2.2.1 X.2.2.2.1.heap) {p' idx : Nat} {y' : MethodName} {cc' : ByteArray} {nL' : Nat} {ret' : Option FieldType} {hh : List (Nat × Nat × Nat × Nat)} {d' mc' ms' : Nat} (As rest : List Value) {Q' : Option Value → vS → Nat → Prop} (hd : decode cc pc = .ok (.invokestatic idx, 3)) (hp : pc + 3 = p') (w1 : Cond.codeWith y' cc' nL' ret' hh ∈ vi_tb) (w2 : Cond.initialized y'.cls ∈ vi_tb) (w3 : y'.cls ≠ "java/lang/invoke/MethodHandle" ∧ y'.cls ≠ "java/lang/invoke/VarHandle" ∧ (parseMethodDescriptor y'.desc).map (fun d => d.parameters.length) = some As.length) (w4 : Cond.methodLink y.cls idx y' ∈ vi_tb) (hi2 : Cond.static y' ∈ vi_tb) (hM : vi_MetH E y' cc' nL' ret' hh d' mc' ms' As S sz Q') (hst : st = As.reverse ++ rest) (hrs : (rest.map fun v => v.category).sum ≤ 8) (hdp : d' + 1 ≤ d ∧ 8 + (nL' + 11) + 45 * d' ≤ lo) (hrm : k + mc' ≤ mc ∧ n + ms' ≤ ms)
    (kk : ∀ v S' sz', Q' v S' sz' → vi_W E X nL Z p' lv (v.toList ++ rest) S' sz' (k + mc') (n + ms')) : vi_W E X nL Z pc lv st S sz k n := by
  intro H locs ls hl hH hS
  have hw := C.2.2.2.2.2.2.2.1
  have hG : GoodIn vi_tb (va_wsS y.cls idx y' (.codeWith y' cc' nL' ret' hh :: vi_tb)) := by
    intro w hw'
    have hm : w ∈ vi_tb := by
      simp only [va_wsS, List.mem_append, List.mem_cons, List.not_mem_nil, or_false] at hw'
      rcases hw' with (rfl | rfl | rfl) | rfl | h
      · exact w4
      · exact hi2
      · exact w2
      · exact w1
      · exact h
    exact ⟨hm, good_of_word (vi_tb_good w hm)⟩
  have hR : d' + 1 ≤ X.2.2.1.frames ∧ 8 + (nL' + 11) + 45 * d' ≤ X.2.2.1.locals := by rw [C.2.2.2.2.2.2.2.2.2.2.2]; exact hdp
  have hF : k + mc' ≤ X.2.2.1.cells ∧ n + ms' ≤ X.2.2.1.slots := by rw [C.2.2.2.2.2.2.2.2.2.2.2]; exact hrm
  exact vi_after hp hl hS (vx_runSW (As := As) (rest := rest) (Ts := vi_tb) (own := y.cls) (nL := nL) (cc := cc) (hh := hh) ⟨C.1, C.2.1, C.2.2.1, C.2.2.2.2.2.1, hw⟩ hM (vx_cwSW As.length hw hG rfl rfl rfl w3 hR) ⟨vi_blindX, vi_preX C hZ hH hS As⟩ rfl rfl hl.1 hst (lv_room hrs) hd hF) kk
end VIHL
/-! ===== the law's state: the class, the reference, out[0] ===== -/
abbrev vL : Type := vC × vM × Int64
def LY (z x N d0 m b o : Nat) : Prop := x < z ∧ z + 244 + 14 * N ≤ m ∧ m < b ∧ b + 55 ≤ o ∧ o < d0
def LW (S : vS) (z x N d0 m b o : Nat) (M : vL) : Prop := LY z x N d0 m b o ∧ RC S z x N d0 M.1 ∧ RM S (cz M.1) m b M.2.1 ∧ vK S o = 22 ∧ vN S o = 1 ∧ vJ S o 0 = M.2.2
theorem LW.cls {S S' : vS} {z x N d0 m b o : Nat} {M : vL} {c' : vC} (h : LW S z x N d0 m b o M) (hR : RC S' z x N d0 c') (hF : cF S S' z x N d0) : LW S' z x N d0 m b o (c', M.2) := by
  obtain ⟨hY, -, ⟨⟨hm1, hm2, hm3⟩, hf, hr⟩, h4, h5, h6⟩ := h
  obtain ⟨y1, y2, y3, y4, y5⟩ := hY
  have hd := hR.1.2.2
  have hat : ∀ a, m ≤ a → a ≤ o → vK S' a = vK S a ∧ vN S' a = vN S a ∧ (∀ f, vI S' f a = vI S f a) ∧ (∀ f, vP S' f a = vP S f a) ∧ vR S' a = vR S a ∧ vJ S' a = vJ S a ∧ vQ S' a = vQ S a := fun a h1 h2 => hF a (by omega) (by omega) (by omega)
  have aM := hat m (by omega) (by omega)
  have aO := hat o (by omega) (by omega)
  refine ⟨⟨y1, y2, y3, y4, y5⟩, hR, ⟨⟨⟨by show m < cz c'; omega, y3, by show b + 55 ≤ cz c'; omega⟩, aM.1.trans hm2, fun f j k n e => ?_⟩, fun f => (aM.2.2.1 _).trans (hf f), fun j hj i => ?_⟩, aO.1.trans h4, aO.2.1.trans h5, ?_⟩
  · obtain ⟨g1, g2, g3, g4⟩ := hm3 f j k n e
    have aB := hat (b + j) (by omega) (by omega)
    exact ⟨(aM.2.2.2.1 _).trans g1, aB.1.trans g2, aB.2.1.trans g3, g4⟩
  · have aB := hat (b + j) (by omega) (by omega)
    rw [aB.2.2.2.2.1]; exact hr j hj i
  · rw [aO.2.2.2.2.2.1]; exact h6
theorem LW.ref {S S' : vS} {z x N d0 m b o : Nat} {M : vL} {M' : vM} (h : LW S z x N d0 m b o M) (hR : RM S' (cz M.1) m b M') (hF : rF S S' m b) : LW S' z x N d0 m b o (M.1, M', M.2.2) := by
  obtain ⟨hY, hC, -, h4, h5, h6⟩ := h
  obtain ⟨y1, y2, y3, y4, y5⟩ := hY
  obtain ⟨f1, f2, f3, f4, f5, f6, f7⟩ := hF
  obtain ⟨c1, c2, c3, c4, c5, c6, c7, c8⟩ := hC
  refine ⟨⟨y1, y2, y3, y4, y5⟩, ⟨c1, fun k i ho => ?_, ?_, ?_, ?_, fun f i ho => ?_, ?_, fun a ha => ?_⟩, hR, ?_, ?_, ?_⟩
  · have hO := adO (z := z) (x := x) ho
    rw [f1]
    exact ⟨(c2 k i ho).1, fun j hj => by rw [f6 _ _ (by omega)]; exact (c2 k i ho).2 j hj⟩
  · rw [f2]; exact c3
  · rw [f2]; exact c4
  · rw [f2]; exact c5
  · have hO := aaO (z := z) (x := x) ho
    rw [f1, f3, f4, f5, f7 _ (by omega)]
    exact c6 f i ho
  · rw [f1, f3, f5]; exact c7
  · obtain ⟨q1, q2, q3, q4, q5⟩ := c8 a ha
    rw [f1, f2, f3, f7 _ (by omega)]
    exact ⟨q1, q2, q3, fun e => ⟨fun j hj => by rw [f6 _ _ (by omega)]; exact (q4 e).1 j hj, (q4 e).2⟩, q5⟩
  · rw [f1]; exact h4
  · rw [f3]; exact h5
  · rw [f4]; exact h6
theorem LW.out {S : vS} {z x N d0 m b o : Nat} {M : vL} (h : LW S z x N d0 m b o M) (v : Int64) : LW (sJ S o 0 v) z x N d0 m b o (M.1, M.2.1, v) := by
  obtain ⟨hY, hC, hR, h4, h5, h6⟩ := h
  obtain ⟨y1, y2, y3, y4, y5⟩ := hY
  obtain ⟨c1, c2, c3, c4, c5, c6, c7, c8⟩ := hC
  refine ⟨⟨y1, y2, y3, y4, y5⟩, ⟨c1, c2, c3, c4, c5, fun f i ho => ?_, c7, c8⟩, hR, h4, h5, ?_⟩
  · have hO := aaO (z := z) (x := x) ho
    obtain ⟨q1, q2, q3, q4, q5, q6⟩ := c6 f i ho
    refine ⟨q1, q2, q3, fun e => ?_, q5, q6⟩
    show vi_u2 (vJ S) o 0 v (aa z x f i) = _
    rw [vi_u2r _ _ (by omega)]; exact q4 e
  · show vi_u2 (vJ S) o 0 v o 0 = v
    rw [vi_u2s]
def bC {α ρ : Type} (o : Option (vC × α)) (M : vL) (K : vL → α → Option ρ) : Option ρ := match o with
  | none => none
  | some r => K (r.1, M.2) r.2
def bM {α ρ : Type} (o : Option (vM × α)) (M : vL) (K : vL → α → Option ρ) : Option ρ := match o with
  | none => none
  | some r => K (M.1, r.1, M.2.2) r.2
/-- readKey by its helper: the tag; out[0] is set where nothing was thrown -/
def bK {ρ : Type} (o : Option (vC × Int32 × Int32)) (M : vL) (K : vL → Int32 → Option ρ) : Option ρ := match o with
  | none => none
  | some r => if r.2.1 = 3 then none else K (r.1, M.2.1, if r.2.1 = 0 then r.2.2.toInt64 else M.2.2) r.2.1
def bV {ρ : Type} (o : Option (vC × Int32 × Int32)) (M : vL) (K : vL → Int32 → Option ρ) : Option ρ := match o with
  | none => none
  | some r => if r.2.1 = 1 ∨ r.2.1 = 2 then none else K (r.1, M.2.1, if r.2.1 = 0 then r.2.2.toInt64 else M.2.2) (if r.2.1 = 0 then 0 else 1)
theorem bCo {α ρ : Type} {o : Option (vC × α)} {M : vL} {K : vL → α → Option ρ} {R : ρ} (h : bC o M K = some R) : ∃ r, o = some r ∧ K (r.1, M.2) r.2 = some R := by
  cases o with
  | none => cases h
  | some r => exact ⟨r, rfl, h⟩
theorem bMo {α ρ : Type} {o : Option (vM × α)} {M : vL} {K : vL → α → Option ρ} {R : ρ} (h : bM o M K = some R) : ∃ r, o = some r ∧ K (M.1, r.1, M.2.2) r.2 = some R := by
  cases o with
  | none => cases h
  | some r => exact ⟨r, rfl, h⟩
/-! ===== the two helpers ===== -/
set_option maxRecDepth 100000 in
set_option maxHeartbeats 4000000 in
theorem p_L_readKey {E : vE} {S0 : vS} {z x N d0 m b o : Nat} {M : vL} {p0 p1 : Int32} {R : vC × Int32 × Int32} (h : F_X11_readKey N M.1 p0 p1 = some R) (h3 : ¬ R.2.1 = 3) (hL : LW S0 z x N d0 m b o M) : vi_MetH E yL_readKey cL_readKey 5 (some .int) [(0, 10, 13, 13), (0, 10, 17, 15)] 7 1 6 [.ref x, .int p0, .int p1, .ref o] S0 (cz M.1) (fun rv S1 z1 => rv = some (.int R.2.1) ∧ z1 = cz R.1 ∧ LW S1 z x N d0 m b o (R.1, M.2.1, if R.2.1 = 0 then R.2.2.toInt64 else M.2.2)) := by
  refine vi_metH (by decide) (Nat.le_of_ble_eq_true rfl) ?_
  intro X C hZ hT
  refine vi_aload_n C dL_readKey_0 rfl rfl ?_
  refine vi_iconst (v := 0) C dL_readKey_1 rfl (by decide) ?_
  refine vi_aload_n C dL_readKey_2 rfl rfl ?_
  refine vi_iload_n C dL_readKey_3 rfl rfl ?_
  refine vi_iload_n C dL_readKey_4 rfl rfl ?_
  refine vi_callVX (c := 11) C hZ [.int p0, .int p1] [.int 0, .ref o] dL_readKey_5 rfl ivL_7 hk_x imX11_readKey rfl rfl (rcK (k := 11) (i := 0) hL.2.1 rfl) (p_X11_readKey h hL.2.1) rfl (Nat.le_of_ble_eq_true rfl) ⟨by decide, by decide⟩ ⟨by decide, by decide⟩ (fun v S' sz' q => ?_) (fun En q S' sz' hq => ?_)
  · obtain ⟨q1, rfl, rfl, q3, q4⟩ := q
    have hL2 := hL.cls q3 q4
    have e6 := hL2.2.2.2.2.2
    refine vi_i2l C dL_readKey_8 rfl ?_
    refine vi_lastore C dL_readKey_9 rfl hL2.2.2.2.1 (by rw [hL2.2.2.2.2.1]; show ¬ ((0 : Int32) < 0 ∨ 1 ≤ (0 : Int32).toNatClampNeg); decide) ?_
    refine vi_goto (t' := 21) C dL_readKey_10 (by decide) ?_
    refine vi_iconst (v := 0) C dL_readKey_21 rfl (by decide) ?_
    refine vi_ireturn C dL_readKey_22 rfl rfl (by decide) (by decide) ⟨by rw [q1], rfl, ?_⟩
    rw [if_pos q1]
    exact hL2.out _
  · obtain ⟨ht, rfl, q3, q4⟩ := hq
    have hL2 := hL.cls q3 q4
    rcases ht with ⟨e, rfl⟩ | ⟨e, rfl⟩ | ⟨e, rfl⟩
    · refine vi_catch (name := "java/lang/IllegalArgumentException") C [] ⟨0, 10, 13, 13⟩ [⟨0, 10, 17, 15⟩] hT (fun z hz => nomatch hz) (by decide) (by decide) xl_IA xc_IA ?_
      refine vi_astore C dL_readKey_13 rfl (by decide) ?_
      refine vi_iconst (v := 1) C dL_readKey_15 rfl (by decide) ?_
      refine vi_ireturn C dL_readKey_16 rfl rfl (by decide) (by decide) ⟨by rw [e], rfl, ?_⟩
      rw [if_neg (by rw [e]; decide)]
      exact hL2
    · refine vi_catch (name := "java/lang/IllegalStateException") C [⟨0, 10, 13, 13⟩] ⟨0, 10, 17, 15⟩ [] hT (fun z hz => ?_) (by decide) (by decide) xl_IS xc_IS ?_
      · rw [List.mem_singleton.mp hz]
        exact Or.inr ⟨by decide, _, xl_IA, hZ.2.2.1⟩
      refine vi_astore C dL_readKey_17 rfl (by decide) ?_
      refine vi_iconst (v := 2) C dL_readKey_19 rfl (by decide) ?_
      refine vi_ireturn C dL_readKey_20 rfl rfl (by decide) (by decide) ⟨by rw [e], rfl, ?_⟩
      rw [if_neg (by rw [e]; decide)]
      exact hL2
    · exact absurd e h3
set_option maxRecDepth 100000 in
set_option maxHeartbeats 4000000 in
theorem p_L_valueAt {E : vE} {S0 : vS} {z x N d0 m b o : Nat} {M : vL} {p0 p1 p2 : Int32} {R : vC × Int32 × Int32} (h : F_X11_valueAt N M.1 p0 p1 p2 = some R) (h3 : ¬ (R.2.1 = 1 ∨ R.2.1 = 2)) (hL : LW S0 z x N d0 m b o M) : vi_MetH E yL_valueAt cL_valueAt 6 (some .int) [(0, 12, 15, 21)] 7 1 6 [.ref x, .int p0, .int p1, .int p2, .ref o] S0 (cz M.1) (fun rv S1 z1 => rv = some (.int (if R.2.1 = 0 then 0 else 1)) ∧ z1 = cz R.1 ∧ LW S1 z x N d0 m b o (R.1, M.2.1, if R.2.1 = 0 then R.2.2.toInt64 else M.2.2)) := by
  refine vi_metH (by decide) (Nat.le_of_ble_eq_true rfl) ?_
  intro X C hZ hT
  refine vi_aload C dL_valueAt_0 rfl rfl ?_
  refine vi_iconst (v := 0) C dL_valueAt_2 rfl (by decide) ?_
  refine vi_aload_n C dL_valueAt_3 rfl rfl ?_
  refine vi_iload_n C dL_valueAt_4 rfl rfl ?_
  refine vi_iload_n C dL_valueAt_5 rfl rfl ?_
  refine vi_iload_n C dL_valueAt_6 rfl rfl ?_
  refine vi_callVX (c := 11) C hZ [.int p0, .int p1, .int p2] [.int 0, .ref o] dL_valueAt_7 rfl ivL_17 hv_x imX11_valueAt rfl rfl (rcK (k := 11) (i := 0) hL.2.1 rfl) (p_X11_valueAt h hL.2.1) rfl (Nat.le_of_ble_eq_true rfl) ⟨by decide, by decide⟩ ⟨by decide, by decide⟩ (fun v S' sz' q => ?_) (fun En q S' sz' hq => ?_)
  · obtain ⟨q1, rfl, rfl, q3, q4⟩ := q
    have hL2 := hL.cls q3 q4
    refine vi_i2l C dL_valueAt_10 rfl ?_
    refine vi_lastore C dL_valueAt_11 rfl hL2.2.2.2.1 (by rw [hL2.2.2.2.2.1]; show ¬ ((0 : Int32) < 0 ∨ 1 ≤ (0 : Int32).toNatClampNeg); decide) ?_
    refine vi_goto (t' := 19) C dL_valueAt_12 (by decide) ?_
    refine vi_iconst (v := 0) C dL_valueAt_19 rfl (by decide) ?_
    refine vi_ireturn C dL_valueAt_20 rfl rfl (by decide) (by decide) ⟨by rw [if_pos q1], rfl, ?_⟩
    rw [if_pos q1]
    exact hL2.out _
  · obtain ⟨ht, rfl, q3, q4⟩ := hq
    have hL2 := hL.cls q3 q4
    rcases ht with ⟨e, rfl⟩ | ⟨e, rfl⟩ | ⟨e, rfl⟩
    · exact absurd (Or.inl e) h3
    · exact absurd (Or.inr e) h3
    · refine vi_catch (name := "java/lang/IndexOutOfBoundsException") C [] ⟨0, 12, 15, 21⟩ [] hT (fun z hz => nomatch hz) (by decide) (by decide) xl_IO xc_IO ?_
      refine vi_astore C dL_valueAt_15 rfl (by decide) ?_
      refine vi_iconst (v := 1) C dL_valueAt_17 rfl (by decide) ?_
      refine vi_ireturn C dL_valueAt_18 rfl rfl (by decide) (by decide) ⟨by rw [if_neg (by rw [e]; decide)], rfl, ?_⟩
      rw [if_neg (by rw [e]; decide)]
      exact hL2
section LAWR
variable {E : vE} {X : vX} {y : MethodName} {cc : ByteArray} {nL : Nat} {ret : Option FieldType} {d mc ms lo : Nat} {Z : State → Prop} {pc : Nat} {lv : List (Nat × Value)} {st : List Value} {S : vS} {z x N d0 m b o q n : Nat} {M : vL} {ρ : Type} {R : ρ}
theorem l_cx1 (C : vi_C E X y cc nL ret d mc ms lo) {p' idx : Nat} {y' : MethodName} {cc' : ByteArray} {nL' : Nat} {ret' : Option FieldType} {d' mc' ms' : Nat} (As rest : List Value) {o' : Option (vC × Int32)} {K : vL → Int32 → Option ρ} (hd : decode cc pc = .ok (.invokevirtual idx, 3)) (hp : pc + 3 = p') (hi : vi_Iv y.cls idx y' cc' nL' ret' As.length) (hi2 : Cond.instanceMethod y' ∈ vi_tb ∧ Cond.selects y'.cls y' y' ∈ vi_tb) (hcl : RX11 = y'.cls) (hL : LW S z x N d0 m b o M) (h : bC o' M K = some R) (hM : ∀ R1, o' = some R1 → vi_Met E y' cc' nL' ret' d' mc' ms' (.ref x :: As) S (cz M.1) (D1 S z x N d0 R1)) (hst : st = As.reverse ++ .ref x :: rest) (hrs : (rest.map fun v => v.category).sum ≤ 8) (hdp : d' + 1 ≤ d ∧ 8 + (nL' + 11) + 45 * d' ≤ lo) (hrm : q + mc' ≤ mc ∧ n + ms' ≤ ms) (kk : ∀ S M v, K M v = some R → LW S z x N d0 m b o M → vi_W E X nL Z p' lv (.int v :: rest) S (cz M.1) (q + mc') (n + ms')) : vi_W E X nL Z pc lv st S (cz M.1) q n := by
  obtain ⟨R1, h1, h2⟩ := bCo h
  refine vi_callV (c := 11) C As rest hd hp hi hi2 rfl hcl (rcK (k := 11) (i := 0) hL.2.1 rfl) (hM _ h1) hst hrs hdp hrm (fun v S' sz' q => ?_)
  obtain ⟨rfl, rfl, q3, q4⟩ := q
  exact kk S' (R1.1, M.2) R1.2 h2 (hL.cls q3 q4)
theorem l_cx2 (C : vi_C E X y cc nL ret d mc ms lo) {p' idx : Nat} {y' : MethodName} {cc' : ByteArray} {nL' : Nat} {ret' : Option FieldType} {d' mc' ms' : Nat} (As rest : List Value) {o' : Option (vC × Int64)} {K : vL → Int64 → Option ρ} (hd : decode cc pc = .ok (.invokevirtual idx, 3)) (hp : pc + 3 = p') (hi : vi_Iv y.cls idx y' cc' nL' ret' As.length) (hi2 : Cond.instanceMethod y' ∈ vi_tb ∧ Cond.selects y'.cls y' y' ∈ vi_tb) (hcl : RX11 = y'.cls) (hL : LW S z x N d0 m b o M) (h : bC o' M K = some R) (hM : ∀ R1, o' = some R1 → vi_Met E y' cc' nL' ret' d' mc' ms' (.ref x :: As) S (cz M.1) (D2 S z x N d0 R1)) (hst : st = As.reverse ++ .ref x :: rest) (hrs : (rest.map fun v => v.category).sum ≤ 8) (hdp : d' + 1 ≤ d ∧ 8 + (nL' + 11) + 45 * d' ≤ lo) (hrm : q + mc' ≤ mc ∧ n + ms' ≤ ms) (kk : ∀ S M v, K M v = some R → LW S z x N d0 m b o M → vi_W E X nL Z p' lv (.long v :: rest) S (cz M.1) (q + mc') (n + ms')) : vi_W E X nL Z pc lv st S (cz M.1) q n := by
  obtain ⟨R1, h1, h2⟩ := bCo h
  refine vi_callV (c := 11) C As rest hd hp hi hi2 rfl hcl (rcK (k := 11) (i := 0) hL.2.1 rfl) (hM _ h1) hst hrs hdp hrm (fun v S' sz' q => ?_)
  obtain ⟨rfl, rfl, q3, q4⟩ := q
  exact kk S' (R1.1, M.2) R1.2 h2 (hL.cls q3 q4)
theorem l_cm1 (C : vi_C E X y cc nL ret d mc ms lo) {p' idx : Nat} {y' : MethodName} {cc' : ByteArray} {nL' : Nat} {ret' : Option FieldType} {d' : Nat} (As rest : List Value) {o' : Option (vM × Int32)} {K : vL → Int32 → Option ρ} (hd : decode cc pc = .ok (.invokevirtual idx, 3)) (hp : pc + 3 = p') (hi : vi_Iv y.cls idx y' cc' nL' ret' As.length) (hi2 : Cond.instanceMethod y' ∈ vi_tb ∧ Cond.selects y'.cls y' y' ∈ vi_tb) (hcl : RX12 = y'.cls) (hL : LW S z x N d0 m b o M) (h : bM o' M K = some R) (hM : ∀ R1, o' = some R1 → vi_Met E y' cc' nL' ret' d' 0 0 (.ref m :: As) S (cz M.1) (Q1 S (cz M.1) m b R1)) (hst : st = As.reverse ++ .ref m :: rest) (hrs : (rest.map fun v => v.category).sum ≤ 8) (hdp : d' + 1 ≤ d ∧ 8 + (nL' + 11) + 45 * d' ≤ lo) (hrm : q ≤ mc ∧ n ≤ ms) (kk : ∀ S M v, K M v = some R → LW S z x N d0 m b o M → vi_W E X nL Z p' lv (.int v :: rest) S (cz M.1) q n) : vi_W E X nL Z pc lv st S (cz M.1) q n := by
  obtain ⟨R1, h1, h2⟩ := bMo h
  refine vi_callV (c := 12) C As rest hd hp hi hi2 rfl hcl hL.2.2.1.1.2.1 (hM _ h1) hst hrs hdp hrm (fun v S' sz' q => ?_)
  obtain ⟨rfl, rfl, q3, q4⟩ := q
  exact kk S' (M.1, R1.1, M.2.2) R1.2 h2 (hL.ref q3 q4)
theorem l_cm2 (C : vi_C E X y cc nL ret d mc ms lo) {p' idx : Nat} {y' : MethodName} {cc' : ByteArray} {nL' : Nat} {ret' : Option FieldType} {d' : Nat} (As rest : List Value) {o' : Option (vM × Int64)} {K : vL → Int64 → Option ρ} (hd : decode cc pc = .ok (.invokevirtual idx, 3)) (hp : pc + 3 = p') (hi : vi_Iv y.cls idx y' cc' nL' ret' As.length) (hi2 : Cond.instanceMethod y' ∈ vi_tb ∧ Cond.selects y'.cls y' y' ∈ vi_tb) (hcl : RX12 = y'.cls) (hL : LW S z x N d0 m b o M) (h : bM o' M K = some R) (hM : ∀ R1, o' = some R1 → vi_Met E y' cc' nL' ret' d' 0 0 (.ref m :: As) S (cz M.1) (Q2 S (cz M.1) m b R1)) (hst : st = As.reverse ++ .ref m :: rest) (hrs : (rest.map fun v => v.category).sum ≤ 8) (hdp : d' + 1 ≤ d ∧ 8 + (nL' + 11) + 45 * d' ≤ lo) (hrm : q ≤ mc ∧ n ≤ ms) (kk : ∀ S M v, K M v = some R → LW S z x N d0 m b o M → vi_W E X nL Z p' lv (.long v :: rest) S (cz M.1) q n) : vi_W E X nL Z pc lv st S (cz M.1) q n := by
  obtain ⟨R1, h1, h2⟩ := bMo h
  refine vi_callV (c := 12) C As rest hd hp hi hi2 rfl hcl hL.2.2.1.1.2.1 (hM _ h1) hst hrs hdp hrm (fun v S' sz' q => ?_)
  obtain ⟨rfl, rfl, q3, q4⟩ := q
  exact kk S' (M.1, R1.1, M.2.2) R1.2 h2 (hL.ref q3 q4)
theorem l_hK (C : vi_C E X y cc nL ret d mc ms lo) (hZ : vi_Zs E X.2.2.2.1 X.2.2.2.1.heap) {p' idx : Nat} {p0 p1 : Int32} {K : vL → Int32 → Option ρ} (rest : List Value) (hd : decode cc pc = .ok (.invokestatic idx, 3)) (hp : pc + 3 = p') (w4 : Cond.methodLink y.cls idx yL_readKey ∈ vi_tb) (hL : LW S z x N d0 m b o M) (h : bK (F_X11_readKey N M.1 p0 p1) M K = some R) (hst : st = [.ref x, .int p0, .int p1, .ref o].reverse ++ rest) (hrs : (rest.map fun v => v.category).sum ≤ 8) (hdp : 7 + 1 ≤ d ∧ 8 + (5 + 11) + 45 * 7 ≤ lo) (hrm : q + 1 ≤ mc ∧ n + 6 ≤ ms) (kk : ∀ S M v, K M v = some R → LW S z x N d0 m b o M → vi_W E X nL Z p' lv (.int v :: rest) S (cz M.1) (q + 1) (n + 6)) : vi_W E X nL Z pc lv st S (cz M.1) q n := by
  cases hr : F_X11_readKey N M.1 p0 p1 with
  | none => rw [hr] at h; cases h
  | some r =>
    rw [hr] at h
    have h' : (if r.2.1 = 3 then none else K (r.1, M.2.1, if r.2.1 = 0 then r.2.2.toInt64 else M.2.2) (r.2.1)) = some R := h
    by_cases h3 : r.2.1 = 3
    · rw [if_pos h3] at h'; cases h'
    · rw [if_neg h3] at h'
      refine vi_callSH C hZ [.ref x, .int p0, .int p1, .ref o] rest hd hp hk_c h_in ⟨by decide, by decide, hk_d⟩ w4 hk_s (p_L_readKey hr h3 hL) hst hrs hdp hrm (fun v S' sz' q => ?_)
      obtain ⟨rfl, rfl, q3⟩ := q
      exact kk S' (r.1, M.2.1, if r.2.1 = 0 then r.2.2.toInt64 else M.2.2) (r.2.1) h' q3
theorem l_hV (C : vi_C E X y cc nL ret d mc ms lo) (hZ : vi_Zs E X.2.2.2.1 X.2.2.2.1.heap) {p' idx : Nat} {p0 p1 p2 : Int32} {K : vL → Int32 → Option ρ} (rest : List Value) (hd : decode cc pc = .ok (.invokestatic idx, 3)) (hp : pc + 3 = p') (w4 : Cond.methodLink y.cls idx yL_valueAt ∈ vi_tb) (hL : LW S z x N d0 m b o M) (h : bV (F_X11_valueAt N M.1 p0 p1 p2) M K = some R) (hst : st = [.ref x, .int p0, .int p1, .int p2, .ref o].reverse ++ rest) (hrs : (rest.map fun v => v.category).sum ≤ 8) (hdp : 7 + 1 ≤ d ∧ 8 + (6 + 11) + 45 * 7 ≤ lo) (hrm : q + 1 ≤ mc ∧ n + 6 ≤ ms) (kk : ∀ S M v, K M v = some R → LW S z x N d0 m b o M → vi_W E X nL Z p' lv (.int v :: rest) S (cz M.1) (q + 1) (n + 6)) : vi_W E X nL Z pc lv st S (cz M.1) q n := by
  cases hr : F_X11_valueAt N M.1 p0 p1 p2 with
  | none => rw [hr] at h; cases h
  | some r =>
    rw [hr] at h
    have h' : (if r.2.1 = 1 ∨ r.2.1 = 2 then none else K (r.1, M.2.1, if r.2.1 = 0 then r.2.2.toInt64 else M.2.2) (if r.2.1 = 0 then 0 else 1)) = some R := h
    by_cases h3 : r.2.1 = 1 ∨ r.2.1 = 2
    · rw [if_pos h3] at h'; cases h'
    · rw [if_neg h3] at h'
      refine vi_callSH C hZ [.ref x, .int p0, .int p1, .int p2, .ref o] rest hd hp hv_c h_in ⟨by decide, by decide, hv_d⟩ w4 hv_s (p_L_valueAt hr h3 hL) hst hrs hdp hrm (fun v S' sz' q => ?_)
      obtain ⟨rfl, rfl, q3⟩ := q
      exact kk S' (r.1, M.2.1, if r.2.1 = 0 then r.2.2.toInt64 else M.2.2) (if r.2.1 = 0 then 0 else 1) h' q3
theorem l_out (C : vi_C E X y cc nL ret d mc ms lo) {p' : Nat} (hd : decode cc pc = .ok (.laload, 1)) (hp : pc + 1 = p') (hL : LW S z x N d0 m b o M) (kk : vi_W E X nL Z p' lv (.long M.2.2 :: st) S (cz M.1) q n) : vi_W E X nL Z pc lv (.int 0 :: .ref o :: st) S (cz M.1) q n := by
  refine vi_laload C hd hp hL.2.2.2.1 (by rw [hL.2.2.2.2.1]; show ¬ ((0 : Int32) < 0 ∨ 1 ≤ (0 : Int32).toNatClampNeg); decide) ?_
  rw [show (0 : Int32).toNatClampNeg = 0 from rfl, hL.2.2.2.2.2]
  exact kk
theorem l_sc (C : vi_C E X y cc nL ret d mc ms lo) {p' : Nat} {j : Int32} {K : Int32 → Option ρ} (hd : decode cc pc = .ok (.iaload, 1)) (hp : pc + 1 = p') (h : (if j < 0 ∨ E.2.2.2.2.2.1 ≤ j.toNatClampNeg then none else some (E.2.2.2.2.2.2 j.toNatClampNeg)).bind K = some R) (kk : ∀ v, K v = some R → vi_W E X nL Z p' lv (.int v :: st) S (cz M.1) q n) : vi_W E X nL Z pc lv (.int j :: .ref E.2.2.2.2.1 :: st) S (cz M.1) q n := by
  by_cases e : j < 0 ∨ E.2.2.2.2.2.1 ≤ j.toNatClampNeg
  · rw [if_pos e] at h; cases h
  · rw [if_neg e] at h
    exact vi_sald C hd hp e (kk _ h)
end LAWR
