/-! ===== new arrays, contracts and calls over the maps ===== -/
def vi_B (E : vE) (S : vS) (sz : Nat) (U : State) : Prop := vi_H E S sz U.heap ∧ vi_K E U ∧ va_X E.2.2.2.2.1 E.2.2.2.2.2.1 E.2.2.2.2.2.2 U U.heap ∧ E.2.2.2.2.1 < E.2.2.2.1
/-- a contract over the maps: from S (next address sz) with these arguments the method returns, within mc cells and ms slots, d frames deep, and Q holds of its answer, the new maps and the next address -/
def vi_Met (E : vE) (y : MethodName) (cc : ByteArray) (nL : Nat) (ret : Option FieldType) (d mc ms : Nat) (av : List Value) (S : vS) (sz : Nat) (Q : Option Value → vS → Nat → Prop) : Prop :=
  Met E.1 y (vi_ws y cc nL ret) { frames := d, cells := mc, slots := ms, locals := 45 * d } (va_Pc av (vi_B E S sz)) (vi_Qc E Q) mc ms (fun q => E.2.2.2.1 ≤ q)
theorem vi_met {E : vE} {y : MethodName} {cc : ByteArray} {nL : Nat} {ret : Option FieldType} {d mc ms : Nat} {av : List Value} {S : vS} {sz : Nat} {Q : Option Value → vS → Nat → Prop} (hy : plainName y.cls = true) (hlen : (lg_sl av).length ≤ nL)
    (body : ∀ X : vX, vi_C E X y cc nL ret d mc ms (45 * d) → vi_W E X nL (vi_Z E X Q mc ms) 0 (lv_args 0 av) [] S sz 0 0) : vi_Met E y cc nL ret d mc ms av S sz Q := by
  refine Met.ofW (cc := cc) (maxL := nL) (ret := ret) hy rfl ?_
  intro p e s m args below meth c s₁ B hml hv
  obtain ⟨rfl, hH, hK, hX, hb⟩ := hv
  rw [lg_entry_eq]
  exact body (p, e, _, s, m, _, below, meth, c) ⟨B.exec, B.bytes, hml, B.returns, B.notSynchronized, findClass_of_methodNamed B.named, fun h => (name_of_methodNamed B.named B.method).1.trans h, fun w hw => atoms_spec (ws := vi_ws y cc nL ret) B.pre w (List.mem_cons_of_mem _ hw), hK, hX, hb, rfl⟩ s.heap [] _ (lv_entry av hlen) hH ⟨fun _ _ => rfl, fun x h => by cases h⟩
theorem vi_blind {E : vE} {S : vS} {sz : Nat} {av : List Value} : FrameBlind (va_Pc av (vi_B E S sz)) := by
  intro a U g mk h
  obtain ⟨h1, h2, h3, ⟨scr, x1, x2, x3⟩, h5⟩ := h
  exact ⟨h1, h2, vi_K.same (s := U) (U := U.calling g mk a) rfl h3, ⟨scr, x1, State.isArrayOf_alike (Vm.Alike.refl U.vm) x2, x3⟩, h5⟩
theorem vi_pre {E : vE} {X : vX} {y : MethodName} {cc : ByteArray} {nL : Nat} {ret : Option FieldType} {d mc ms lo : Nat} (C : vi_C E X y cc nL ret d mc ms lo) {S : vS} {sz : Nat} {H : Heap} {locs : List Loc} (hH : vi_H E S sz H) (hS : vi_S E.2.2.2.1 X.2.2.2.1.heap H locs) (As : List Value) :
    ∀ U : State, U.heap = H → X.2.2.2.1.WarmedH U.vm → va_Pc As (vi_B E S sz) As.toArray U := by
  intro U hU hW
  subst hU
  obtain ⟨scr, x1, x2, x3⟩ := C.2.2.2.2.2.2.2.2.2.1
  refine ⟨rfl, hH, vi_K.warm hW C.2.2.2.2.2.2.2.2.1, ⟨scr, ?_, State.isArrayOf_alike hW.alike x2, x3⟩, C.2.2.2.2.2.2.2.2.2.2.1⟩
  rw [hS.1 _ C.2.2.2.2.2.2.2.2.2.2.1]; exact x1
/-- what a call needs of the tables -/
def vi_Iv (own : String) (idx : Nat) (y : MethodName) (cc : ByteArray) (nL : Nat) (ret : Option FieldType) (n : Nat) : Prop :=
  Cond.code y cc nL ret ∈ vi_tb ∧ Cond.initialized y.cls ∈ vi_tb ∧ (y.cls ≠ "java/lang/invoke/MethodHandle" ∧ y.cls ≠ "java/lang/invoke/VarHandle" ∧ (parseMethodDescriptor y.desc).map (fun d => d.parameters.length) = some n) ∧ (Cond.methodLink own idx y ∈ vi_tb ∨ ∃ host, Cond.methodLinkNest own idx y host ∈ vi_nt)
theorem vi_goodtb {y : MethodName} {cc : ByteArray} {nL : Nat} {ret : Option FieldType} (h : Cond.code y cc nL ret ∈ vi_tb) : GoodIn vi_tb (vi_ws y cc nL ret) := by
  intro w hw
  have h1 : w ∈ vi_tb := by
    rcases List.mem_cons.mp hw with rfl | h2
    · exact h
    · exact h2
  exact ⟨h1, good_of_word (vi_tb_good w h1)⟩
section VIM
variable {E : vE} {X : vX} {y : MethodName} {cc : ByteArray} {nL : Nat} {ret : Option FieldType} {d mc ms lo : Nat} {Z : State → Prop} {pc : Nat} {lv : List (Nat × Value)} {st : List Value} {S : vS} {sz k n : Nat}
theorem vi_after {p' mc' ms' : Nat} {Q' : Option Value → vS → Nat → Prop} {a : Array Value} {rest : List Value} {H : Heap} {locs : List Loc} {ls : Array Slot} (hp : pc + 3 = p') (hl : lv_has ls nL lv) (hS : vi_S E.2.2.2.1 X.2.2.2.1.heap H locs)
    (hr : va_Run X.1 E.1 X.2.1 X.2.2.1 X.2.2.2.1 X.2.2.2.2.1 X.2.2.2.2.2.1 X.2.2.2.2.2.2.1 X.2.2.2.2.2.2.2.1 X.2.2.2.2.2.2.2.2 H locs k n mc' ms' (F0 X.2.2.2.2.1 pc ls st) rest (vi_Qc E Q' a) (fun q => E.2.2.2.1 ≤ q))
    (kk : ∀ v S' sz', Q' v S' sz' → vi_W E X nL Z p' lv (v.toList ++ rest) S' sz' (k + mc') (n + ms')) :
    W X.1 E.1 X.2.1 X.2.2.1 X.2.2.2.1 X.2.2.2.2.1 X.2.2.2.2.2.1 X.2.2.2.2.2.2.1 X.2.2.2.2.2.2.2.1 X.2.2.2.2.2.2.2.2 H locs k n Z (F0 X.2.2.2.2.1 pc ls st) := by
  subst hp
  intro T hT XX
  obtain ⟨v, st₀, t, T', L, h0, X', hL, e1, e2, ⟨⟨v', S', sz', hv, hq, hH'⟩, hfr⟩, hgo⟩ := hr T hT XX
  cases hv
  obtain ⟨t2, a1, b1⟩ := kk v S' sz' hq T'.heap (locs ++ L) ls hl (by rw [e1]; exact hH') ⟨fun q hq => by rw [e1, hfr q hq, h0]; exact hS.1 q hq, fun x hx => (List.mem_append.mp hx).elim (hS.2 x) (hL x)⟩ T' rfl X'
  exact ⟨t2, hgo t2 a1, b1⟩
theorem vi_callS (C : vi_C E X y cc nL ret d mc ms lo) {p' idx : Nat} {y' : MethodName} {cc' : ByteArray} {nL' : Nat} {ret' : Option FieldType} {d' mc' ms' : Nat} (As rest : List Value) {Q' : Option Value → vS → Nat → Prop} (hd : decode cc pc = .ok (.invokestatic idx, 3)) (hp : pc + 3 = p') (hi : vi_Iv y.cls idx y' cc' nL' ret' As.length) (hi2 : Cond.static y' ∈ vi_tb) (hM : vi_Met E y' cc' nL' ret' d' mc' ms' As S sz Q') (hst : st = As.reverse ++ rest) (hrs : (rest.map fun v => v.category).sum ≤ 8) (hdp : d' + 1 ≤ d ∧ 8 + (nL' + 11) + 45 * d' ≤ lo) (hrm : k + mc' ≤ mc ∧ n + ms' ≤ ms)
    (kk : ∀ v S' sz', Q' v S' sz' → vi_W E X nL Z p' lv (v.toList ++ rest) S' sz' (k + mc') (n + ms')) : vi_W E X nL Z pc lv st S sz k n := by
  intro H locs ls hl hH hS
  obtain ⟨w1, w2, w3, w4⟩ := hi
  have hG : GoodIn vi_tb (vi_ws y' cc' nL' ret') := vi_goodtb w1
  have hR : d' + 1 ≤ X.2.2.1.frames ∧ 8 + (nL' + 11) + 45 * d' ≤ X.2.2.1.locals := by rw [C.2.2.2.2.2.2.2.2.2.2.2]; exact hdp
  have hF : k + mc' ≤ X.2.2.1.cells ∧ n + ms' ≤ X.2.2.1.slots := by rw [C.2.2.2.2.2.2.2.2.2.2.2]; exact hrm
  rcases w4 with w4 | ⟨host, w4⟩
  · exact vi_after hp hl hS (va_runS (As := As) (rest := rest) (Ts := vi_tb) (own := y.cls) (nL := nL) (cc := cc) ⟨C.1, C.2.1, C.2.2.1, C.2.2.2.2.2.1, C.2.2.2.2.2.2.2.1⟩ hM ⟨callB_of As.length C.2.2.2.2.2.2.2.1 hG rfl rfl rfl (C.2.2.2.2.2.2.2.1 _ w2) (C.2.2.2.2.2.2.2.1 _ w4) w3 hR, C.2.2.2.2.2.2.2.1 _ hi2⟩ ⟨vi_blind, vi_pre C hH hS As⟩ rfl rfl hl.1 hst (lv_room hrs) hd hF) kk
  · exact vi_after hp hl hS (va_runSN (As := As) (rest := rest) (Ts := vi_tb) (own := y.cls) (nL := nL) (cc := cc) ⟨C.1, C.2.1, C.2.2.1, C.2.2.2.2.2.1, C.2.2.2.2.2.2.2.1⟩ hM ⟨va_cnB As.length C.2.2.2.2.2.2.2.1 hG rfl rfl rfl (C.2.2.2.2.2.2.2.2.1.2.2.1 _ w4) (C.2.2.2.2.2.2.2.1 _ w2) w3 hR, C.2.2.2.2.2.2.2.1 _ hi2, trivial⟩ ⟨vi_blind, vi_pre C hH hS As⟩ rfl rfl hl.1 hst (lv_room hrs) hd hF) kk
theorem vi_callV (C : vi_C E X y cc nL ret d mc ms lo) {p' idx : Nat} {y' : MethodName} {cc' : ByteArray} {nL' : Nat} {ret' : Option FieldType} {d' mc' ms' : Nat} {c a : Nat} {r : vw_C} (As rest : List Value) {Q' : Option Value → vS → Nat → Prop} (hd : decode cc pc = .ok (.invokevirtual idx, 3)) (hp : pc + 3 = p') (hi : vi_Iv y.cls idx y' cc' nL' ret' As.length) (hi2 : Cond.instanceMethod y' ∈ vi_tb ∧ Cond.selects y'.cls y' y' ∈ vi_tb) (hc : vwCl[c]? = some r) (hcl : r.1 = y'.cls) (ha : vK S a = c + 1) (hM : vi_Met E y' cc' nL' ret' d' mc' ms' (.ref a :: As) S sz Q') (hst : st = As.reverse ++ .ref a :: rest) (hrs : (rest.map fun v => v.category).sum ≤ 8) (hdp : d' + 1 ≤ d ∧ 8 + (nL' + 11) + 45 * d' ≤ lo) (hrm : k + mc' ≤ mc ∧ n + ms' ≤ ms)
    (kk : ∀ v S' sz', Q' v S' sz' → vi_W E X nL Z p' lv (v.toList ++ rest) S' sz' (k + mc') (n + ms')) : vi_W E X nL Z pc lv st S sz k n := by
  intro H locs ls hl hH hS
  obtain ⟨w1, w2, w3, w4⟩ := hi
  have hG : GoodIn vi_tb (vi_ws y' cc' nL' ret') := vi_goodtb w1
  have hR : d' + 1 ≤ X.2.2.1.frames ∧ 8 + (nL' + 11) + 45 * d' ≤ X.2.2.1.locals := by rw [C.2.2.2.2.2.2.2.2.2.2.2]; exact hdp
  have hF : k + mc' ≤ X.2.2.1.cells ∧ n + ms' ≤ X.2.2.1.slots := by rw [C.2.2.2.2.2.2.2.2.2.2.2]; exact hrm
  have hrecv : ∃ cell : Cell, H[a]? = some cell ∧ cell.vm.isStatics = false ∧ X.2.2.2.1.vm.findClass y'.cls = some cell.cls := by
    obtain ⟨-, -, h1, -⟩ := hH.2.2 a (by omega)
    obtain ⟨cell, g1, g2, g3, -⟩ := h1 c r ha hc
    exact ⟨cell, g1, by rw [g3]; rfl, by rw [g2, ← hcl]; exact (C.2.2.2.2.2.2.2.2.1.1.1 c r hc).2.1⟩
  rcases w4 with w4 | ⟨host, w4⟩
  · exact vi_after hp hl hS (va_runV (C := y'.cls) (As := As) (rest := rest) (Ts := vi_tb) (own := y.cls) (nL := nL) (cc := cc) ⟨C.1, C.2.1, C.2.2.1, C.2.2.2.2.2.1, C.2.2.2.2.2.2.2.1⟩ hM ⟨callB_of As.length C.2.2.2.2.2.2.2.1 hG rfl rfl rfl (C.2.2.2.2.2.2.2.1 _ w2) (C.2.2.2.2.2.2.2.1 _ w4) w3 hR, C.2.2.2.2.2.2.2.1 _ hi2.1, C.2.2.2.2.2.2.2.1 _ hi2.2⟩ ⟨vi_blind, hrecv, vi_pre C hH hS (.ref a :: As)⟩ rfl rfl hl.1 hst (lv_room hrs) hd hF) kk
  · exact vi_after hp hl hS (va_runVN (C := y'.cls) (As := As) (rest := rest) (Ts := vi_tb) (own := y.cls) (nL := nL) (cc := cc) ⟨C.1, C.2.1, C.2.2.1, C.2.2.2.2.2.1, C.2.2.2.2.2.2.2.1⟩ hM ⟨va_cnB As.length C.2.2.2.2.2.2.2.1 hG rfl rfl rfl (C.2.2.2.2.2.2.2.2.1.2.2.1 _ w4) (C.2.2.2.2.2.2.2.1 _ w2) w3 hR, C.2.2.2.2.2.2.2.1 _ hi2.1, C.2.2.2.2.2.2.2.1 _ hi2.2⟩ ⟨vi_blind, hrecv, vi_pre C hH hS (.ref a :: As)⟩ rfl rfl hl.1 hst (lv_room hrs) hd hF) kk
theorem vi_callI (C : vi_C E X y cc nL ret d mc ms lo) {p' idx : Nat} {y' : MethodName} {cc' : ByteArray} {nL' : Nat} {d' mc' ms' : Nat} {a : Nat} (As rest : List Value) {Q' : Option Value → vS → Nat → Prop} (hd : decode cc pc = .ok (.invokespecial idx, 3)) (hp : pc + 3 = p') (hi : vi_Iv y.cls idx y' cc' nL' none As.length) (hi2 : y'.name = "<init>" ∧ Cond.instanceMethod y' ∈ vi_tb) (hM : vi_Met E y' cc' nL' none d' mc' ms' (.ref a :: As) S sz Q') (hst : st = As.reverse ++ .ref a :: rest) (hrs : (rest.map fun v => v.category).sum ≤ 8) (hdp : d' + 1 ≤ d ∧ 8 + (nL' + 11) + 45 * d' ≤ lo) (hrm : k + mc' ≤ mc ∧ n + ms' ≤ ms)
    (kk : ∀ v S' sz', Q' v S' sz' → vi_W E X nL Z p' lv (v.toList ++ rest) S' sz' (k + mc') (n + ms')) : vi_W E X nL Z pc lv st S sz k n := by
  intro H locs ls hl hH hS
  obtain ⟨w1, w2, w3, w4⟩ := hi
  have hG : GoodIn vi_tb (vi_ws y' cc' nL' none) := vi_goodtb w1
  have hR : d' + 1 ≤ X.2.2.1.frames ∧ 8 + (nL' + 11) + 45 * d' ≤ X.2.2.1.locals := by rw [C.2.2.2.2.2.2.2.2.2.2.2]; exact hdp
  have hF : k + mc' ≤ X.2.2.1.cells ∧ n + ms' ≤ X.2.2.1.slots := by rw [C.2.2.2.2.2.2.2.2.2.2.2]; exact hrm
  rcases w4 with w4 | ⟨host, w4⟩
  · exact vi_after hp hl hS (va_runI (As := As) (rest := rest) (Ts := vi_tb) (own := y.cls) (nL := nL) (cc := cc) ⟨C.1, C.2.1, C.2.2.1, C.2.2.2.2.2.1, C.2.2.2.2.2.2.2.1⟩ hM ⟨callB_of As.length C.2.2.2.2.2.2.2.1 hG rfl rfl rfl (C.2.2.2.2.2.2.2.1 _ w2) (C.2.2.2.2.2.2.2.1 _ w4) w3 hR, hi2.1, C.2.2.2.2.2.2.2.1 _ hi2.2⟩ ⟨vi_blind, vi_pre C hH hS (.ref a :: As)⟩ rfl rfl hl.1 hst (lv_room hrs) hd hF) kk
  · exact vi_after hp hl hS (va_runIN (As := As) (rest := rest) (Ts := vi_tb) (own := y.cls) (nL := nL) (cc := cc) ⟨C.1, C.2.1, C.2.2.1, C.2.2.2.2.2.1, C.2.2.2.2.2.2.2.1⟩ hM ⟨va_cnB As.length C.2.2.2.2.2.2.2.1 hG rfl rfl rfl (C.2.2.2.2.2.2.2.2.1.2.2.1 _ w4) (C.2.2.2.2.2.2.2.1 _ w2) w3 hR, hi2.1, C.2.2.2.2.2.2.2.1 _ hi2.2⟩ ⟨vi_blind, vi_pre C hH hS (.ref a :: As)⟩ rfl rfl hl.1 hst (lv_room hrs) hd hF) kk
theorem vi_objInit (C : vi_C E X y cc nL ret d mc ms lo) {p' idx a : Nat} (hd : decode cc pc = .ok (.invokespecial idx, 3)) (hp : pc + 3 = p') (w1 : Cond.methodLink y.cls idx Lib.objectInit ∈ vi_tb) (w2 : Cond.instanceMethod Lib.objectInit ∈ vi_tb) (w3 : Cond.code Lib.objectInit ⟨#[0xb1]⟩ 1 none ∈ vi_tb) (hdp : 1 ≤ d) (hlo : (st.map fun v => v.category).sum + 12 ≤ lo) (kk : vi_W E X nL Z p' lv st S sz k n) : vi_W E X nL Z pc lv (.ref a :: st) S sz k n := by
  subst hp
  intro H locs ls hl hH hS
  exact W.objInit C.1 C.2.1 C.2.2.2.2.2.1 (C.2.2.2.2.2.2.2.1 _ w1) (C.2.2.2.2.2.2.2.1 _ w2) (C.2.2.2.2.2.2.2.1 _ w3) rfl (hl.1.trans C.2.2.1.symm) rfl hd (by rw [C.2.2.2.2.2.2.2.2.2.2.2]; exact hdp) (by rw [C.2.2.2.2.2.2.2.2.2.2.2]; show 2 * 0 + _ + 12 ≤ lo; omega) (kk H locs ls hl hH hS)
theorem vi_born {N κ : Nat} {H H1 : Heap} {cA : ClassId} (hH : vi_H E S sz H) (hκ : 20 ≤ κ) (hκ2 : κ ≤ 27) (e1 : H1[sz]? = some (arrV cA N (fun _ => defaultValue (vi_aty κ)))) (hc : cA = E.2.2.1 κ) (z1 : H1.size = sz + 1) (o1 : ∀ q, q < sz → H1[q]? = H[q]?) : vi_H E (nA S sz κ N) (sz + 1) H1 := by
  subst hc
  have hk9 : vK (nA S sz κ N) sz = κ := va_up_self _ _ _
  have hn9 : vN (nA S sz κ N) sz = N := va_up_self _ _ _
  have hr9 : vR (nA S sz κ N) sz = fun _ => 0 := va_up_self _ _ _
  have hj9 : vJ (nA S sz κ N) sz = fun _ => 0 := va_up_self _ _ _
  have hq9 : vQ (nA S sz κ N) sz = fun _ => none := va_up_self _ _ _
  refine hH.push z1 o1 (fun b hb => ⟨va_up_ne _ _ hb, fun _ _ => rfl, va_up_ne _ _ hb, va_up_ne _ _ hb, va_up_ne _ _ hb, va_up_ne _ _ hb⟩) ⟨fun c' r' h5 h6 => ?_, fun h5 => ?_, fun h5 => ?_, fun h5 => ?_⟩
  · rw [hk9] at h5
    have h8 : c' < vwCl.length := (List.getElem?_eq_some_iff.mp h6).1
    have h9 : vwCl.length = 13 := rfl
    omega
  · rw [hk9] at h5 ⊢
    rw [hn9, hr9, e1]
    rcases h5 with rfl | rfl | rfl <;> rfl
  · rw [hk9] at h5
    subst h5
    rw [hn9, hj9, e1]; rfl
  · rw [hk9] at h5 ⊢
    rw [hn9, hq9, e1]
    obtain ⟨CN, hCN⟩ := vi_atyR h5 hκ2
    rw [hCN]; rfl
theorem vi_newarray (C : vi_C E X y cc nL ret d mc ms lo) {p' : Nat} {aty : ArrayType} {i : Int32} {κ N : Nat} (hd : decode cc pc = .ok (.newarray aty, 2)) (hp : pc + 2 = p') (hw : Cond.arrayClass (vi_aty κ) ∈ vi_tb) (ht : newarray.typeOf aty = vi_aty κ) (hκ : 20 ≤ κ) (hκ2 : κ ≤ 23) (hi : ¬ i < 0) (hN : i.toNatClampNeg = N) (hb : N * componentBytes (vi_aty κ) ≤ 536870912) (hk1 : k + 1 ≤ mc) (hn1 : n + N ≤ ms) (kk : vi_W E X nL Z p' lv (.ref sz :: st) (nA S sz κ N) (sz + 1) (k + 1) (n + N)) : vi_W E X nL Z pc lv (.int i :: st) S sz k n := by
  subst hp
  intro H locs ls hl hH hS
  refine va_newaK C.1 C.2.1 (by rw [ht]; exact C.2.2.2.2.2.2.2.1 _ hw) rfl hd rfl hi hN (by rw [ht]; exact hb) (by rw [C.2.2.2.2.2.2.2.2.2.2.2]; exact hk1) (by rw [C.2.2.2.2.2.2.2.2.2.2.2]; exact hn1) hH.1 fun H1 cA e1 z1 o1 hAr hNm => ?_
  rw [ht] at e1 hAr hNm
  refine kk H1 locs ls hl (vi_born hH hκ (by omega) e1 ?_ z1 o1) (hS.push (by rw [hH.1]; exact hH.2.1) (by rw [hH.1]; exact o1))
  have hRA := (C.2.2.2.2.2.2.2.2.1.2.1 κ hκ (by omega)).2
  have h2 : X.2.2.2.1.vm.findClass ("[" ++ (vi_aty κ).toString) = some (E.2.2.1 κ) := by
    rcases (show κ = 20 ∨ κ = 21 ∨ κ = 22 ∨ κ = 23 by omega) with h | h | h | h <;> subst h <;> exact hRA
  exact Option.some.inj (hNm.symm.trans h2)
theorem vi_anewarray (C : vi_C E X y cc nL ret d mc ms lo) {p' : Nat} {idx : Nat} {CN : String} {i : Int32} {κ N : Nat} (hd : decode cc pc = .ok (.anewarray idx, 3)) (hp : pc + 3 = p') (hw : Cond.classLink y.cls idx CN ∈ vi_tb) (hw2 : ∀ U, vi_K E U → va_AO CN U) (ht : vi_aty κ = .object CN) (hκ : 24 ≤ κ) (hκ2 : κ ≤ 27) (hi : ¬ i < 0) (hN : i.toNatClampNeg = N) (hb : N * 4 ≤ 536870912) (hk1 : k + 1 ≤ mc) (hn1 : n + N ≤ ms) (kk : vi_W E X nL Z p' lv (.ref sz :: st) (nA S sz κ N) (sz + 1) (k + 1) (n + N)) : vi_W E X nL Z pc lv (.int i :: st) S sz k n := by
  subst hp
  intro H locs ls hl hH hS
  subst hN
  refine W.anew C.1 C.2.1 C.2.2.2.2.2.1 (C.2.2.2.2.2.2.2.1 _ hw) (va_AO.use (hw2 _ C.2.2.2.2.2.2.2.2.1)) rfl hd rfl hi hb (by rw [C.2.2.2.2.2.2.2.2.2.2.2]; exact hk1) (by rw [C.2.2.2.2.2.2.2.2.2.2.2]; exact hn1) fun cA kA comp h1 h2 h3 h4 => ?_
  have hz := hH.1
  subst hz
  refine kk _ locs ls hl (vi_born hH (by omega) hκ2 (cA := cA) ?_ ?_ ?_ ?_) (hS.push hH.2.1 (fun q hq => ?_))
  · rw [← arrV_new, ht]; simp [defaultValue]
  · have hRA := (C.2.2.2.2.2.2.2.2.1.2.1 κ (by omega) hκ2).2
    rw [ht] at hRA
    obtain ⟨_, _, -, -, -, h5⟩ := hRA
    exact Option.some.inj (h1.symm.trans h5)
  · simp
  · intro q hq
    rw [Array.getElem?_push, if_neg (Nat.ne_of_lt hq)]
  · rw [Array.getElem?_push, if_neg (Nat.ne_of_lt hq)]
end VIM
