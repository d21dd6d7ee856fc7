/-- the words that a method is declared, which a throw needs -/
def vi_dw : List Cond := tables_1.filter (fun w => match w with | .declares _ => true | _ => false)
theorem vi_dto {w : Cond} (hw : w ∈ vi_dw) {s U : State} (hvm : s.vm.Alike U.vm) (h : va_Nw w s) : va_Nw w U := by
  have h1 := (List.mem_filter.mp hw).2
  cases w <;> first | exact va_tabs rfl (rfl : (s.setVm U.vm).vm = U.vm) (by rw [Cond.declares_setVm hvm]; exact h) | (simp at h1)
theorem vi_dtab {w : Cond} (hw : w ∈ vi_dw) : w.onTables = true := by
  have h1 := (List.mem_filter.mp hw).2
  cases w <;> first | rfl | (simp at h1)
def vi_isC (w : Cond) : Bool := match w with
  | .castable _ _ => true
  | _ => false
theorem vi_words {L : List Cond} {ps : List Nat} (hp : L = ps.filterMap (fun i => tables_1[i]?)) (h : L.all (fun w => goodWord w || (vi_isC w || match w with | .declares _ => true | _ => false)) = true) : ∀ w ∈ L, w ∈ vi_tb ∨ w ∈ vi_nt ∨ w ∈ vi_dw := by
  intro w hw
  have h1 := List.all_eq_true.mp h w hw
  rw [hp] at hw
  obtain ⟨i, -, hi⟩ := List.mem_filterMap.mp hw
  have hm : w ∈ tables_1 := List.mem_of_getElem? hi
  rcases Bool.or_eq_true_iff.mp h1 with g | g
  · exact Or.inl (vi_mem (List.mem_append_right _ hm) g)
  · rcases Bool.or_eq_true_iff.mp g with g | g
    · refine Or.inr (Or.inl (List.mem_filter.mpr ⟨hm, ?_⟩))
      cases w <;> first | rfl | cases g
    · exact Or.inr (Or.inr (List.mem_filter.mpr ⟨hm, g⟩))
theorem xa_IA : ∀ w ∈ vx_at0 RX11 102 "java/lang/IllegalArgumentException" ["java/lang/RuntimeException", "java/lang/Exception"], w ∈ vi_tb ∨ w ∈ vi_nt ∨ w ∈ vi_dw := vi_words (ps := [14, 1183, 1192, 1196, 1199, 1201, 1184, 1185, 29, 30, 1186, 1191, 1197, 1213, 1173, 1214, 1175, 1215, 1177, 1187, 1189, 1179, 1203, 1204, 1205, 1206, 1164, 1206, 1207, 1208, 1209, 1166, 1209, 1210, 1211, 1184, 1168, 1202, 1162, 1163, 1170, 1171, 1172, 1174, 1176, 1178, 1182, 1181, 1180]) (by decide +kernel) (by decide +kernel)
theorem xg_IA : ∀ w ∈ Cond.classLink RX11 100 "java/lang/IllegalArgumentException" :: Cond.initialized "java/lang/IllegalArgumentException" :: vx_at0 RX11 102 "java/lang/IllegalArgumentException" ["java/lang/RuntimeException", "java/lang/Exception"], vx_ot w = true := List.all_eq_true.mp (by decide +kernel)
theorem xk_IA : Cond.classLink RX11 100 "java/lang/IllegalArgumentException" ∈ vi_tb := vi_mem (vi_m5 (List.mem_of_getElem? (i := 201) rfl)) rfl
theorem xi_IA : Cond.initialized "java/lang/IllegalArgumentException" ∈ vi_tb := vi_mem (vi_m1 (List.mem_of_getElem? (i := 17) rfl)) rfl
theorem xl_IA : Cond.classLink RL 13 "java/lang/IllegalArgumentException" ∈ vi_tb := vi_mem (vi_m5 (List.mem_of_getElem? (i := 195) rfl)) rfl
theorem xc_IA : Cond.castable "java/lang/IllegalArgumentException" "java/lang/IllegalArgumentException" ∈ vi_nt := List.mem_filter.mpr ⟨vi_t5 (List.mem_of_getElem? (i := 203) rfl), rfl⟩
theorem xa_IS : ∀ w ∈ vx_at0 RX11 105 "java/lang/IllegalStateException" ["java/lang/RuntimeException", "java/lang/Exception"], w ∈ vi_tb ∨ w ∈ vi_nt ∨ w ∈ vi_dw := vi_words (ps := [14, 1183, 1192, 1196, 1199, 1201, 1184, 1185, 29, 30, 1186, 1191, 1197, 1213, 1173, 1214, 1175, 1215, 1177, 1187, 1189, 1179, 1234, 1235, 1236, 1206, 1164, 1206, 1207, 1208, 1209, 1166, 1209, 1210, 1211, 1184, 1168, 1233, 1225, 1226, 1227, 1194, 1228, 1229, 1230, 1231, 1182, 1181, 1232]) (by decide +kernel) (by decide +kernel)
theorem xg_IS : ∀ w ∈ Cond.classLink RX11 103 "java/lang/IllegalStateException" :: Cond.initialized "java/lang/IllegalStateException" :: vx_at0 RX11 105 "java/lang/IllegalStateException" ["java/lang/RuntimeException", "java/lang/Exception"], vx_ot w = true := List.all_eq_true.mp (by decide +kernel)
theorem xk_IS : Cond.classLink RX11 103 "java/lang/IllegalStateException" ∈ vi_tb := vi_mem (vi_m6 (List.mem_of_getElem? (i := 24) rfl)) rfl
theorem xi_IS : Cond.initialized "java/lang/IllegalStateException" ∈ vi_tb := vi_mem (vi_m1 (List.mem_of_getElem? (i := 18) rfl)) rfl
theorem xl_IS : Cond.classLink RL 15 "java/lang/IllegalStateException" ∈ vi_tb := vi_mem (vi_m5 (List.mem_of_getElem? (i := 196) rfl)) rfl
theorem xc_IS : Cond.castable "java/lang/IllegalStateException" "java/lang/IllegalStateException" ∈ vi_nt := List.mem_filter.mpr ⟨vi_t6 (List.mem_of_getElem? (i := 26) rfl), rfl⟩
theorem xa_IO : ∀ w ∈ vx_at0 RX11 242 "java/lang/IndexOutOfBoundsException" ["java/lang/RuntimeException", "java/lang/Exception"], w ∈ vi_tb ∨ w ∈ vi_nt ∨ w ∈ vi_dw := vi_words (ps := [14, 1183, 1192, 1196, 1199, 1201, 1184, 1185, 29, 30, 1186, 1191, 1197, 1213, 1173, 1214, 1175, 1215, 1177, 1187, 1189, 1179, 1266, 1267, 1268, 1206, 1164, 1206, 1207, 1208, 1209, 1166, 1209, 1210, 1211, 1184, 1168, 1265, 1257, 1258, 1259, 1195, 1260, 1261, 1262, 1263, 1182, 1181, 1264]) (by decide +kernel) (by decide +kernel)
theorem xg_IO : ∀ w ∈ Cond.classLink RX11 240 "java/lang/IndexOutOfBoundsException" :: Cond.initialized "java/lang/IndexOutOfBoundsException" :: vx_at0 RX11 242 "java/lang/IndexOutOfBoundsException" ["java/lang/RuntimeException", "java/lang/Exception"], vx_ot w = true := List.all_eq_true.mp (by decide +kernel)
theorem xk_IO : Cond.classLink RX11 240 "java/lang/IndexOutOfBoundsException" ∈ vi_tb := vi_mem (vi_m6 (List.mem_of_getElem? (i := 56) rfl)) rfl
theorem xi_IO : Cond.initialized "java/lang/IndexOutOfBoundsException" ∈ vi_tb := vi_mem (vi_m1 (List.mem_of_getElem? (i := 22) rfl)) rfl
theorem xl_IO : Cond.classLink RL 21 "java/lang/IndexOutOfBoundsException" ∈ vi_tb := vi_mem (vi_m6 (List.mem_of_getElem? (i := 51) rfl)) rfl
theorem xc_IO : Cond.castable "java/lang/IndexOutOfBoundsException" "java/lang/IndexOutOfBoundsException" ∈ vi_nt := List.mem_filter.mpr ⟨vi_t6 (List.mem_of_getElem? (i := 58) rfl), rfl⟩
/-- what a throw needs of the heap that was there: the two fields of Throwable; that one exception is not of the other's class; no stack traces -/
def vi_Zs (E : vE) (U : State) (H : Heap) : Prop := vx_Zq Bundle.tN "UNASSIGNED_STACK" Bundle.steD (fun q => E.2.2.2.1 ≤ q) U H ∧ vx_Zq Bundle.tN "SUPPRESSED_SENTINEL" Bundle.listD (fun q => E.2.2.2.1 ≤ q) U H ∧ va_Nc "java/lang/IllegalStateException" "java/lang/IllegalArgumentException" U ∧ E.1.stackTraces = false ∧ ∀ w ∈ vi_dw, va_Nw w U
theorem vi_Zs.to {E : vE} {s U : State} {H : Heap} (h : vi_Zs E s s.heap) (hvm : s.vm.Alike U.vm) (hq : ∀ q : Nat, q < E.2.2.2.1 → H[q]? = s.heap[q]?) : vi_Zs E U H :=
  ⟨(h.1.kept (fun a _ ha => hq a (Nat.not_le.mp ha))).moved hvm, (h.2.1.kept (fun a _ ha => hq a (Nat.not_le.mp ha))).moved hvm, h.2.2.1.moved hvm, h.2.2.2.1, fun w hw => vi_dto hw hvm (h.2.2.2.2 w hw)⟩
def vi_BX (E : vE) (S : vS) (sz : Nat) (U : State) : Prop := vi_B E S sz U ∧ vi_Zs E U U.heap
def vi_XC (E : vE) (QX : String → vS → Nat → Prop) : String → State → State → Prop := fun En s t => (∃ (S : vS) (sz : Nat), QX En S sz ∧ vi_H E S sz t.heap) ∧ ∀ q : Nat, q < E.2.2.2.1 → t.heap[q]? = s.heap[q]?
def vi_MetX (E : vE) (y : MethodName) (cc : ByteArray) (nL : Nat) (ret : Option FieldType) (d mc ms : Nat) (av : List Value) (S : vS) (sz : Nat) (Q : Option Value → vS → Nat → Prop) (QX : String → vS → Nat → Prop) : Prop :=
  vx_Met E.1 y (vi_ws y cc nL ret) { frames := d, cells := mc, slots := ms, locals := 45 * d } (va_Pc av (vi_BX E S sz)) (vi_Qc E Q) (vi_XC E QX) mc ms (fun q => E.2.2.2.1 ≤ q)
def vi_ZX (E : vE) (X : vX) (Q : Option Value → vS → Nat → Prop) (QX : String → vS → Nat → Prop) (mc ms : Nat) : State → Prop := vx_MQ X.2.2.2.2.2.2.1 (vi_Qc E Q) (vi_XC E QX) X.2.2.2.2.2.1 X.2.2.2.1 mc ms (fun q => E.2.2.2.1 ≤ q)
theorem vi_metX {E : vE} {y : MethodName} {cc : ByteArray} {nL : Nat} {ret : Option FieldType} {d mc ms : Nat} {av : List Value} {S : vS} {sz : Nat} {Q : Option Value → vS → Nat → Prop} {QX : String → vS → Nat → Prop} (hy : plainName y.cls = true) (hlen : (lg_sl av).length ≤ nL)
    (body : ∀ X : vX, vi_C E X y cc nL ret d mc ms (45 * d) → vi_Zs E X.2.2.2.1 X.2.2.2.1.heap → (∀ x ∈ X.2.2.2.2.2.2.2.2.exceptionTable.toList, False) → vi_W E X nL (vi_ZX E X Q QX mc ms) 0 (lv_args 0 av) [] S sz 0 0) : vi_MetX E y cc nL ret d mc ms av S sz Q QX := by
  refine vx_ofW (cc := cc) (maxL := nL) (ret := ret) hy rfl ?_
  intro p e s m args below meth c s₁ B hml ht hv
  obtain ⟨rfl, ⟨hH, hK, hX, hb⟩, hZ⟩ := hv
  rw [lg_entry_eq]
  exact body (p, e, _, s, m, _, below, meth, c) ⟨B.exec, B.bytes, hml, B.returns, B.notSynchronized, findClass_of_methodNamed B.named, fun h => (name_of_methodNamed B.named B.method).1.trans h, fun w hw => atoms_spec (ws := vi_ws y cc nL ret) B.pre w (List.mem_cons_of_mem _ hw), hK, hX, hb, rfl⟩ hZ ht s.heap [] _ (lv_entry av hlen) hH ⟨fun _ _ => rfl, fun x h => by cases h⟩
theorem vi_blindX {E : vE} {S : vS} {sz : Nat} {av : List Value} : FrameBlind (va_Pc av (vi_BX E S sz)) := by
  intro a U g mk h
  obtain ⟨h1, ⟨h2, h3, ⟨scr, x1, x2, x3⟩, h5⟩, hz⟩ := h
  exact ⟨h1, ⟨h2, vi_K.same (s := U) (U := U.calling g mk a) rfl h3, ⟨scr, x1, State.isArrayOf_alike (Vm.Alike.refl U.vm) x2, x3⟩, h5⟩, vi_Zs.to (U := U.calling g mk a) hz (Vm.Alike.refl U.vm) (fun _ _ => rfl)⟩
theorem vi_preX {E : vE} {X : vX} {y : MethodName} {cc : ByteArray} {nL : Nat} {ret : Option FieldType} {d mc ms lo : Nat} (C : vi_C E X y cc nL ret d mc ms lo) (hZ : vi_Zs E X.2.2.2.1 X.2.2.2.1.heap) {S : vS} {sz : Nat} {H : Heap} {locs : List Loc} (hH : vi_H E S sz H) (hS : vi_S E.2.2.2.1 X.2.2.2.1.heap H locs) (As : List Value) :
    ∀ U : State, U.heap = H → X.2.2.2.1.WarmedH U.vm → va_Pc As (vi_BX E S sz) As.toArray U := by
  intro U hU hW
  obtain ⟨h1, h2⟩ := vi_pre C hH hS As U hU hW
  refine ⟨h1, h2, hZ.to hW.alike ?_⟩
  rw [hU]; exact hS.1
theorem vi_H.more {E : vE} {S : vS} {sz : Nat} {H H1 : Heap} (h : vi_H E S sz H) (hz : H1.size = H.size + 1) (hq : ∀ q : Nat, q < H.size → H1[q]? = H[q]?) : vi_H E S (sz + 1) H1 := by
  obtain ⟨h1, h2, h3⟩ := h
  refine ⟨by omega, by omega, fun a ha => ?_⟩
  obtain ⟨g1, g2, g3⟩ := h3 a ha
  exact ⟨g1, by omega, g3.kept (hq a (by omega)) rfl (fun _ _ => rfl) rfl rfl rfl rfl⟩
section VIX
variable {E : vE} {X : vX} {y : MethodName} {cc : ByteArray} {nL : Nat} {ret : Option FieldType} {d mc ms lo : Nat} {Z : State → Prop} {pc : Nat} {lv : List (Nat × Value)} {st : List Value} {S : vS} {sz k n : Nat}
/-- q, of the class En, is thrown over this frame -/
def vi_WX (E : vE) (X : vX) (nL : Nat) (Z : State → Prop) (pc : Nat) (lv : List (Nat × Value)) (st : List Value) (S : vS) (sz k n : Nat) (En : String) (q : Addr) : Prop :=
  ∀ (H : Heap) (locs : List Loc) (ls : Array Slot), lv_has ls nL lv → vi_H E S sz H → vi_S E.2.2.2.1 X.2.2.2.1.heap H locs → ∀ ce : Cell, H[q]? = some ce → ce.vm = .none → X.2.2.2.1.vm.findClass En = some ce.cls → vx_W X.1 E.1 X.2.1 X.2.2.1 X.2.2.2.1 X.2.2.2.2.1 X.2.2.2.2.2.1 X.2.2.2.2.2.2.1 X.2.2.2.2.2.2.2.1 X.2.2.2.2.2.2.2.2 H locs k n Z (F0 X.2.2.2.2.1 pc ls st) q
theorem vi_retX {Q : Option Value → vS → Nat → Prop} {QX : String → vS → Nat → Prop} {mc' ms' : Nat} (h : vi_W E X nL (vi_Z E X Q mc' ms') pc lv st S sz k n) : vi_W E X nL (vi_ZX E X Q QX mc' ms') pc lv st S sz k n := fun H locs ls hl hH hS => vx_ret (h H locs ls hl hH hS)
theorem vi_throw0 (C : vi_C E X y cc nL ret d mc ms lo) (hZ : vi_Zs E X.2.2.2.1 X.2.2.2.1.heap) (ht : ∀ x ∈ X.2.2.2.2.2.2.2.2.exceptionTable.toList, False) {cls : String} {names : List String} {ik ic : Nat} {Q : Option Value → vS → Nat → Prop} {QX : String → vS → Nat → Prop} (hcls : Bundle.fit cls = true) (hnames : ∀ n ∈ names, Bundle.fit n = true)
    (hk : Cond.classLink y.cls ik cls ∈ vi_tb) (hini : Cond.initialized cls ∈ vi_tb) (hat : ∀ w ∈ vx_at0 y.cls ic cls names, w ∈ vi_tb ∨ w ∈ vi_nt ∨ w ∈ vi_dw) (hgood : ∀ w ∈ Cond.classLink y.cls ik cls :: Cond.initialized cls :: vx_at0 y.cls ic cls names, vx_ot w = true)
    (d0 : decode cc pc = .ok (.new ik, 3)) (d3 : decode cc (pc + 3) = .ok (.dup, 1)) (d4 : decode cc (pc + 4) = .ok (.invokespecial ic, 3)) (d7 : decode cc (pc + 7) = .ok (.athrow, 1))
    (hfr : names.length + 3 < d) (hlo : (st.map fun v => v.category).sum + (13 * (names.length + 1) + 42) ≤ lo) (hk1 : k + 1 ≤ mc) (hn1 : n + 6 ≤ ms) (hx : QX cls S (sz + 1)) : vi_W E X nL (vi_ZX E X Q QX mc ms) pc lv st S sz k n := by
  intro H locs ls hl hH hS
  have hR := C.2.2.2.2.2.2.2.2.2.2.2
  have hw := C.2.2.2.2.2.2.2.1
  refine vx_throw0 (A := fun q => E.2.2.2.1 ≤ q) C.1 C.2.1 hZ.2.2.2.1 C.2.2.2.2.2.1 hcls hnames (hw _ hk) (hw _ hini) (fun w h => (hat w h).elim (hw w) (fun g => g.elim (fun g => va_Nw.use (vi_nt_tab g) (C.2.2.2.2.2.2.2.2.1.2.2.1 w g)) (fun g => va_Nw.use (vi_dtab g) (hZ.2.2.2.2 w g)))) hgood hZ.1 hZ.2.1 (fun q _ hq => hS.1 q (Nat.not_le.mp hq)) (hl.1.trans C.2.2.1.symm) d0 d3 d4 d7 (fun x h => (ht x h).elim) (by rw [hR]; exact hfr) (by rw [hR]; exact hlo) (by rw [hR]; exact hk1) (by rw [hR]; exact hn1) C.2.2.2.2.1 (fun t hA hsz hq => ?_) (fun z hz => hS.2 z hz) hk1 hn1
  refine ⟨⟨S, sz + 1, hx, hH.more hsz hq⟩, fun q h => ?_⟩
  rw [hq q (by have := hH.1; have := hH.2.1; omega)]
  exact hS.1 q h
theorem vi_afterX {p' mc' ms' : Nat} {Q' : Option Value → vS → Nat → Prop} {QX : String → vS → Nat → Prop} {a : Array Value} {rest : List Value} {H : Heap} {locs : List Loc} {ls : Array Slot} (hp : pc + 3 = p') (hl : lv_has ls nL lv) (hS : vi_S E.2.2.2.1 X.2.2.2.1.heap H locs)
    (hr : vx_Run X.1 E.1 X.2.1 X.2.2.1 X.2.2.2.1 X.2.2.2.2.1 X.2.2.2.2.2.1 X.2.2.2.2.2.2.1 X.2.2.2.2.2.2.2.1 X.2.2.2.2.2.2.2.2 H locs k n mc' ms' (F0 X.2.2.2.2.1 pc ls st) rest (vi_Qc E Q' a) (vi_XC E QX) (fun q => E.2.2.2.1 ≤ q))
    (kk : ∀ v S' sz', Q' v S' sz' → vi_W E X nL Z p' lv (v.toList ++ rest) S' sz' (k + mc') (n + ms'))
    (kx : ∀ En q S' sz', QX En S' sz' → vi_WX E X nL Z pc lv rest S' sz' (k + mc') (n + ms') En q) :
    W X.1 E.1 X.2.1 X.2.2.1 X.2.2.2.1 X.2.2.2.2.1 X.2.2.2.2.2.1 X.2.2.2.2.2.2.1 X.2.2.2.2.2.2.2.1 X.2.2.2.2.2.2.2.2 H locs k n Z (F0 X.2.2.2.2.1 pc ls st) := by
  subst hp
  intro T hT XX
  rcases hr T hT XX with ⟨v, st₀, t, T', L, h0, X', hL, e1, e2, ⟨⟨v', S', sz', hv, hq, hH'⟩, hfr⟩, hgo⟩ | ⟨q, st₀, t, T', L, En, ce, h0, X', hL, e1, e2, ⟨⟨S', sz', hq, hH'⟩, hfr⟩, hce, hcv, hcl, hgo⟩
  · cases hv
    obtain ⟨t2, a1, b1⟩ := kk v S' sz' hq T'.heap (locs ++ L) ls hl (by rw [e1]; exact hH') ⟨fun q hq => by rw [e1, hfr q hq, h0]; exact hS.1 q hq, fun x hx => (List.mem_append.mp hx).elim (hS.2 x) (hL x)⟩ T' rfl X'
    exact ⟨t2, hgo t2 a1, b1⟩
  · obtain ⟨t2, a1, b1⟩ := kx En q S' sz' hq T'.heap (locs ++ L) ls hl (by rw [e1]; exact hH') ⟨fun q hq => by rw [e1, hfr q hq, h0]; exact hS.1 q hq, fun x hx => (List.mem_append.mp hx).elim (hS.2 x) (hL x)⟩ ce (by rw [e1]; exact hce) hcv hcl T' rfl X'
    exact ⟨t2, hgo.trans a1, b1⟩
theorem vi_callVX (C : vi_C E X y cc nL ret d mc ms lo) (hZ : vi_Zs E X.2.2.2.1 X.2.2.2.1.heap) {p' idx : Nat} {y' : MethodName} {cc' : ByteArray} {nL' : Nat} {ret' : Option FieldType} {d' mc' ms' : Nat} {c a : Nat} {r : vw_C} (As rest : List Value) {Q' : Option Value → vS → Nat → Prop} {QX : String → vS → Nat → Prop} (hd : decode cc pc = .ok (.invokevirtual idx, 3)) (hp : pc + 3 = p') (hi : vi_Iv y.cls idx y' cc' nL' ret' As.length) (hlk : Cond.methodLink y.cls idx y' ∈ vi_tb) (hi2 : Cond.instanceMethod y' ∈ vi_tb ∧ Cond.selects y'.cls y' y' ∈ vi_tb) (hc : vwCl[c]? = some r) (hcl : r.1 = y'.cls) (ha : vK S a = c + 1) (hM : vi_MetX E y' cc' nL' ret' d' mc' ms' (.ref a :: As) S sz Q' QX) (hst : st = As.reverse ++ .ref a :: rest) (hrs : (rest.map fun v => v.category).sum ≤ 8) (hdp : d' + 1 ≤ d ∧ 8 + (nL' + 11) + 45 * d' ≤ lo) (hrm : k + mc' ≤ mc ∧ n + ms' ≤ ms)
    (kk : ∀ v S' sz', Q' v S' sz' → vi_W E X nL Z p' lv (v.toList ++ rest) S' sz' (k + mc') (n + ms'))
    (kx : ∀ En q S' sz', QX En S' sz' → vi_WX E X nL Z pc lv rest S' sz' (k + mc') (n + ms') En q) : vi_W E X nL Z pc lv st S sz k n := by
  intro H locs ls hl hH hS
  obtain ⟨w1, w2, w3, w4⟩ := hi
  have hG : GoodIn vi_tb (vi_ws y' cc' nL' ret') := vi_goodtb w1
  have hR : d' + 1 ≤ X.2.2.1.frames ∧ 8 + (nL' + 11) + 45 * d' ≤ X.2.2.1.locals := by rw [C.2.2.2.2.2.2.2.2.2.2.2]; exact hdp
  have hF : k + mc' ≤ X.2.2.1.cells ∧ n + ms' ≤ X.2.2.1.slots := by rw [C.2.2.2.2.2.2.2.2.2.2.2]; exact hrm
  have hw := C.2.2.2.2.2.2.2.1
  have hrecv : ∃ cell : Cell, H[a]? = some cell ∧ cell.vm.isStatics = false ∧ X.2.2.2.1.vm.findClass y'.cls = some cell.cls := by
    obtain ⟨-, -, h1, -⟩ := hH.2.2 a (by omega)
    obtain ⟨cell, g1, g2, g3, -⟩ := h1 c r ha hc
    exact ⟨cell, g1, by rw [g3]; rfl, by rw [g2, ← hcl]; exact (C.2.2.2.2.2.2.2.2.1.1.1 c r hc).2.1⟩
  exact vi_afterX hp hl hS (vx_runV (As := As) (rest := rest) (Ts := vi_tb) (own := y.cls) (nL := nL) (cc := cc) (C := y'.cls) ⟨C.1, C.2.1, C.2.2.1, C.2.2.2.2.2.1, hw⟩ hM ⟨callB_of As.length hw hG rfl rfl rfl (hw _ w2) (hw _ hlk) w3 hR, hw _ hi2.1, hw _ hi2.2⟩ ⟨vi_blindX, hrecv, fun U hU hW => vi_preX C hZ hH hS (.ref a :: As) U hU hW⟩ rfl rfl hl.1 hst (lv_room hrs) hd hF) kk kx
theorem vi_catch (C : vi_C E X y cc nL ret d mc ms lo) {En name : String} {q : Addr} (pre : List ExceptionTableEntry) (x : ExceptionTableEntry) (suf : List ExceptionTableEntry) (hsplit : X.2.2.2.2.2.2.2.2.exceptionTable.toList = pre ++ x :: suf)
    (hpass : ∀ z ∈ pre, covers z pc = false ∨ (z.catchType ≠ 0 ∧ ∃ nm : String, Cond.classLink y.cls z.catchType nm ∈ vi_tb ∧ va_Nc En nm X.2.2.2.1)) (hx : covers x pc = true) (h0 : x.catchType ≠ 0) (hlink : Cond.classLink y.cls x.catchType name ∈ vi_tb) (hcast : Cond.castable En name ∈ vi_nt)
    (kk : vi_W E X nL Z x.handlerPc lv [.ref q] S sz k n) : vi_WX E X nL Z pc lv st S sz k n En q := fun H locs ls hl hH hS ce h1 h2 h3 =>
  vx_catch C.2.2.2.2.2.1 pre x suf hsplit (fun z hz => (hpass z hz).imp id (fun g => ⟨g.1, g.2.elim (fun nm h => ⟨nm, C.2.2.2.2.2.2.2.1 _ h.1, h.2⟩)⟩)) hx h0 (C.2.2.2.2.2.2.2.1 _ hlink) (va_Nw.use (vi_nt_tab hcast) (C.2.2.2.2.2.2.2.2.1.2.2.1 _ hcast)) h1 h2 h3 (kk H locs ls hl hH hS)
end VIX
