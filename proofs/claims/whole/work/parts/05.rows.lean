/-! ===== the walk of a method over the maps ===== -/
/-- program, environment, room, start, method, arguments, frames below, method, code -/
abbrev vX : Type := Program × Env × Room × State × MethodId × Array Value × List Frame × Method × Code
def vi_W (E : vE) (X : vX) (nL : Nat) (Z : State → Prop) (pc : Nat) (lv : List (Nat × Value)) (st : List Value) (S : vS) (sz k n : Nat) : Prop :=
  ∀ (H : Heap) (locs : List Loc) (ls : Array Slot), lv_has ls nL lv → vi_H E S sz H → vi_S E.2.2.2.1 X.2.2.2.1.heap H locs → W X.1 E.1 X.2.1 X.2.2.1 X.2.2.2.1 X.2.2.2.2.1 X.2.2.2.2.2.1 X.2.2.2.2.2.2.1 X.2.2.2.2.2.2.2.1 X.2.2.2.2.2.2.2.2 H locs k n Z (F0 X.2.2.2.2.1 pc ls st)
/-- what holds of a method's body: the machine, its code, its words, its room -/
def vi_C (E : vE) (X : vX) (y : MethodName) (cc : ByteArray) (nL : Nat) (ret : Option FieldType) (d mc ms lo : Nat) : Prop :=
  X.1.tables.exec = Jvm.exec ∧ X.2.2.2.2.2.2.2.2.code = cc ∧ X.2.2.2.2.2.2.2.2.maxLocals = nL ∧ X.2.2.2.2.2.2.2.1.sig.returnType = ret ∧ X.2.2.2.2.2.2.2.1.locks = false ∧ X.2.2.2.1.vm.findClass y.cls = some X.2.2.2.2.1.cls ∧ (y.name = "<init>" → X.2.2.2.2.2.2.2.1.name = "<init>") ∧ (∀ w ∈ vi_tb, w.before X.2.2.2.2.2.1 X.2.2.2.1 = true) ∧ vi_K E X.2.2.2.1 ∧ va_X E.2.2.2.2.1 E.2.2.2.2.2.1 E.2.2.2.2.2.2 X.2.2.2.1 X.2.2.2.1.heap ∧ E.2.2.2.2.1 < E.2.2.2.1 ∧ X.2.2.1 = { frames := d, cells := mc, slots := ms, locals := lo }
/-- the first local of a number -/
def vi_lk : List (Nat × Value) → Nat → Option Value
  | [], _ => none
  | q :: l, i => if q.1 = i then some q.2 else vi_lk l i
theorem vi_lk_at {ls : Array Slot} {nL : Nat} {l : List (Nat × Value)} (h : lv_has ls nL l) {i : Nat} {v : Value} (e : vi_lk l i = some v) : ls[i]? = some (.val v) := by
  have hm : (i, v) ∈ l := by
    clear h
    induction l with
    | nil => cases e
    | cons q l ih =>
      unfold vi_lk at e
      by_cases hq : q.1 = i
      · rw [if_pos hq] at e
        cases e
        rw [← hq]
        exact List.mem_cons_self
      · rw [if_neg hq] at e
        exact List.mem_cons_of_mem _ (ih e)
  exact h.2.2 (i, v) hm
def vi_s1 (l : List (Nat × Value)) (i : Nat) (v : Value) : List (Nat × Value) := (i, v) :: l.filter (fun q => !(q.1 == i) && !(q.1 + 1 == i && q.2.category == 2))
def vi_s2 (l : List (Nat × Value)) (i : Nat) (v : Value) : List (Nat × Value) := (i, v) :: l.filter (fun q => !(q.1 == i) && (!(q.1 == i + 1) && !(q.1 + 1 == i && q.2.category == 2)))
theorem vi_rfc (o : Option Nat) : (va_rf o).category = 1 := by cases o <;> rfl
section VIR
variable {E : vE} {X : vX} {y : MethodName} {cc : ByteArray} {nL : Nat} {ret : Option FieldType} {d mc ms lo : Nat} {Z : State → Prop} {pc : Nat} {lv : List (Nat × Value)} {st : List Value} {S : vS} {sz k n : Nat}
theorem vi_iconst (C : vi_C E X y cc nL ret d mc ms lo) {p' : Nat} {q : Int} {v : Int32} (hd : decode cc pc = .ok (.iconst q, 1)) (hp : pc + 1 = p') (hv : Int32.ofInt q = v) (kk : vi_W E X nL Z p' lv (.int v :: st) S sz k n) : vi_W E X nL Z pc lv (st) S sz k n := by
  subst hp
  intro H locs ls hl hH hS
  exact lv_iconst C.1 C.2.1 hd hv (kk H locs ls hl hH hS)
theorem vi_bipush (C : vi_C E X y cc nL ret d mc ms lo) {p' : Nat} {q : Int} {v : Int32} (hd : decode cc pc = .ok (.bipush q, 2)) (hp : pc + 2 = p') (hv : (Int8.ofInt q).toInt32 = v) (kk : vi_W E X nL Z p' lv (.int v :: st) S sz k n) : vi_W E X nL Z pc lv (st) S sz k n := by
  subst hp
  intro H locs ls hl hH hS
  exact lv_bipush C.1 C.2.1 hd hv (kk H locs ls hl hH hS)
theorem vi_sipush (C : vi_C E X y cc nL ret d mc ms lo) {p' : Nat} {q : Int} {v : Int32} (hd : decode cc pc = .ok (.sipush q, 3)) (hp : pc + 3 = p') (hv : (Int16.ofInt q).toInt32 = v) (kk : vi_W E X nL Z p' lv (.int v :: st) S sz k n) : vi_W E X nL Z pc lv (st) S sz k n := by
  subst hp
  intro H locs ls hl hH hS
  exact lv_sipush C.1 C.2.1 hd hv (kk H locs ls hl hH hS)
theorem vi_lconst (C : vi_C E X y cc nL ret d mc ms lo) {p' : Nat} {q : Fin 2} {v : Int64} (hd : decode cc pc = .ok (.lconst q, 1)) (hp : pc + 1 = p') (hv : Int64.ofNat (q : Nat) = v) (kk : vi_W E X nL Z p' lv (.long v :: st) S sz k n) : vi_W E X nL Z pc lv (st) S sz k n := by
  subst hp
  intro H locs ls hl hH hS
  exact lv_lconst C.1 C.2.1 hd hv (kk H locs ls hl hH hS)
theorem vi_null (C : vi_C E X y cc nL ret d mc ms lo) {p' : Nat}  (hd : decode cc pc = .ok (.aconst_null, 1)) (hp : pc + 1 = p')  (kk : vi_W E X nL Z p' lv (.null :: st) S sz k n) : vi_W E X nL Z pc lv (st) S sz k n := by
  subst hp
  intro H locs ls hl hH hS
  exact lv_null C.1 C.2.1 hd (kk H locs ls hl hH hS)
theorem vi_ldc (C : vi_C E X y cc nL ret d mc ms lo) {p' : Nat} {q : Nat} {v : Int32} (hd : decode cc pc = .ok (.ldc q, 2)) (hp : pc + 2 = p') (hw : Cond.constant y.cls q v ∈ vi_tb) (kk : vi_W E X nL Z p' lv (.int v :: st) S sz k n) : vi_W E X nL Z pc lv (st) S sz k n := by
  subst hp
  intro H locs ls hl hH hS
  exact lv_ldc C.1 C.2.1 C.2.2.2.2.2.1 (C.2.2.2.2.2.2.2.1 _ hw) hd (kk H locs ls hl hH hS)
theorem vi_ldc2 (C : vi_C E X y cc nL ret d mc ms lo) {p' : Nat} {q : Nat} {v : Int64} (hd : decode cc pc = .ok (.ldc2_w q, 3)) (hp : pc + 3 = p') (hw : Cond.constantLong y.cls q v ∈ vi_tb) (kk : vi_W E X nL Z p' lv (.long v :: st) S sz k n) : vi_W E X nL Z pc lv (st) S sz k n := by
  subst hp
  intro H locs ls hl hH hS
  exact lv_ldc2 C.1 C.2.1 C.2.2.2.2.2.1 (C.2.2.2.2.2.2.2.1 _ hw) hd (kk H locs ls hl hH hS)
theorem vi_iload_n (C : vi_C E X y cc nL ret d mc ms lo) {p' : Nat} {q : Fin 4} {x : Int32} (hd : decode cc pc = .ok (.iload_n q, 1)) (hp : pc + 1 = p') (hv : vi_lk lv q.val = some (.int x)) (kk : vi_W E X nL Z p' lv (.int x :: st) S sz k n) : vi_W E X nL Z pc lv (st) S sz k n := by
  subst hp
  intro H locs ls hl hH hS
  exact lv_iload_n C.1 C.2.1 hd rfl (vi_lk_at hl hv) (kk H locs ls hl hH hS)
theorem vi_iload (C : vi_C E X y cc nL ret d mc ms lo) {p' : Nat} {q : Nat} {x : Int32} (hd : decode cc pc = .ok (.iload q, 2)) (hp : pc + 2 = p') (hv : vi_lk lv q = some (.int x)) (kk : vi_W E X nL Z p' lv (.int x :: st) S sz k n) : vi_W E X nL Z pc lv (st) S sz k n := by
  subst hp
  intro H locs ls hl hH hS
  exact lv_iload C.1 C.2.1 hd (vi_lk_at hl hv) (kk H locs ls hl hH hS)
theorem vi_lload_n (C : vi_C E X y cc nL ret d mc ms lo) {p' : Nat} {q : Fin 4} {x : Int64} (hd : decode cc pc = .ok (.lload_n q, 1)) (hp : pc + 1 = p') (hv : vi_lk lv q.val = some (.long x)) (kk : vi_W E X nL Z p' lv (.long x :: st) S sz k n) : vi_W E X nL Z pc lv (st) S sz k n := by
  subst hp
  intro H locs ls hl hH hS
  exact lv_lload_n C.1 C.2.1 hd rfl (vi_lk_at hl hv) (kk H locs ls hl hH hS)
theorem vi_lload (C : vi_C E X y cc nL ret d mc ms lo) {p' : Nat} {q : Nat} {x : Int64} (hd : decode cc pc = .ok (.lload q, 2)) (hp : pc + 2 = p') (hv : vi_lk lv q = some (.long x)) (kk : vi_W E X nL Z p' lv (.long x :: st) S sz k n) : vi_W E X nL Z pc lv (st) S sz k n := by
  subst hp
  intro H locs ls hl hH hS
  exact lv_lload C.1 C.2.1 hd (vi_lk_at hl hv) (kk H locs ls hl hH hS)
theorem vi_aload_n (C : vi_C E X y cc nL ret d mc ms lo) {p' : Nat} {q : Fin 4} {x : Nat} (hd : decode cc pc = .ok (.aload_n q, 1)) (hp : pc + 1 = p') (hv : vi_lk lv q.val = some (.ref x)) (kk : vi_W E X nL Z p' lv (.ref x :: st) S sz k n) : vi_W E X nL Z pc lv (st) S sz k n := by
  subst hp
  intro H locs ls hl hH hS
  exact lv_aload_n C.1 C.2.1 hd rfl (vi_lk_at hl hv) (kk H locs ls hl hH hS)
theorem vi_aload (C : vi_C E X y cc nL ret d mc ms lo) {p' : Nat} {q : Nat} {x : Nat} (hd : decode cc pc = .ok (.aload q, 2)) (hp : pc + 2 = p') (hv : vi_lk lv q = some (.ref x)) (kk : vi_W E X nL Z p' lv (.ref x :: st) S sz k n) : vi_W E X nL Z pc lv (st) S sz k n := by
  subst hp
  intro H locs ls hl hH hS
  exact lv_aload C.1 C.2.1 hd (vi_lk_at hl hv) (kk H locs ls hl hH hS)
theorem vi_istore_n (C : vi_C E X y cc nL ret d mc ms lo) {p' : Nat} {q : Fin 4} {x : Int32} (hd : decode cc pc = .ok (.istore_n q, 1)) (hp : pc + 1 = p') (hn : q.val < nL) (kk : vi_W E X nL Z p' (vi_s1 lv q.val (.int x)) (st) S sz k n) : vi_W E X nL Z pc lv (.int x :: st) S sz k n := by
  subst hp
  intro H locs ls hl hH hS
  exact lv_istore_n C.1 C.2.1 hd rfl hl hn rfl (fun ls hl => kk H locs ls hl hH hS)
theorem vi_istore (C : vi_C E X y cc nL ret d mc ms lo) {p' : Nat} {q : Nat} {x : Int32} (hd : decode cc pc = .ok (.istore q, 2)) (hp : pc + 2 = p') (hn : q < nL) (kk : vi_W E X nL Z p' (vi_s1 lv q (.int x)) (st) S sz k n) : vi_W E X nL Z pc lv (.int x :: st) S sz k n := by
  subst hp
  intro H locs ls hl hH hS
  exact lv_istore C.1 C.2.1 hd hl hn rfl (fun ls hl => kk H locs ls hl hH hS)
theorem vi_lstore_n (C : vi_C E X y cc nL ret d mc ms lo) {p' : Nat} {q : Fin 4} {x : Int64} (hd : decode cc pc = .ok (.lstore_n q, 1)) (hp : pc + 1 = p') (hn : q.val + 1 < nL) (kk : vi_W E X nL Z p' (vi_s2 lv q.val (.long x)) (st) S sz k n) : vi_W E X nL Z pc lv (.long x :: st) S sz k n := by
  subst hp
  intro H locs ls hl hH hS
  exact lv_lstore_n C.1 C.2.1 hd rfl hl hn rfl (fun ls hl => kk H locs ls hl hH hS)
theorem vi_lstore (C : vi_C E X y cc nL ret d mc ms lo) {p' : Nat} {q : Nat} {x : Int64} (hd : decode cc pc = .ok (.lstore q, 2)) (hp : pc + 2 = p') (hn : q + 1 < nL) (kk : vi_W E X nL Z p' (vi_s2 lv q (.long x)) (st) S sz k n) : vi_W E X nL Z pc lv (.long x :: st) S sz k n := by
  subst hp
  intro H locs ls hl hH hS
  exact lv_lstore C.1 C.2.1 hd hl hn rfl (fun ls hl => kk H locs ls hl hH hS)
theorem vi_astore_n (C : vi_C E X y cc nL ret d mc ms lo) {p' : Nat} {q : Fin 4} {x : Nat} (hd : decode cc pc = .ok (.astore_n q, 1)) (hp : pc + 1 = p') (hn : q.val < nL) (kk : vi_W E X nL Z p' (vi_s1 lv q.val (.ref x)) (st) S sz k n) : vi_W E X nL Z pc lv (.ref x :: st) S sz k n := by
  subst hp
  intro H locs ls hl hH hS
  exact lv_astore_n C.1 C.2.1 hd rfl hl hn rfl (fun ls hl => kk H locs ls hl hH hS)
theorem vi_astore (C : vi_C E X y cc nL ret d mc ms lo) {p' : Nat} {q : Nat} {x : Nat} (hd : decode cc pc = .ok (.astore q, 2)) (hp : pc + 2 = p') (hn : q < nL) (kk : vi_W E X nL Z p' (vi_s1 lv q (.ref x)) (st) S sz k n) : vi_W E X nL Z pc lv (.ref x :: st) S sz k n := by
  subst hp
  intro H locs ls hl hH hS
  exact lv_astore C.1 C.2.1 hd hl hn rfl (fun ls hl => kk H locs ls hl hH hS)
theorem vi_iadd (C : vi_C E X y cc nL ret d mc ms lo) {p' : Nat} {x z : Int32} (hd : decode cc pc = .ok (.iadd, 1)) (hp : pc + 1 = p')  (kk : vi_W E X nL Z p' lv (.int (x + z) :: st) S sz k n) : vi_W E X nL Z pc lv (.int z :: .int x :: st) S sz k n := by
  subst hp
  intro H locs ls hl hH hS
  exact lv_iadd C.1 C.2.1 hd (kk H locs ls hl hH hS)
theorem vi_isub (C : vi_C E X y cc nL ret d mc ms lo) {p' : Nat} {x z : Int32} (hd : decode cc pc = .ok (.isub, 1)) (hp : pc + 1 = p')  (kk : vi_W E X nL Z p' lv (.int (x - z) :: st) S sz k n) : vi_W E X nL Z pc lv (.int z :: .int x :: st) S sz k n := by
  subst hp
  intro H locs ls hl hH hS
  exact lv_isub C.1 C.2.1 hd (kk H locs ls hl hH hS)
theorem vi_imul (C : vi_C E X y cc nL ret d mc ms lo) {p' : Nat} {x z : Int32} (hd : decode cc pc = .ok (.imul, 1)) (hp : pc + 1 = p')  (kk : vi_W E X nL Z p' lv (.int (x * z) :: st) S sz k n) : vi_W E X nL Z pc lv (.int z :: .int x :: st) S sz k n := by
  subst hp
  intro H locs ls hl hH hS
  exact lv_imul C.1 C.2.1 hd (kk H locs ls hl hH hS)
theorem vi_iand (C : vi_C E X y cc nL ret d mc ms lo) {p' : Nat} {x z : Int32} (hd : decode cc pc = .ok (.iand, 1)) (hp : pc + 1 = p')  (kk : vi_W E X nL Z p' lv (.int (x &&& z) :: st) S sz k n) : vi_W E X nL Z pc lv (.int z :: .int x :: st) S sz k n := by
  subst hp
  intro H locs ls hl hH hS
  exact lv_iand C.1 C.2.1 hd (kk H locs ls hl hH hS)
theorem vi_ior (C : vi_C E X y cc nL ret d mc ms lo) {p' : Nat} {x z : Int32} (hd : decode cc pc = .ok (.ior, 1)) (hp : pc + 1 = p')  (kk : vi_W E X nL Z p' lv (.int (x ||| z) :: st) S sz k n) : vi_W E X nL Z pc lv (.int z :: .int x :: st) S sz k n := by
  subst hp
  intro H locs ls hl hH hS
  exact lv_ior C.1 C.2.1 hd (kk H locs ls hl hH hS)
theorem vi_ixor (C : vi_C E X y cc nL ret d mc ms lo) {p' : Nat} {x z : Int32} (hd : decode cc pc = .ok (.ixor, 1)) (hp : pc + 1 = p')  (kk : vi_W E X nL Z p' lv (.int (x ^^^ z) :: st) S sz k n) : vi_W E X nL Z pc lv (.int z :: .int x :: st) S sz k n := by
  subst hp
  intro H locs ls hl hH hS
  exact lv_ixor C.1 C.2.1 hd (kk H locs ls hl hH hS)
theorem vi_idiv (C : vi_C E X y cc nL ret d mc ms lo) {p' : Nat} {x z : Int32} (hd : decode cc pc = .ok (.idiv, 1)) (hp : pc + 1 = p') (hz : ¬ z = 0) (kk : vi_W E X nL Z p' lv (.int (x / z) :: st) S sz k n) : vi_W E X nL Z pc lv (.int z :: .int x :: st) S sz k n := by
  subst hp
  intro H locs ls hl hH hS
  exact lv_idiv C.1 C.2.1 hd hz (kk H locs ls hl hH hS)
theorem vi_irem (C : vi_C E X y cc nL ret d mc ms lo) {p' : Nat} {x z : Int32} (hd : decode cc pc = .ok (.irem, 1)) (hp : pc + 1 = p') (hz : ¬ z = 0) (kk : vi_W E X nL Z p' lv (.int (x - x / z * z) :: st) S sz k n) : vi_W E X nL Z pc lv (.int z :: .int x :: st) S sz k n := by
  subst hp
  intro H locs ls hl hH hS
  exact lv_irem C.1 C.2.1 hd hz (kk H locs ls hl hH hS)
theorem vi_ishl (C : vi_C E X y cc nL ret d mc ms lo) {p' : Nat} {x z : Int32} (hd : decode cc pc = .ok (.ishl, 1)) (hp : pc + 1 = p')  (kk : vi_W E X nL Z p' lv (.int (x <<< (z &&& 31)) :: st) S sz k n) : vi_W E X nL Z pc lv (.int z :: .int x :: st) S sz k n := by
  subst hp
  intro H locs ls hl hH hS
  exact lv_ishl C.1 C.2.1 hd (kk H locs ls hl hH hS)
theorem vi_ishr (C : vi_C E X y cc nL ret d mc ms lo) {p' : Nat} {x z : Int32} (hd : decode cc pc = .ok (.ishr, 1)) (hp : pc + 1 = p')  (kk : vi_W E X nL Z p' lv (.int (x >>> (z &&& 31)) :: st) S sz k n) : vi_W E X nL Z pc lv (.int z :: .int x :: st) S sz k n := by
  subst hp
  intro H locs ls hl hH hS
  exact lv_ishr C.1 C.2.1 hd (kk H locs ls hl hH hS)
theorem vi_iushr (C : vi_C E X y cc nL ret d mc ms lo) {p' : Nat} {x z : Int32} (hd : decode cc pc = .ok (.iushr, 1)) (hp : pc + 1 = p')  (kk : vi_W E X nL Z p' lv (.int (x.toUInt32 >>> (z.toUInt32 &&& Int32.toUInt32 31)).toInt32 :: st) S sz k n) : vi_W E X nL Z pc lv (.int z :: .int x :: st) S sz k n := by
  subst hp
  intro H locs ls hl hH hS
  exact lv_iushr C.1 C.2.1 hd rfl (kk H locs ls hl hH hS)
theorem vi_land (C : vi_C E X y cc nL ret d mc ms lo) {p' : Nat} {x z : Int64} (hd : decode cc pc = .ok (.land, 1)) (hp : pc + 1 = p')  (kk : vi_W E X nL Z p' lv (.long (x &&& z) :: st) S sz k n) : vi_W E X nL Z pc lv (.long z :: .long x :: st) S sz k n := by
  subst hp
  intro H locs ls hl hH hS
  exact lv_land C.1 C.2.1 hd (kk H locs ls hl hH hS)
theorem vi_lor (C : vi_C E X y cc nL ret d mc ms lo) {p' : Nat} {x z : Int64} (hd : decode cc pc = .ok (.lor, 1)) (hp : pc + 1 = p')  (kk : vi_W E X nL Z p' lv (.long (x ||| z) :: st) S sz k n) : vi_W E X nL Z pc lv (.long z :: .long x :: st) S sz k n := by
  subst hp
  intro H locs ls hl hH hS
  exact lv_lor C.1 C.2.1 hd (kk H locs ls hl hH hS)
theorem vi_lxor (C : vi_C E X y cc nL ret d mc ms lo) {p' : Nat} {x z : Int64} (hd : decode cc pc = .ok (.lxor, 1)) (hp : pc + 1 = p')  (kk : vi_W E X nL Z p' lv (.long (x ^^^ z) :: st) S sz k n) : vi_W E X nL Z pc lv (.long z :: .long x :: st) S sz k n := by
  subst hp
  intro H locs ls hl hH hS
  exact lv_lxor C.1 C.2.1 hd (kk H locs ls hl hH hS)
theorem vi_lshl (C : vi_C E X y cc nL ret d mc ms lo) {p' : Nat} {x : Int64} {z : Int32} (hd : decode cc pc = .ok (.lshl, 1)) (hp : pc + 1 = p')  (kk : vi_W E X nL Z p' lv (.long (x <<< (z.toInt64 &&& 63)) :: st) S sz k n) : vi_W E X nL Z pc lv (.int z :: .long x :: st) S sz k n := by
  subst hp
  intro H locs ls hl hH hS
  exact lv_lshl C.1 C.2.1 hd rfl (kk H locs ls hl hH hS)
theorem vi_lushr (C : vi_C E X y cc nL ret d mc ms lo) {p' : Nat} {x : Int64} {z : Int32} (hd : decode cc pc = .ok (.lushr, 1)) (hp : pc + 1 = p')  (kk : vi_W E X nL Z p' lv (.long (x.toUInt64 >>> (z.toInt64.toUInt64 &&& Int64.toUInt64 63)).toInt64 :: st) S sz k n) : vi_W E X nL Z pc lv (.int z :: .long x :: st) S sz k n := by
  subst hp
  intro H locs ls hl hH hS
  exact lv_lushr C.1 C.2.1 hd rfl (kk H locs ls hl hH hS)
theorem vi_i2l (C : vi_C E X y cc nL ret d mc ms lo) {p' : Nat} {x : Int32} (hd : decode cc pc = .ok (.i2l, 1)) (hp : pc + 1 = p')  (kk : vi_W E X nL Z p' lv (.long x.toInt64 :: st) S sz k n) : vi_W E X nL Z pc lv (.int x :: st) S sz k n := by
  subst hp
  intro H locs ls hl hH hS
  exact lv_i2l C.1 C.2.1 hd rfl (kk H locs ls hl hH hS)
theorem vi_l2i (C : vi_C E X y cc nL ret d mc ms lo) {p' : Nat} {x : Int64} (hd : decode cc pc = .ok (.l2i, 1)) (hp : pc + 1 = p')  (kk : vi_W E X nL Z p' lv (.int x.toInt32 :: st) S sz k n) : vi_W E X nL Z pc lv (.long x :: st) S sz k n := by
  subst hp
  intro H locs ls hl hH hS
  exact lv_l2i C.1 C.2.1 hd rfl (kk H locs ls hl hH hS)
theorem vi_i2b (C : vi_C E X y cc nL ret d mc ms lo) {p' : Nat} {x : Int32} (hd : decode cc pc = .ok (.i2b, 1)) (hp : pc + 1 = p')  (kk : vi_W E X nL Z p' lv (.int x.toInt8.toInt32 :: st) S sz k n) : vi_W E X nL Z pc lv (.int x :: st) S sz k n := by
  subst hp
  intro H locs ls hl hH hS
  exact lv_i2b C.1 C.2.1 hd rfl (kk H locs ls hl hH hS)
theorem vi_dup (C : vi_C E X y cc nL ret d mc ms lo) {p' : Nat} {v : Value} (hd : decode cc pc = .ok (.dup, 1)) (hp : pc + 1 = p') (hc : v.category = 1) (kk : vi_W E X nL Z p' lv (v :: v :: st) S sz k n) : vi_W E X nL Z pc lv (v :: st) S sz k n := by
  subst hp
  intro H locs ls hl hH hS
  exact lv_dup C.1 C.2.1 hd hc (kk H locs ls hl hH hS)
theorem vi_pop (C : vi_C E X y cc nL ret d mc ms lo) {p' : Nat} {v : Value} (hd : decode cc pc = .ok (.pop, 1)) (hp : pc + 1 = p') (hc : v.category = 1) (kk : vi_W E X nL Z p' lv (st) S sz k n) : vi_W E X nL Z pc lv (v :: st) S sz k n := by
  subst hp
  intro H locs ls hl hH hS
  exact lv_pop C.1 C.2.1 hd hc (kk H locs ls hl hH hS)
theorem vi_dup2 (C : vi_C E X y cc nL ret d mc ms lo) {p' : Nat} {v u : Value} (hd : decode cc pc = .ok (.dup2, 1)) (hp : pc + 1 = p') (hc : v.category = 1) (hc2 : u.category = 1) (kk : vi_W E X nL Z p' lv (v :: u :: v :: u :: st) S sz k n) : vi_W E X nL Z pc lv (v :: u :: st) S sz k n := by
  subst hp
  intro H locs ls hl hH hS
  exact lv_dup2_11 C.1 C.2.1 hd hc hc2 (kk H locs ls hl hH hS)
theorem vi_dup_x1 (C : vi_C E X y cc nL ret d mc ms lo) {p' : Nat} {v u : Value} (hd : decode cc pc = .ok (.dup_x1, 1)) (hp : pc + 1 = p') (hc : v.category = 1) (hc2 : u.category = 1) (kk : vi_W E X nL Z p' lv (v :: u :: v :: st) S sz k n) : vi_W E X nL Z pc lv (v :: u :: st) S sz k n := by
  subst hp
  intro H locs ls hl hH hS
  exact lv_dup_x1 C.1 C.2.1 hd hc hc2 (kk H locs ls hl hH hS)
theorem vi_iinc (C : vi_C E X y cc nL ret d mc ms lo) {p' : Nat} {q : Nat} {i : Int} {x : Int32} (hd : decode cc pc = .ok (.iinc q i, 3)) (hp : pc + 3 = p') (hv : vi_lk lv q = some (.int x)) (hn : q < nL) (kk : vi_W E X nL Z p' (vi_s1 lv q (.int (x + Int32.ofInt i))) st S sz k n) : vi_W E X nL Z pc lv st S sz k n := by
  subst hp
  intro H locs ls hl hH hS
  have hm : lv_has ls nL ((q, .int x) :: lv) := ⟨hl.1, hl.2.1, fun z hz => (List.mem_cons.mp hz).elim (fun e => by rw [e]; exact vi_lk_at hl hv) (hl.2.2 z)⟩
  refine lv_iinc (k := 0) (lv' := vi_s1 ((q, .int x) :: lv) q (.int (x + Int32.ofInt i))) C.1 C.2.1 hd hm rfl rfl hn rfl (fun ls hl => kk H locs ls ⟨hl.1, hl.2.1, fun z hz => hl.2.2 z ?_⟩ hH hS)
  rcases List.mem_cons.mp hz with e | e
  · exact List.mem_cons.mpr (Or.inl e)
  · refine List.mem_cons.mpr (Or.inr ?_)
    have e2 := List.mem_filter.mp e
    exact List.mem_filter.mpr ⟨List.mem_cons_of_mem _ e2.1, e2.2⟩
theorem vi_if_eq (C : vi_C E X y cc nL ret d mc ms lo) {p' t' : Nat} {off : Int} {x : Int32} (hd : decode cc pc = .ok (.ifCond .eq off, 3)) (hp : pc + 3 = p') (ht : (pc : Int) + off = (t' : Int)) (kt : x = 0 → vi_W E X nL Z t' lv st S sz k n) (kf : ¬ x = 0 → vi_W E X nL Z p' lv st S sz k n) : vi_W E X nL Z pc lv (.int x :: st) S sz k n := by
  subst hp
  intro H locs ls hl hH hS
  exact lv_if_eq C.1 C.2.1 hd ht (fun h => kt h H locs ls hl hH hS) (fun h => kf h H locs ls hl hH hS)
theorem vi_icmp_eq (C : vi_C E X y cc nL ret d mc ms lo) {p' t' : Nat} {off : Int} {x z : Int32} (hd : decode cc pc = .ok (.if_icmp .eq off, 3)) (hp : pc + 3 = p') (ht : (pc : Int) + off = (t' : Int)) (kt : x = z → vi_W E X nL Z t' lv st S sz k n) (kf : ¬ x = z → vi_W E X nL Z p' lv st S sz k n) : vi_W E X nL Z pc lv (.int z :: .int x :: st) S sz k n := by
  subst hp
  intro H locs ls hl hH hS
  exact lv_icmp_eq C.1 C.2.1 hd ht (fun h => kt h H locs ls hl hH hS) (fun h => kf h H locs ls hl hH hS)
theorem vi_if_ne (C : vi_C E X y cc nL ret d mc ms lo) {p' t' : Nat} {off : Int} {x : Int32} (hd : decode cc pc = .ok (.ifCond .ne off, 3)) (hp : pc + 3 = p') (ht : (pc : Int) + off = (t' : Int)) (kt : ¬ x = 0 → vi_W E X nL Z t' lv st S sz k n) (kf : x = 0 → vi_W E X nL Z p' lv st S sz k n) : vi_W E X nL Z pc lv (.int x :: st) S sz k n := by
  subst hp
  intro H locs ls hl hH hS
  exact lv_if_ne C.1 C.2.1 hd ht (fun h => kt h H locs ls hl hH hS) (fun h => kf h H locs ls hl hH hS)
theorem vi_icmp_ne (C : vi_C E X y cc nL ret d mc ms lo) {p' t' : Nat} {off : Int} {x z : Int32} (hd : decode cc pc = .ok (.if_icmp .ne off, 3)) (hp : pc + 3 = p') (ht : (pc : Int) + off = (t' : Int)) (kt : ¬ x = z → vi_W E X nL Z t' lv st S sz k n) (kf : x = z → vi_W E X nL Z p' lv st S sz k n) : vi_W E X nL Z pc lv (.int z :: .int x :: st) S sz k n := by
  subst hp
  intro H locs ls hl hH hS
  exact lv_icmp_ne C.1 C.2.1 hd ht (fun h => kt h H locs ls hl hH hS) (fun h => kf h H locs ls hl hH hS)
theorem vi_if_lt (C : vi_C E X y cc nL ret d mc ms lo) {p' t' : Nat} {off : Int} {x : Int32} (hd : decode cc pc = .ok (.ifCond .lt off, 3)) (hp : pc + 3 = p') (ht : (pc : Int) + off = (t' : Int)) (kt : x < 0 → vi_W E X nL Z t' lv st S sz k n) (kf : ¬ x < 0 → vi_W E X nL Z p' lv st S sz k n) : vi_W E X nL Z pc lv (.int x :: st) S sz k n := by
  subst hp
  intro H locs ls hl hH hS
  exact lv_if_lt C.1 C.2.1 hd ht (fun h => kt h H locs ls hl hH hS) (fun h => kf h H locs ls hl hH hS)
theorem vi_icmp_lt (C : vi_C E X y cc nL ret d mc ms lo) {p' t' : Nat} {off : Int} {x z : Int32} (hd : decode cc pc = .ok (.if_icmp .lt off, 3)) (hp : pc + 3 = p') (ht : (pc : Int) + off = (t' : Int)) (kt : x < z → vi_W E X nL Z t' lv st S sz k n) (kf : ¬ x < z → vi_W E X nL Z p' lv st S sz k n) : vi_W E X nL Z pc lv (.int z :: .int x :: st) S sz k n := by
  subst hp
  intro H locs ls hl hH hS
  exact lv_icmp_lt C.1 C.2.1 hd ht (fun h => kt h H locs ls hl hH hS) (fun h => kf h H locs ls hl hH hS)
theorem vi_if_ge (C : vi_C E X y cc nL ret d mc ms lo) {p' t' : Nat} {off : Int} {x : Int32} (hd : decode cc pc = .ok (.ifCond .ge off, 3)) (hp : pc + 3 = p') (ht : (pc : Int) + off = (t' : Int)) (kt : 0 ≤ x → vi_W E X nL Z t' lv st S sz k n) (kf : ¬ 0 ≤ x → vi_W E X nL Z p' lv st S sz k n) : vi_W E X nL Z pc lv (.int x :: st) S sz k n := by
  subst hp
  intro H locs ls hl hH hS
  exact lv_if_ge C.1 C.2.1 hd ht (fun h => kt h H locs ls hl hH hS) (fun h => kf h H locs ls hl hH hS)
theorem vi_icmp_ge (C : vi_C E X y cc nL ret d mc ms lo) {p' t' : Nat} {off : Int} {x z : Int32} (hd : decode cc pc = .ok (.if_icmp .ge off, 3)) (hp : pc + 3 = p') (ht : (pc : Int) + off = (t' : Int)) (kt : z ≤ x → vi_W E X nL Z t' lv st S sz k n) (kf : ¬ z ≤ x → vi_W E X nL Z p' lv st S sz k n) : vi_W E X nL Z pc lv (.int z :: .int x :: st) S sz k n := by
  subst hp
  intro H locs ls hl hH hS
  exact lv_icmp_ge C.1 C.2.1 hd ht (fun h => kt h H locs ls hl hH hS) (fun h => kf h H locs ls hl hH hS)
theorem vi_if_gt (C : vi_C E X y cc nL ret d mc ms lo) {p' t' : Nat} {off : Int} {x : Int32} (hd : decode cc pc = .ok (.ifCond .gt off, 3)) (hp : pc + 3 = p') (ht : (pc : Int) + off = (t' : Int)) (kt : 0 < x → vi_W E X nL Z t' lv st S sz k n) (kf : ¬ 0 < x → vi_W E X nL Z p' lv st S sz k n) : vi_W E X nL Z pc lv (.int x :: st) S sz k n := by
  subst hp
  intro H locs ls hl hH hS
  exact lv_if_gt C.1 C.2.1 hd ht (fun h => kt h H locs ls hl hH hS) (fun h => kf h H locs ls hl hH hS)
theorem vi_icmp_gt (C : vi_C E X y cc nL ret d mc ms lo) {p' t' : Nat} {off : Int} {x z : Int32} (hd : decode cc pc = .ok (.if_icmp .gt off, 3)) (hp : pc + 3 = p') (ht : (pc : Int) + off = (t' : Int)) (kt : z < x → vi_W E X nL Z t' lv st S sz k n) (kf : ¬ z < x → vi_W E X nL Z p' lv st S sz k n) : vi_W E X nL Z pc lv (.int z :: .int x :: st) S sz k n := by
  subst hp
  intro H locs ls hl hH hS
  exact lv_icmp_gt C.1 C.2.1 hd ht (fun h => kt h H locs ls hl hH hS) (fun h => kf h H locs ls hl hH hS)
theorem vi_if_le (C : vi_C E X y cc nL ret d mc ms lo) {p' t' : Nat} {off : Int} {x : Int32} (hd : decode cc pc = .ok (.ifCond .le off, 3)) (hp : pc + 3 = p') (ht : (pc : Int) + off = (t' : Int)) (kt : x ≤ 0 → vi_W E X nL Z t' lv st S sz k n) (kf : ¬ x ≤ 0 → vi_W E X nL Z p' lv st S sz k n) : vi_W E X nL Z pc lv (.int x :: st) S sz k n := by
  subst hp
  intro H locs ls hl hH hS
  exact lv_if_le C.1 C.2.1 hd ht (fun h => kt h H locs ls hl hH hS) (fun h => kf h H locs ls hl hH hS)
theorem vi_icmp_le (C : vi_C E X y cc nL ret d mc ms lo) {p' t' : Nat} {off : Int} {x z : Int32} (hd : decode cc pc = .ok (.if_icmp .le off, 3)) (hp : pc + 3 = p') (ht : (pc : Int) + off = (t' : Int)) (kt : x ≤ z → vi_W E X nL Z t' lv st S sz k n) (kf : ¬ x ≤ z → vi_W E X nL Z p' lv st S sz k n) : vi_W E X nL Z pc lv (.int z :: .int x :: st) S sz k n := by
  subst hp
  intro H locs ls hl hH hS
  exact lv_icmp_le C.1 C.2.1 hd ht (fun h => kt h H locs ls hl hH hS) (fun h => kf h H locs ls hl hH hS)
theorem vi_goto (C : vi_C E X y cc nL ret d mc ms lo) {t' : Nat} {off : Int} (hd : decode cc pc = .ok (.goto off, 3)) (ht : (pc : Int) + off = (t' : Int)) (kk : vi_W E X nL Z t' lv st S sz k n) : vi_W E X nL Z pc lv st S sz k n := by
  intro H locs ls hl hH hS
  exact lv_goto C.1 C.2.1 hd ht (kk H locs ls hl hH hS)
theorem vi_tabIn (C : vi_C E X y cc nL ret d mc ms lo) {t' len : Nat} {dflt a b off : Int} {offs : Array Int} {x : Int32} (hd : decode cc pc = .ok (.tableswitch dflt a b offs, len)) (h1 : ¬ x.toInt < a) (h2 : ¬ b < x.toInt) (ho : offs[(x.toInt - a).toNat]? = some off) (ht : (pc : Int) + off = (t' : Int)) (kk : vi_W E X nL Z t' lv st S sz k n) : vi_W E X nL Z pc lv (.int x :: st) S sz k n := by
  intro H locs ls hl hH hS
  exact lv_tableIn C.1 C.2.1 hd h1 h2 ho ht (kk H locs ls hl hH hS)
theorem vi_tabOut (C : vi_C E X y cc nL ret d mc ms lo) {t' len : Nat} {dflt a b : Int} {offs : Array Int} {x : Int32} (hd : decode cc pc = .ok (.tableswitch dflt a b offs, len)) (h : x.toInt < a ∨ b < x.toInt) (ht : (pc : Int) + dflt = (t' : Int)) (kk : vi_W E X nL Z t' lv st S sz k n) : vi_W E X nL Z pc lv (.int x :: st) S sz k n := by
  intro H locs ls hl hH hS
  exact lv_tableOut C.1 C.2.1 hd h ht (kk H locs ls hl hH hS)
theorem vi_widen {k' n' : Nat} (h1 : k ≤ k') (h2 : n ≤ n') (kk : vi_W E X nL Z pc lv st S sz k' n') : vi_W E X nL Z pc lv st S sz k n := fun H locs ls hl hH hS => W.widen h1 h2 (kk H locs ls hl hH hS)
theorem vi_sub {lv' : List (Nat × Value)} (h : ∀ q ∈ lv', q ∈ lv) (kk : vi_W E X nL Z pc lv' st S sz k n) : vi_W E X nL Z pc lv st S sz k n := fun H locs ls hl hH hS => kk H locs ls ⟨hl.1, hl.2.1, fun q hq => hl.2.2 q (h q hq)⟩ hH hS
end VIR
