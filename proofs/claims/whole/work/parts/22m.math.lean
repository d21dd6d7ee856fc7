/-! ===== Math.max, Math.min ===== -/
def mxI (x y : Int32) : Int32 := if x < y then y else x
def mnI (x y : Int32) : Int32 := if y < x then y else x
theorem cJ_max : cJ9_max_7cf53 = Lib.Math.max.code := by decide +kernel
theorem cJ_min : cJ9_min_7cf53 = Lib.Math.min.code := by decide +kernel
section VIMM
variable {E : vE} {X : vX} {y : MethodName} {cc : ByteArray} {nL : Nat} {ret : Option FieldType} {d mc ms lo : Nat} {Z : State → Prop} {pc : Nat} {lv : List (Nat × Value)} {st : List Value} {S : vS} {sz k n : Nat}
theorem vi_mmax (C : vi_C E X y cc nL ret d mc ms lo) {p' idx : Nat} {a b : Int32} (hd : decode cc pc = .ok (.invokestatic idx, 3)) (hp : pc + 3 = p') (hi : vi_Iv y.cls idx yJ9_max_7cf53 cJ9_max_7cf53 2 (some .int) 2) (hw : Cond.methodLink y.cls idx yJ9_max_7cf53 ∈ vi_tb) (hdp : 1 ≤ d) (hlo : (st.map fun v => v.category).sum + 13 ≤ lo) (hk : k ≤ mc) (hn : n ≤ ms) (kk : vi_W E X nL Z p' lv (.int (mxI a b) :: st) S sz k n) : vi_W E X nL Z pc lv (.int b :: .int a :: st) S sz k n := by
  subst hp
  intro H locs ls hl hH hS
  have hR := C.2.2.2.2.2.2.2.2.2.2.2
  exact va_mmax C.1 C.2.1 (C.2.2.1.trans hl.1.symm) C.2.2.2.2.2.1 (C.2.2.2.2.2.2.2.1 _ hw) (C.2.2.2.2.2.2.2.1 _ isJ9_max_7cf53) (C.2.2.2.2.2.2.2.1 _ inJ9) (by rw [← cJ_max]; exact C.2.2.2.2.2.2.2.1 _ coJ9_max_7cf53) (by rw [hR]; exact hdp) (by rw [hR]; exact hlo) (by rw [hR]; exact hk) (by rw [hR]; exact hn) hd (kk H locs ls hl hH hS)
theorem vi_mmin (C : vi_C E X y cc nL ret d mc ms lo) {p' idx : Nat} {a b : Int32} (hd : decode cc pc = .ok (.invokestatic idx, 3)) (hp : pc + 3 = p') (hi : vi_Iv y.cls idx yJ9_min_7cf53 cJ9_min_7cf53 2 (some .int) 2) (hw : Cond.methodLink y.cls idx yJ9_min_7cf53 ∈ vi_tb) (hdp : 1 ≤ d) (hlo : (st.map fun v => v.category).sum + 13 ≤ lo) (hk : k ≤ mc) (hn : n ≤ ms) (kk : vi_W E X nL Z p' lv (.int (mnI a b) :: st) S sz k n) : vi_W E X nL Z pc lv (.int b :: .int a :: st) S sz k n := by
  subst hp
  intro H locs ls hl hH hS
  have hR := C.2.2.2.2.2.2.2.2.2.2.2
  exact va_mmin C.1 C.2.1 (C.2.2.1.trans hl.1.symm) C.2.2.2.2.2.1 (C.2.2.2.2.2.2.2.1 _ hw) (C.2.2.2.2.2.2.2.1 _ isJ9_min_7cf53) (C.2.2.2.2.2.2.2.1 _ inJ9) (by rw [← cJ_min]; exact C.2.2.2.2.2.2.2.1 _ coJ9_min_7cf53) (by rw [hR]; exact hdp) (by rw [hR]; exact hlo) (by rw [hR]; exact hk) (by rw [hR]; exact hn) hd (kk H locs ls hl hH hS)
end VIMM
theorem vi_Iv.link {own : String} {idx : Nat} {y : MethodName} {cc : ByteArray} {nL : Nat} {ret : Option FieldType} {n : Nat} (h : vi_Iv own idx y cc nL ret n) (hn : ∀ host, Cond.methodLinkNest own idx y host ∉ vi_nt) : Cond.methodLink own idx y ∈ vi_tb := h.2.2.2.elim id (fun q => absurd q.choose_spec (hn _))
