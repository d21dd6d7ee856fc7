/-! ===== the maps behind each write and each new cell, as rewriting rows ===== -/
theorem qK_sI (S : vS) (i a : Nat) (v : Int32) (b : Nat) : vK (sI S i a v) b = vK S b := id rfl
theorem qK_sP (S : vS) (i a : Nat) (v : Option Nat) (b : Nat) : vK (sP S i a v) b = vK S b := id rfl
theorem qK_sR (S : vS) (a i : Nat) (v : Int32) (b : Nat) : vK (sR S a i v) b = vK S b := id rfl
theorem qK_sJ (S : vS) (a i : Nat) (v : Int64) (b : Nat) : vK (sJ S a i v) b = vK S b := id rfl
theorem qK_sQ (S : vS) (a i : Nat) (v : Option Nat) (b : Nat) : vK (sQ S a i v) b = vK S b := id rfl
theorem qK_nO_s (S : vS) (a k : Nat) : vK (nO S a k) a = k + 1 := va_up_self _ _ _
theorem qK_nO_a (S : vS) (a k : Nat) (b : Nat) (h : b ≠ a) : vK (nO S a k) b = vK S b := va_up_ne _ _ h
theorem qK_nA_s (S : vS) (a k n : Nat) : vK (nA S a k n) a = k := va_up_self _ _ _
theorem qK_nA_a (S : vS) (a k n : Nat) (b : Nat) (h : b ≠ a) : vK (nA S a k n) b = vK S b := va_up_ne _ _ h
theorem qN_sI (S : vS) (i a : Nat) (v : Int32) (b : Nat) : vN (sI S i a v) b = vN S b := id rfl
theorem qN_sP (S : vS) (i a : Nat) (v : Option Nat) (b : Nat) : vN (sP S i a v) b = vN S b := id rfl
theorem qN_sR (S : vS) (a i : Nat) (v : Int32) (b : Nat) : vN (sR S a i v) b = vN S b := id rfl
theorem qN_sJ (S : vS) (a i : Nat) (v : Int64) (b : Nat) : vN (sJ S a i v) b = vN S b := id rfl
theorem qN_sQ (S : vS) (a i : Nat) (v : Option Nat) (b : Nat) : vN (sQ S a i v) b = vN S b := id rfl
theorem qN_nO (S : vS) (a k : Nat) (b : Nat) : vN (nO S a k) b = vN S b := id rfl
theorem qN_nA_s (S : vS) (a k n : Nat) : vN (nA S a k n) a = n := va_up_self _ _ _
theorem qN_nA_a (S : vS) (a k n : Nat) (b : Nat) (h : b ≠ a) : vN (nA S a k n) b = vN S b := va_up_ne _ _ h
theorem qI_sI_s (S : vS) (i a : Nat) (v : Int32) : vI (sI S i a v) i a = v := vi_u2s _ _ _ _
theorem qI_sI_i (S : vS) (i a : Nat) (v : Int32) (j b : Nat) (h : j ≠ i) : vI (sI S i a v) j b = vI S j b := vi_u2i _ _ h
theorem qI_sI_a (S : vS) (i a : Nat) (v : Int32) (j b : Nat) (h : b ≠ a) : vI (sI S i a v) j b = vI S j b := vi_u2a _ _ h
theorem qI_sP (S : vS) (i a : Nat) (v : Option Nat) (j b : Nat) : vI (sP S i a v) j b = vI S j b := id rfl
theorem qI_sR (S : vS) (a i : Nat) (v : Int32) (j b : Nat) : vI (sR S a i v) j b = vI S j b := id rfl
theorem qI_sJ (S : vS) (a i : Nat) (v : Int64) (j b : Nat) : vI (sJ S a i v) j b = vI S j b := id rfl
theorem qI_sQ (S : vS) (a i : Nat) (v : Option Nat) (j b : Nat) : vI (sQ S a i v) j b = vI S j b := id rfl
theorem qI_nO_s (S : vS) (a k : Nat) (j : Nat) : vI (nO S a k) j a = 0 := if_pos rfl
theorem qI_nO_a (S : vS) (a k : Nat) (j b : Nat) (h : b ≠ a) : vI (nO S a k) j b = vI S j b := if_neg h
theorem qI_nA (S : vS) (a k n : Nat) (j b : Nat) : vI (nA S a k n) j b = vI S j b := id rfl
theorem qP_sI (S : vS) (i a : Nat) (v : Int32) (j b : Nat) : vP (sI S i a v) j b = vP S j b := id rfl
theorem qP_sP_s (S : vS) (i a : Nat) (v : Option Nat) : vP (sP S i a v) i a = v := vi_u2s _ _ _ _
theorem qP_sP_i (S : vS) (i a : Nat) (v : Option Nat) (j b : Nat) (h : j ≠ i) : vP (sP S i a v) j b = vP S j b := vi_u2i _ _ h
theorem qP_sP_a (S : vS) (i a : Nat) (v : Option Nat) (j b : Nat) (h : b ≠ a) : vP (sP S i a v) j b = vP S j b := vi_u2a _ _ h
theorem qP_sR (S : vS) (a i : Nat) (v : Int32) (j b : Nat) : vP (sR S a i v) j b = vP S j b := id rfl
theorem qP_sJ (S : vS) (a i : Nat) (v : Int64) (j b : Nat) : vP (sJ S a i v) j b = vP S j b := id rfl
theorem qP_sQ (S : vS) (a i : Nat) (v : Option Nat) (j b : Nat) : vP (sQ S a i v) j b = vP S j b := id rfl
theorem qP_nO_s (S : vS) (a k : Nat) (j : Nat) : vP (nO S a k) j a = none := if_pos rfl
theorem qP_nO_a (S : vS) (a k : Nat) (j b : Nat) (h : b ≠ a) : vP (nO S a k) j b = vP S j b := if_neg h
theorem qP_nA (S : vS) (a k n : Nat) (j b : Nat) : vP (nA S a k n) j b = vP S j b := id rfl
theorem qR_sI (S : vS) (i a : Nat) (v : Int32) (b j : Nat) : vR (sI S i a v) b j = vR S b j := id rfl
theorem qR_sP (S : vS) (i a : Nat) (v : Option Nat) (b j : Nat) : vR (sP S i a v) b j = vR S b j := id rfl
theorem qR_sR_s (S : vS) (a i : Nat) (v : Int32) : vR (sR S a i v) a i = v := vi_u2s _ _ _ _
theorem qR_sR_i (S : vS) (a i : Nat) (v : Int32) (b j : Nat) (h : j ≠ i) : vR (sR S a i v) b j = vR S b j := vi_u2a _ _ h
theorem qR_sR_a (S : vS) (a i : Nat) (v : Int32) (b j : Nat) (h : b ≠ a) : vR (sR S a i v) b j = vR S b j := vi_u2i _ _ h
theorem qR_sJ (S : vS) (a i : Nat) (v : Int64) (b j : Nat) : vR (sJ S a i v) b j = vR S b j := id rfl
theorem qR_sQ (S : vS) (a i : Nat) (v : Option Nat) (b j : Nat) : vR (sQ S a i v) b j = vR S b j := id rfl
theorem qR_nO (S : vS) (a k : Nat) (b j : Nat) : vR (nO S a k) b j = vR S b j := id rfl
theorem qR_nA_s (S : vS) (a k n : Nat) (j : Nat) : vR (nA S a k n) a j = 0 := congrFun (va_up_self _ _ _) j
theorem qR_nA_a (S : vS) (a k n : Nat) (b j : Nat) (h : b ≠ a) : vR (nA S a k n) b j = vR S b j := congrFun (va_up_ne _ _ h) j
theorem qJ_sI (S : vS) (i a : Nat) (v : Int32) (b j : Nat) : vJ (sI S i a v) b j = vJ S b j := id rfl
theorem qJ_sP (S : vS) (i a : Nat) (v : Option Nat) (b j : Nat) : vJ (sP S i a v) b j = vJ S b j := id rfl
theorem qJ_sR (S : vS) (a i : Nat) (v : Int32) (b j : Nat) : vJ (sR S a i v) b j = vJ S b j := id rfl
theorem qJ_sJ_s (S : vS) (a i : Nat) (v : Int64) : vJ (sJ S a i v) a i = v := vi_u2s _ _ _ _
theorem qJ_sJ_i (S : vS) (a i : Nat) (v : Int64) (b j : Nat) (h : j ≠ i) : vJ (sJ S a i v) b j = vJ S b j := vi_u2a _ _ h
theorem qJ_sJ_a (S : vS) (a i : Nat) (v : Int64) (b j : Nat) (h : b ≠ a) : vJ (sJ S a i v) b j = vJ S b j := vi_u2i _ _ h
theorem qJ_sQ (S : vS) (a i : Nat) (v : Option Nat) (b j : Nat) : vJ (sQ S a i v) b j = vJ S b j := id rfl
theorem qJ_nO (S : vS) (a k : Nat) (b j : Nat) : vJ (nO S a k) b j = vJ S b j := id rfl
theorem qJ_nA_s (S : vS) (a k n : Nat) (j : Nat) : vJ (nA S a k n) a j = 0 := congrFun (va_up_self _ _ _) j
theorem qJ_nA_a (S : vS) (a k n : Nat) (b j : Nat) (h : b ≠ a) : vJ (nA S a k n) b j = vJ S b j := congrFun (va_up_ne _ _ h) j
theorem qQ_sI (S : vS) (i a : Nat) (v : Int32) (b j : Nat) : vQ (sI S i a v) b j = vQ S b j := id rfl
theorem qQ_sP (S : vS) (i a : Nat) (v : Option Nat) (b j : Nat) : vQ (sP S i a v) b j = vQ S b j := id rfl
theorem qQ_sR (S : vS) (a i : Nat) (v : Int32) (b j : Nat) : vQ (sR S a i v) b j = vQ S b j := id rfl
theorem qQ_sJ (S : vS) (a i : Nat) (v : Int64) (b j : Nat) : vQ (sJ S a i v) b j = vQ S b j := id rfl
theorem qQ_sQ_s (S : vS) (a i : Nat) (v : Option Nat) : vQ (sQ S a i v) a i = v := vi_u2s _ _ _ _
theorem qQ_sQ_i (S : vS) (a i : Nat) (v : Option Nat) (b j : Nat) (h : j ≠ i) : vQ (sQ S a i v) b j = vQ S b j := vi_u2a _ _ h
theorem qQ_sQ_a (S : vS) (a i : Nat) (v : Option Nat) (b j : Nat) (h : b ≠ a) : vQ (sQ S a i v) b j = vQ S b j := vi_u2i _ _ h
theorem qQ_nO (S : vS) (a k : Nat) (b j : Nat) : vQ (nO S a k) b j = vQ S b j := id rfl
theorem qQ_nA_s (S : vS) (a k n : Nat) (j : Nat) : vQ (nA S a k n) a j = none := congrFun (va_up_self _ _ _) j
theorem qQ_nA_a (S : vS) (a k n : Nat) (b j : Nat) (h : b ≠ a) : vQ (nA S a k n) b j = vQ S b j := congrFun (va_up_ne _ _ h) j
/-- the listed locals are held -/
def vi_al (lv : List (Nat × Value)) : List (Nat × Value) → Prop
  | [] => True
  | q :: l => vi_lk lv q.1 = some q.2 ∧ vi_al lv l
theorem vi_al_mem {lv lv' : List (Nat × Value)} (h : vi_al lv lv') : ∀ q ∈ lv', q ∈ lv := by
  induction lv' with
  | nil => intro q hq; cases hq
  | cons a l ih =>
    intro q hq
    rcases List.mem_cons.mp hq with rfl | hq
    · exact vi_lkm h.1
    · exact ih h.2 q hq
theorem vi_cut {E : vE} {X : vX} {nL : Nat} {Z : State → Prop} {pc : Nat} {lv : List (Nat × Value)} {st : List Value} {S : vS} {sz k n : Nat} (lv' : List (Nat × Value)) (h : vi_al lv lv') (kk : vi_W E X nL Z pc lv' st S sz k n) : vi_W E X nL Z pc lv st S sz k n := vi_sub (vi_al_mem h) kk

