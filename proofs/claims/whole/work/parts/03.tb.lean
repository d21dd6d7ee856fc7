/-- the words that every method's contract takes: all good words of the law's tables -/
def vi_tb : List Cond := lw_tbl.filter goodWord
/-- the words on nest mates, which are carried apart -/
def vi_nt : List Cond := tables_1.filter (fun w => match w with | .fieldLinkNest _ _ _ _ _ _ => true | .methodLinkNest _ _ _ _ => true | .castable _ _ => true | _ => false)
theorem vi_mem {w : Cond} (h : w ∈ lw_tbl) (g : goodWord w = true) : w ∈ vi_tb := List.mem_filter.mpr ⟨h, g⟩
theorem vi_tb_lw : ∀ w ∈ vi_tb, w ∈ lw_tbl := fun w h => (List.mem_filter.mp h).1
theorem vi_tb_good : ∀ w ∈ vi_tb, goodWord w = true := fun w h => (List.mem_filter.mp h).2
/-- a method's words -/
def vi_ws (y : MethodName) (cc : ByteArray) (nL : Nat) (ret : Option FieldType) : List Cond := .code y cc nL ret :: vi_tb
theorem vi_good {y y' : MethodName} {cc cc' : ByteArray} {nL nL' : Nat} {ret ret' : Option FieldType} (h : Cond.code y' cc' nL' ret' ∈ vi_tb) : GoodIn (vi_ws y cc nL ret) (vi_ws y' cc' nL' ret') := by
  intro w hw
  have h1 : w ∈ vi_tb := by
    rcases List.mem_cons.mp hw with rfl | h2
    · exact h
    · exact h2
  exact ⟨List.mem_cons_of_mem _ h1, good_of_word (vi_tb_good w h1)⟩
