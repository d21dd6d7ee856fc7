theorem ac_n : Cond.native arraycopyName ∈ vi_tb := vi_mem (vi_m4 (List.mem_of_getElem? (i := 99) rfl)) rfl
theorem ac_s : Cond.static arraycopyName ∈ vi_tb := vi_mem (vi_m4 (List.mem_of_getElem? (i := 98) rfl)) rfl
theorem ac_i : Cond.initialized "java/lang/System" ∈ vi_tb := vi_mem (vi_m1 (List.mem_of_getElem? (i := 20) rfl)) rfl
theorem acX0_42 : Cond.methodLink RX0 42 arraycopyName ∈ vi_tb := vi_mem (vi_m4 (List.mem_of_getElem? (i := 97) rfl)) rfl
theorem acX10_66 : Cond.methodLink RX10 66 arraycopyName ∈ vi_tb := vi_mem (vi_m4 (List.mem_of_getElem? (i := 155) rfl)) rfl
theorem clX9_50 : Cond.methodLink RX9 50 ⟨"[I", "clone", "()Ljava/lang/Object;"⟩ ∈ vi_tb := vi_mem (vi_m3 (List.mem_of_getElem? (i := 38) rfl)) rfl
theorem cl_same : Cond.sameMethod "[I" "java/lang/Object" "clone" "()Ljava/lang/Object;" ∈ vi_tb := vi_mem (vi_m3 (List.mem_of_getElem? (i := 39) rfl)) rfl
theorem cl_nat : Cond.native ⟨"java/lang/Object", "clone", "()Ljava/lang/Object;"⟩ ∈ vi_tb := vi_mem (vi_m3 (List.mem_of_getElem? (i := 40) rfl)) rfl
theorem cl_inst : Cond.instanceMethod ⟨"java/lang/Object", "clone", "()Ljava/lang/Object;"⟩ ∈ vi_tb := vi_mem (vi_m3 (List.mem_of_getElem? (i := 41) rfl)) rfl
theorem cl_sel : Cond.selects "[I" ⟨"[I", "clone", "()Ljava/lang/Object;"⟩ ⟨"java/lang/Object", "clone", "()Ljava/lang/Object;"⟩ ∈ vi_tb := vi_mem (vi_m3 (List.mem_of_getElem? (i := 42) rfl)) rfl
theorem cl_cast : Cond.castable "[I" "java/lang/Cloneable" ∈ vi_nt := List.mem_filter.mpr ⟨vi_t3 (List.mem_of_getElem? (i := 43) rfl), rfl⟩
theorem ccX9_51 : Cond.classLink RX9 51 "[I" ∈ vi_tb := vi_mem (vi_m3 (List.mem_of_getElem? (i := 44) rfl)) rfl
/-! ===== Math.floorMod ===== -/
def fmI (a b : Int32) : Int32 := if 0 ≤ (a ^^^ b) then a - a / b * b else if a - a / b * b = 0 then a - a / b * b else a - a / b * b + b
theorem fm_noRow0 : (NativeRow.find? natives yJ9_floorMod_7cf53.cls yJ9_floorMod_7cf53.name yJ9_floorMod_7cf53.desc).isNone = true := by decide +kernel
theorem fm_noRow (p : Program) : NativeRow.find? p.tables.natives yJ9_floorMod_7cf53.cls yJ9_floorMod_7cf53.name yJ9_floorMod_7cf53.desc = none := by
  cases p <;> exact Option.isNone_iff_eq_none.mp fm_noRow0
def fmSpec (a b : Int32) : Spec where
  pre := .and (.code yJ9_floorMod_7cf53 cJ9_floorMod_7cf53 3 (some .int)) (.and (.count 2) (.and (.isInt (.arg 0)) (.and (.isInt (.arg 1)) (.and (.eq (.arg 0) (.int a)) (.eq (.arg 1) (.int b))))))
  post := .and .returned (.eq .result (.int (fmI a b)))
  changes := some []
set_option maxRecDepth 100000 in
set_option maxHeartbeats 4000000 in
theorem fm_meets (l : Launch) (a b : Int32) (hb : b ≠ 0) : MeetsLoose l yJ9_floorMod_7cf53 (fmSpec a b) := by
  refine MeetsLoose.of_body_ov (code := cJ9_floorMod_7cf53) (maxLocals := 3) (ret := some .int) fm_noRow ?_ ?_
  · intro args s h
    simp only [fmSpec, Cond.before_and, Bool.and_eq_true] at h
    exact h.1
  · intro p e s m args below meth c s₁ B
    have hpre := B.pre
    simp only [fmSpec, Cond.before_and, Bool.and_eq_true] at hpre
    obtain ⟨x, y, rfl⟩ := Cond.two_ints hpre.2.1 hpre.2.2.1 hpre.2.2.2.1
    have h1 := hpre.2.2.2.2.1
    have h2 := hpre.2.2.2.2.2
    simp [Cond.before, Cond.holds, Cond.value, Term.eval] at h1 h2
    subst h1
    subst h2
    clear hpre
    have hb' : (y == 0) = false := by simpa using hb
    have hloc : argsToLocals #[.int x, .int y] 3 = #[.val (.int x), .val (.int y), .unset] := rfl
    have fin : ∀ r : Int32, r = fmI x y → (∀ fs, Steps p.tables e below (s₁.setTop (entryFrame m #[.int x, .int y] 3)) (s₁.setFrames fs) ∨ handOver s₁ (some (.int r)) below ≠ some fs) →
        ∃ s₂ o, Steps p.tables e below (s₁.setTop (entryFrame m #[.int x, .int y] 3)) s₂ ∧ s₂.status = .running ∧ Ended s₂ below o ∧
          (fmSpec x y).ensures #[.int x, .int y] s o s₂ := by
      intro r hr hwalk
      obtain ⟨fs, hfs⟩ := handOver_isSome (s := s₁) (some (.int r)) B.hears₁
      refine ⟨s₁.setFrames fs, .returned (some (.int r)), (hwalk fs).resolve_right (fun h => h hfs), B.here.running, B.ended hfs (by intro h; cases h), ?_, State.sameBut_nil.mpr ?_⟩
      · simp [fmSpec, Cond.after, Cond.holds, Cond.value, Term.eval, hr]
      · rw [State.frames_setFrames _ B.cur₁, B.back]
    by_cases hx : 0 ≤ (x ^^^ y)
    · refine fin (x - x / y * y) (by unfold fmI; rw [if_pos hx]) (fun fs => ?_)
      by_cases hfs : handOver s₁ (some (.int (x - x / y * y))) below = some fs
      · left
        unfold entryFrame; rw [hloc]
        refine Steps.instrAtOv (c := _) (by simpa using B.here) ?_
        simp [jvm, wpRun, exec, B.here.top, B.exec, B.bytes, dJ9_floorMod_7cf53_0]
        refine Steps.instrAtOv (c := _) (by simpa using B.here) ?_
        simp [jvm, wpRun, exec, B.here.top, B.exec, B.bytes, dJ9_floorMod_7cf53_1]
        refine Steps.instrAtOv (c := _) (by simpa using B.here) ?_
        simp [jvm, wpRun, exec, B.here.top, B.exec, B.bytes, dJ9_floorMod_7cf53_2, irem.wp_sem, hb', hb]
        refine Steps.instrAtOv (c := _) (by simpa using B.here) ?_
        simp [jvm, wpRun, exec, B.here.top, B.exec, B.bytes, dJ9_floorMod_7cf53_3]
        try refine ⟨#[.val (.int x), .val (.int y), .val (.int (x - x / y * y))], rfl, ?_⟩
        refine Steps.instrAtOv (c := _) (by simpa using B.here) ?_
        simp [jvm, wpRun, exec, B.here.top, B.exec, B.bytes, dJ9_floorMod_7cf53_4]
        refine Steps.instrAtOv (c := _) (by simpa using B.here) ?_
        simp [jvm, wpRun, exec, B.here.top, B.exec, B.bytes, dJ9_floorMod_7cf53_5]
        refine Steps.instrAtOv (c := _) (by simpa using B.here) ?_
        simp [jvm, wpRun, exec, B.here.top, B.exec, B.bytes, dJ9_floorMod_7cf53_6]
        refine Steps.instrAtOv (c := _) (by simpa using B.here) ?_
        simp [jvm, wpRun, exec, B.here.top, B.exec, B.bytes, dJ9_floorMod_7cf53_7, ifCond.wp_sem, ifCond.holds, hx]
        refine Steps.instrAtOv (c := _) (by simpa using B.here) ?_
        simp [jvm, wpRun, exec, B.here.top, B.exec, B.bytes, dJ9_floorMod_7cf53_18]
        refine Steps.instrAtOv (c := _) (by simpa using B.here) ?_
        simp [jvm, wpRun, exec, B.here.top, B.exec, B.bytes, dJ9_floorMod_7cf53_19, B.method₁, B.returns, narrow]
        intro acts
        rw [ret_to B.frames₁ B.method₁ B.notSynchronized rfl rfl hfs]
        exact Steps.refl _
      · exact Or.inr hfs
    · by_cases hz : (x - x / y * y) = 0
      · refine fin 0 (by unfold fmI; rw [if_neg hx, if_pos hz, hz]) (fun fs => ?_)
        by_cases hfs : handOver s₁ (some (.int (0))) below = some fs
        · left
          unfold entryFrame; rw [hloc]
          refine Steps.instrAtOv (c := _) (by simpa using B.here) ?_
          simp [jvm, wpRun, exec, B.here.top, B.exec, B.bytes, dJ9_floorMod_7cf53_0]
          refine Steps.instrAtOv (c := _) (by simpa using B.here) ?_
          simp [jvm, wpRun, exec, B.here.top, B.exec, B.bytes, dJ9_floorMod_7cf53_1]
          refine Steps.instrAtOv (c := _) (by simpa using B.here) ?_
          simp [jvm, wpRun, exec, B.here.top, B.exec, B.bytes, dJ9_floorMod_7cf53_2, irem.wp_sem, hb', hb]
          refine Steps.instrAtOv (c := _) (by simpa using B.here) ?_
          simp [jvm, wpRun, exec, B.here.top, B.exec, B.bytes, dJ9_floorMod_7cf53_3]
          try refine ⟨#[.val (.int x), .val (.int y), .val (.int (x - x / y * y))], rfl, ?_⟩
          refine Steps.instrAtOv (c := _) (by simpa using B.here) ?_
          simp [jvm, wpRun, exec, B.here.top, B.exec, B.bytes, dJ9_floorMod_7cf53_4]
          refine Steps.instrAtOv (c := _) (by simpa using B.here) ?_
          simp [jvm, wpRun, exec, B.here.top, B.exec, B.bytes, dJ9_floorMod_7cf53_5]
          refine Steps.instrAtOv (c := _) (by simpa using B.here) ?_
          simp [jvm, wpRun, exec, B.here.top, B.exec, B.bytes, dJ9_floorMod_7cf53_6]
          refine Steps.instrAtOv (c := _) (by simpa using B.here) ?_
          simp [jvm, wpRun, exec, B.here.top, B.exec, B.bytes, dJ9_floorMod_7cf53_7, ifCond.wp_sem, ifCond.holds, hx]
          refine Steps.instrAtOv (c := _) (by simpa using B.here) ?_
          simp [jvm, wpRun, exec, B.here.top, B.exec, B.bytes, dJ9_floorMod_7cf53_10]
          refine Steps.instrAtOv (c := _) (by simpa using B.here) ?_
          simp [jvm, wpRun, exec, B.here.top, B.exec, B.bytes, dJ9_floorMod_7cf53_11, ifCond.wp_sem, ifCond.holds, hz]
          refine Steps.instrAtOv (c := _) (by simpa using B.here) ?_
          simp [jvm, wpRun, exec, B.here.top, B.exec, B.bytes, dJ9_floorMod_7cf53_18]
          refine Steps.instrAtOv (c := _) (by simpa using B.here) ?_
          simp [jvm, wpRun, exec, B.here.top, B.exec, B.bytes, dJ9_floorMod_7cf53_19, B.method₁, B.returns, narrow]
          intro acts
          rw [ret_to B.frames₁ B.method₁ B.notSynchronized rfl rfl hfs]
          exact Steps.refl _
        · exact Or.inr hfs
      · refine fin (x - x / y * y + y) (by unfold fmI; rw [if_neg hx, if_neg hz]) (fun fs => ?_)
        by_cases hfs : handOver s₁ (some (.int (x - x / y * y + y))) below = some fs
        · left
          unfold entryFrame; rw [hloc]
          refine Steps.instrAtOv (c := _) (by simpa using B.here) ?_
          simp [jvm, wpRun, exec, B.here.top, B.exec, B.bytes, dJ9_floorMod_7cf53_0]
          refine Steps.instrAtOv (c := _) (by simpa using B.here) ?_
          simp [jvm, wpRun, exec, B.here.top, B.exec, B.bytes, dJ9_floorMod_7cf53_1]
          refine Steps.instrAtOv (c := _) (by simpa using B.here) ?_
          simp [jvm, wpRun, exec, B.here.top, B.exec, B.bytes, dJ9_floorMod_7cf53_2, irem.wp_sem, hb', hb]
          refine Steps.instrAtOv (c := _) (by simpa using B.here) ?_
          simp [jvm, wpRun, exec, B.here.top, B.exec, B.bytes, dJ9_floorMod_7cf53_3]
          try refine ⟨#[.val (.int x), .val (.int y), .val (.int (x - x / y * y))], rfl, ?_⟩
          refine Steps.instrAtOv (c := _) (by simpa using B.here) ?_
          simp [jvm, wpRun, exec, B.here.top, B.exec, B.bytes, dJ9_floorMod_7cf53_4]
          refine Steps.instrAtOv (c := _) (by simpa using B.here) ?_
          simp [jvm, wpRun, exec, B.here.top, B.exec, B.bytes, dJ9_floorMod_7cf53_5]
          refine Steps.instrAtOv (c := _) (by simpa using B.here) ?_
          simp [jvm, wpRun, exec, B.here.top, B.exec, B.bytes, dJ9_floorMod_7cf53_6]
          refine Steps.instrAtOv (c := _) (by simpa using B.here) ?_
          simp [jvm, wpRun, exec, B.here.top, B.exec, B.bytes, dJ9_floorMod_7cf53_7, ifCond.wp_sem, ifCond.holds, hx]
          refine Steps.instrAtOv (c := _) (by simpa using B.here) ?_
          simp [jvm, wpRun, exec, B.here.top, B.exec, B.bytes, dJ9_floorMod_7cf53_10]
          refine Steps.instrAtOv (c := _) (by simpa using B.here) ?_
          simp [jvm, wpRun, exec, B.here.top, B.exec, B.bytes, dJ9_floorMod_7cf53_11, ifCond.wp_sem, ifCond.holds, hz]
          refine Steps.instrAtOv (c := _) (by simpa using B.here) ?_
          simp [jvm, wpRun, exec, B.here.top, B.exec, B.bytes, dJ9_floorMod_7cf53_14]
          refine Steps.instrAtOv (c := _) (by simpa using B.here) ?_
          simp [jvm, wpRun, exec, B.here.top, B.exec, B.bytes, dJ9_floorMod_7cf53_15]
          refine Steps.instrAtOv (c := _) (by simpa using B.here) ?_
          simp [jvm, wpRun, exec, B.here.top, B.exec, B.bytes, dJ9_floorMod_7cf53_16]
          refine Steps.instrAtOv (c := _) (by simpa using B.here) ?_
          simp [jvm, wpRun, exec, B.here.top, B.exec, B.bytes, dJ9_floorMod_7cf53_17, B.method₁, B.returns, narrow]
          intro acts
          rw [ret_to B.frames₁ B.method₁ B.notSynchronized rfl rfl hfs]
          exact Steps.refl _
        · exact Or.inr hfs
theorem va_fmodV {p : Program} {l : Launch} {e : Env} {R : Room} {s : State} {m : MethodId} {args : Array Value} {below : List Frame} {meth : Method} {c : Code} {cells slots : Nat} {T : State} {locs : List Loc} (X : Stand p l e R s m args below meth c T locs cells slots) (hexec : p.tables.exec = Jvm.exec) {own : String} {index : Nat} (hown : s.vm.findClass own = some m.cls)
    (hlink : (Cond.methodLink own index yJ9_floorMod_7cf53).before args s = true) (hstat : (Cond.static yJ9_floorMod_7cf53).before args s = true) (hinit : (Cond.initialized "java/lang/Math").before args s = true)
    (hcode : (Cond.code yJ9_floorMod_7cf53 cJ9_floorMod_7cf53 3 (some .int)).before args s = true)
    {g : JFrame} (hg : g.method = m) (hsize : g.locals.size = c.maxLocals) {a b : Int32} (hb : b ≠ 0) {rest : List Value} (hstack : g.stack = .int b :: .int a :: rest) (hdg : decode c.code g.pc = .ok (.invokestatic index, 3))
    (hframes : 1 ≤ R.frames) (hlocals : 2 * g.monitorRoom + (rest.map fun v => v.category).sum + 14 ≤ R.locals) (hcells : cells ≤ R.cells) (hslots : slots ≤ R.slots) :
    ∃ vm', Stand p l e R s m args below meth c (T.setVm vm') locs cells slots ∧
      ∀ target, Steps p.tables e below ((T.setVm vm').setTop { g with pc := g.pc + 3, stack := .int (fmI a b) :: rest }) target → Steps p.tables e below (T.setTop g) target := by
  obtain ⟨v, T', X', ⟨first, t, hpost⟩, hstep⟩ := X.staticByContractV hexec hown hlink hstat hinit hcode (by decide)
    (fm_meets l a b hb)
    rfl rfl rfl rfl
    (fun args' first o s₂ h => by
      cases o with
      | returned r => exact ⟨r, rfl⟩
      | threw y =>
        have hz : (fmSpec a b).post.value args' first (some (.threw y)) s₂ [] = some true := by simpa [Cond.after, Cond.holds] using h
        exact absurd hz va_nvRet)
    hg hsize (argsL := [.int a, .int b]) (rest := rest)
    (fun sig hs => by
      have h : parseMethodDescriptor "(II)I" = some { parameters := [.int, .int], returnType := some .int } := by decide +kernel
      rw [show yJ9_floorMod_7cf53.desc = "(II)I" from rfl, h] at hs
      rw [← Option.some.inj hs]; rfl)
    hstack hdg
    (fun vm' hW => by
      simp only [fmSpec, Cond.before_and, Bool.and_eq_true]
      refine ⟨?_, rfl, rfl, rfl, by simp [Cond.before, Cond.holds, Cond.value, Term.eval], by simp [Cond.before, Cond.holds, Cond.value, Term.eval]⟩
      have q := hcode
      rw [← Cond.code_setVm hW.alike] at q
      simp only [Cond.before, Cond.holds, Cond.value, State.methodNamed?, State.vm_setVm] at q ⊢
      exact q)
    (by show 0 + 1 ≤ R.frames; omega) (by show 2 * g.monitorRoom + (rest.map fun v => v.category).sum + (3 + 11) + 0 ≤ R.locals; omega) (by show cells + 0 ≤ R.cells; omega) (by show slots + 0 ≤ R.slots; omega)
  refine ⟨T', X', fun target h => hstep target ?_⟩
  obtain rfl : v = some (.int (fmI a b)) := by
    rcases v with _ | w
    · simp [fmSpec, Cond.after, Cond.holds, Cond.value, Term.eval] at hpost
    · cases w <;> simp [fmSpec, Cond.after, Cond.holds, Cond.value, Term.eval] at hpost
      first | (simp [hpost]; done) | (rename_i r; by_cases hr : r = fmI a b <;> simp [hr] at hpost ⊢)
  exact h
section VINA
variable {E : vE} {X : vX} {y : MethodName} {cc : ByteArray} {nL : Nat} {ret : Option FieldType} {d mc ms lo : Nat} {Z : State → Prop} {pc : Nat} {lv : List (Nat × Value)} {st : List Value} {S : vS} {sz k n : Nat}
theorem vi_fmod (C : vi_C E X y cc nL ret d mc ms lo) {p' idx : Nat} {a b : Int32} (hd : decode cc pc = .ok (.invokestatic idx, 3)) (hp : pc + 3 = p') (hw : Cond.methodLink y.cls idx yJ9_floorMod_7cf53 ∈ vi_tb) (hb : b ≠ 0) (hdp : 1 ≤ d) (hlo : (st.map fun v => v.category).sum + 14 ≤ lo) (hk : k ≤ mc) (hn : n ≤ ms) (kk : vi_W E X nL Z p' lv (.int (fmI a b) :: st) S sz k n) : vi_W E X nL Z pc lv (.int b :: .int a :: st) S sz k n := by
  subst hp
  intro H locs ls hl hH hS
  have hR := C.2.2.2.2.2.2.2.2.2.2.2
  intro T hT XX
  obtain ⟨vm', X', stp⟩ := va_fmodV XX C.1 C.2.2.2.2.2.1 (C.2.2.2.2.2.2.2.1 _ hw) (C.2.2.2.2.2.2.2.1 _ isJ9_floorMod_7cf53) (C.2.2.2.2.2.2.2.1 _ inJ9) (C.2.2.2.2.2.2.2.1 _ coJ9_floorMod_7cf53) (g := F0 X.2.2.2.2.1 pc ls (.int b :: .int a :: st)) rfl (by rw [C.2.2.1]; exact hl.1) hb (a := a) (b := b) (rest := st) rfl (by rw [C.2.1]; exact hd) (by rw [hR]; exact hdp) (by rw [hR]; show 2 * 0 + _ + 14 ≤ lo; omega) (by rw [hR]; exact hk) (by rw [hR]; exact hn)
  obtain ⟨t, a1, b1⟩ := kk H locs ls hl hH hS (T.setVm vm') hT X'
  exact ⟨t, stp t a1, b1⟩
theorem vi_ldcw (C : vi_C E X y cc nL ret d mc ms lo) {p' : Nat} {q : Nat} {v : Int32} (hd : decode cc pc = .ok (.ldc_w q, 3)) (hp : pc + 3 = p') (hw : Cond.constant y.cls q v ∈ vi_tb) (kk : vi_W E X nL Z p' lv (.int v :: st) S sz k n) : vi_W E X nL Z pc lv (st) S sz k n := by
  subst hp
  intro H locs ls hl hH hS
  exact lv_ldcw C.1 C.2.1 C.2.2.2.2.2.1 (C.2.2.2.2.2.2.2.1 _ hw) hd (kk H locs ls hl hH hS)
theorem va_upw {α : Type} (f : Nat → α) {a b : Nat} (v : α) (h : b ≠ a) : va_up f a v b = f b := va_up_ne _ _ h
theorem vi_copy (C : vi_C E X y cc nL ret d mc ms lo) {p' idx a0 a κ : Nat} {sp dp w : Int32} (hd : decode cc pc = .ok (.invokestatic idx, 3)) (hp : pc + 3 = p') (hw : Cond.methodLink y.cls idx arraycopyName ∈ vi_tb) (hκ : κ = 20 ∨ κ = 21) (h0 : vK S a0 = κ) (h9 : vK S a = κ)
    (h1 : ¬ sp < 0) (h2 : ¬ dp < 0) (h3 : ¬ w < 0) (h4 : sp.toNatClampNeg + w.toNatClampNeg ≤ vN S a0) (h5 : dp.toNatClampNeg + w.toNatClampNeg ≤ vN S a) (hfit : ∀ i, i < w.toNatClampNeg → fits (vi_aty κ) (.int (vR S a0 (sp.toNatClampNeg + i))) = true)
    (hdp : 1 ≤ d) (hlo : (st.map fun v => v.category).sum + (nativeFrameWords "java/lang/System" "arraycopy" 5 + 11) ≤ lo)
    (kk : vi_W E X nL Z p' lv st (sW S a (va_cpy (vR S a0) (vR S a) sp.toNatClampNeg dp.toNatClampNeg w.toNatClampNeg)) sz k n) : vi_W E X nL Z pc lv (.int w :: .int dp :: .ref a :: .int sp :: .ref a0 :: st) S sz k n := by
  subst hp
  intro H locs ls hl hH hS
  have hR := C.2.2.2.2.2.2.2.2.2.2.2
  have nn : ∀ z : Int32, ¬ z < 0 → z.toInt = (z.toNatClampNeg : Int) := by
    intro z hz
    have hz0 : (0 : Int) ≤ z.toInt := by
      have := Int32.not_lt.mp hz
      simpa using Int32.le_iff_toInt_le.mp this
    show z.toInt = ((z.toInt.toNat : Nat) : Int)
    omega
  obtain ⟨hb0, -, hat0⟩ := hH.2.2 a0 (by omega)
  obtain ⟨hb1, hlt1, hat1⟩ := hH.2.2 a (by omega)
  have hc0 : H[a0]? = some (arrV (E.2.2.1 κ) (vN S a0) (fun j => .int (vR S a0 j))) := by
    have := hat0.2.1 (by omega)
    rw [h0] at this; exact this
  have hc1 : H[a]? = some (arrV (E.2.2.1 κ) (vN S a) (fun j => .int (vR S a j))) := by
    have := hat1.2.1 (by omega)
    rw [h9] at this; exact this
  have hAr := (C.2.2.2.2.2.2.2.2.1.2.1 κ (by omega) (by omega)).1
  obtain ⟨-, k0, hk0, cm0, hkk0⟩ := hAr (vN S a0) (fun j => .int (vR S a0 j))
  obtain ⟨-, k1, hk1, cm1, hkk1⟩ := hAr (vN S a) (fun j => .int (vR S a j))
  have hprim : refKind (vi_aty κ) = false := by rcases hκ with rfl | rfl <;> rfl
  intro T hT XX
  obtain ⟨vm', X', stp⟩ := XX.arraycopy C.1 C.2.2.2.2.2.1 (C.2.2.2.2.2.2.2.1 _ hw) (C.2.2.2.2.2.2.2.1 _ ac_n) (C.2.2.2.2.2.2.2.1 _ ac_s) (C.2.2.2.2.2.2.2.1 _ ac_i) (src := a0) (dst := a) (srcPos := sp) (destPos := dp) (n := w) (by rw [hT]; exact hc0) (by rw [hT]; exact hc1)
    (fun _ h => by cases h) (fun _ h => by cases h) (fun h => by cases h) (fun h => by cases h) hk0 hk1 hkk0 hkk1 (by simp [hprim]) h1 h2 h3
    (by rw [nn sp h1, nn w h3, arrV_size]; omega)
    (by rw [nn dp h2, nn w h3, arrV_size]; omega)
    (fun vm₁ _ i hi => by
      have e : (arrV (E.2.2.1 κ) (vN S a0) (fun j => .int (vR S a0 j))).slots.getD (sp.toNatClampNeg + i) .null = .int (vR S a0 (sp.toNatClampNeg + i)) := by
        rw [Array.getD_eq_getD_getElem?, arrV_read _ _ (by omega)]
        rfl
      refine ⟨?_, ?_⟩
      · rw [e]
        exact hfit i hi
      · rw [e]
        exact trivial)
    (g := F0 X.2.2.2.2.1 pc ls (.int w :: .int dp :: .ref a :: .int sp :: .ref a0 :: st)) rfl (by rw [C.2.2.1]; exact hl.1) (rest := st) rfl (by rw [C.2.1]; exact hd) (by rw [hR]; exact hdp) (by rw [hR]; show 2 * 0 + _ + _ ≤ lo; omega)
  have e1 : copied (arrV (E.2.2.1 κ) (vN S a0) (fun j => .int (vR S a0 j))) (arrV (E.2.2.1 κ) (vN S a) (fun j => .int (vR S a j))) sp dp w = arrV (E.2.2.1 κ) (vN S a) (fun j => .int (va_cpy (vR S a0) (vR S a) sp.toNatClampNeg dp.toNatClampNeg w.toNatClampNeg j)) := va_copied (fun z => .int z) (E.2.2.1 κ) (E.2.2.1 κ) (vR S a0) (vR S a) h4
  rw [e1] at X' stp
  have hsz : a < H.size := (Array.getElem?_eq_some_iff.mp hc1).1
  generalize hH1 : H.setIfInBounds a (arrV (E.2.2.1 κ) (vN S a) (fun j => .int (va_cpy (vR S a0) (vR S a) sp.toNatClampNeg dp.toNatClampNeg w.toNatClampNeg j))) = H1
  have e2 : H1[a]? = some (arrV (E.2.2.1 κ) (vN S a) (fun j => .int (va_cpy (vR S a0) (vR S a) sp.toNatClampNeg dp.toNatClampNeg w.toNatClampNeg j))) := by rw [← hH1]; simp [Array.getElem?_setIfInBounds, hsz]
  have oq : ∀ q : Nat, q ≠ a → H1[q]? = H[q]? := fun q hq => by rw [← hH1]; simp [Array.getElem?_setIfInBounds, Ne.symm hq]
  have z1 : H1.size = H.size := by rw [← hH1]; simp
  obtain ⟨t, a1, b1⟩ := kk H1 _ ls hl (hH.set z1 oq rfl (fun b hb => ⟨fun _ _ => rfl, rfl, va_upw _ _ hb, rfl, rfl⟩) (fun _ => by
      refine ⟨fun c' r' h5 h6 => ?_, fun _ => ?_, fun h5 => ?_, fun h5 => ?_⟩
      · have h7 : vK S a = c' + 1 := h5
        have h8 : c' < vwCl.length := (List.getElem?_eq_some_iff.mp h6).1
        have h9 : vwCl.length = 13 := rfl
        omega
      · show H1[a]? = some (arrV (E.2.2.1 (vK S a)) (vN S a) (fun j => .int (va_up (vR S) a (va_cpy (vR S a0) (vR S a) sp.toNatClampNeg dp.toNatClampNeg w.toNatClampNeg) a j)))
        rw [va_up_self, e2, h9]
      · have h7 : vK S a = 22 := h5
        omega
      · have h7 : 24 ≤ vK S a := h5
        omega)) ⟨fun q hq => (oq q (by omega)).trans (hS.1 q hq), fun q hq => by
      rcases List.mem_append.mp hq with h | h
      · exact hS.2 q h
      · obtain ⟨z, -, hz⟩ := List.mem_map.mp h
        rw [← hz]
        exact hb1⟩ _ (by rw [← hH1, ← hT]; rfl) X'
  exact ⟨t, stp t a1, b1⟩
/-- a row of ints is cloned -/
def nB (S : vS) (q N : Nat) (f : Nat → Int32) : vS := sW (nA S q 21 N) q f
theorem vi_clone (C : vi_C E X y cc nL ret d mc ms lo) {p' idx a : Nat} (hd : decode cc pc = .ok (.invokevirtual idx, 3)) (hp : pc + 3 = p') (hw : Cond.methodLink y.cls idx ⟨"[I", "clone", "()Ljava/lang/Object;"⟩ ∈ vi_tb) (ha : vK S a = 21)
    (hdp : 1 ≤ d) (hlo : (st.map fun v => v.category).sum + 14 ≤ lo) (hk : k + 1 ≤ mc) (hn : n + vN S a ≤ ms)
    (kk : vi_W E X nL Z p' lv (.ref sz :: st) (nB S sz (vN S a) (vR S a)) (sz + 1) (k + 1) (n + vN S a)) : vi_W E X nL Z pc lv (.ref a :: st) S sz k n := by
  subst hp
  intro H locs ls hl hH hS
  have hR := C.2.2.2.2.2.2.2.2.2.2.2
  obtain ⟨hb1, hlt1, hat1⟩ := hH.2.2 a (by omega)
  have hc1 : H[a]? = some (arrV (E.2.2.1 21) (vN S a) (fun j => .int (vR S a j))) := by
    have := hat1.2.1 (by omega)
    rw [ha] at this; exact this
  have hAr := (C.2.2.2.2.2.2.2.2.1.2.1 21 (by omega) (by omega)).1
  have hRA : X.2.2.2.1.vm.findClass "[I" = some (E.2.2.1 21) := (C.2.2.2.2.2.2.2.2.1.2.1 21 (by omega) (by omega)).2
  obtain ⟨-, kS, hkS, compS, hkindS⟩ := hAr (vN S a) (fun j => .int (vR S a j))
  obtain ⟨c0, t0', f1, f2, f3⟩ := Cond.castable_spec (va_Nw.use (A := X.2.2.2.2.2.1) rfl (C.2.2.2.2.2.2.2.2.1.2.2.1 _ cl_cast))
  cases hRA.symm.trans f1
  intro T hT XX
  obtain ⟨-, kA, hkA, comp, hkind⟩ := State.isArrayOf_alike XX.warmed.alike (hAr (vN S a) (fun j => .int (vR S a j)))
  obtain ⟨vm', X', stp⟩ := XX.cloneArray C.1 C.2.2.2.2.2.1 (C.2.2.2.2.2.2.2.1 _ hw) (C.2.2.2.2.2.2.2.1 _ cl_same) (C.2.2.2.2.2.2.2.1 _ cl_nat) (C.2.2.2.2.2.2.2.1 _ cl_inst) (C.2.2.2.2.2.2.2.1 _ cl_sel) (a := a) (cell := arrV (E.2.2.1 21) (vN S a) (fun j => .int (vR S a j))) (by rw [hT]; exact hc1) (fun _ h => by cases h) (fun h => by cases h) hRA f2 f3
    (fun i v hv => by
      have hk' : T.vm.classes[E.2.2.1 21]? = some kA := hkA
      have hi : i < vN S a := by
        have := (Array.getElem?_eq_some_iff.mp hv).1
        rwa [arrV_size] at this
      rw [arrV_read _ _ hi] at hv
      cases hv
      show T.fitsSlot (E.2.2.1 21) .none i _ = true
      simp [State.fitsSlot, State.slotType?, hk', hkind]
      rfl)
    (g := F0 X.2.2.2.2.1 pc ls (.ref a :: st)) rfl (by rw [C.2.2.1]; exact hl.1) rfl (by rw [C.2.1]; exact hd) (by rw [hR]; exact hdp) (by rw [hR]; show 2 * 0 + _ + 14 ≤ lo; omega) (by rw [hR]; exact hk) (by rw [hR, arrV_size]; exact hn) (hloader := Vm.clonesLoader_of_array hkS hkindS)
  rw [arrV_size] at X'
  generalize hcl : arrV (E.2.2.1 21) (vN S a) (fun j => .int (vR S a j)) = cell at X' stp hc1
  have hce : ({ cls := cell.cls, slots := cell.slots } : Cell) = cell := by rw [← hcl]; rfl
  rw [hce] at X' stp
  generalize hH1 : H.push cell = H1
  have z1 : H1.size = sz + 1 := by rw [← hH1, Array.size_push, hH.1]
  have e1 : H1[sz]? = some cell := by rw [← hH1, ← hH.1, Array.getElem?_push_size]
  have o1 : ∀ q : Nat, q < sz → H1[q]? = H[q]? := fun q hq => by rw [← hH1, Array.getElem?_push, if_neg (by rw [hH.1]; omega)]
  have hne : ∀ b, b ≠ sz → vK (nB S sz (vN S a) (vR S a)) b = vK S b ∧ (∀ k j, vV (nB S sz (vN S a) (vR S a)) k j b = vV S k j b) ∧ vN (nB S sz (vN S a) (vR S a)) b = vN S b ∧ vR (nB S sz (vN S a) (vR S a)) b = vR S b ∧ vJ (nB S sz (vN S a) (vR S a)) b = vJ S b ∧ vQ (nB S sz (vN S a) (vR S a)) b = vQ S b :=
    fun b hb => ⟨va_up_ne _ _ hb, fun _ _ => rfl, va_up_ne _ _ hb, (va_up_ne _ _ hb).trans (va_up_ne _ _ hb), va_up_ne _ _ hb, va_up_ne _ _ hb⟩
  have hk9 : vK (nB S sz (vN S a) (vR S a)) sz = 21 := va_up_self _ _ _
  obtain ⟨t, a1, b1⟩ := kk H1 locs ls hl (hH.push z1 o1 hne (by
      refine ⟨fun c' r' h5 h6 => ?_, fun _ => ?_, fun h5 => ?_, fun h5 => ?_⟩
      · rw [hk9] at h5
        have h8 : c' < vwCl.length := (List.getElem?_eq_some_iff.mp h6).1
        have h9 : vwCl.length = 13 := rfl
        omega
      · rw [hk9, e1, ← hcl]
        show some _ = some (arrV (E.2.2.1 21) (va_up (vN S) sz (vN S a) sz) (fun j => .int (va_up (va_up (vR S) sz (fun _ => 0)) sz (vR S a) sz j)))
        rw [va_up_self, va_up_self]
      · rw [hk9] at h5; omega
      · rw [hk9] at h5; omega)) (hS.push (by rw [hH.1]; exact hH.2.1) (by rw [hH.1]; exact o1)) _ (by rw [← hH1, ← hT]; rfl) X'
  refine ⟨t, stp t ?_, b1⟩
  rw [hT, hH.1]
  exact a1
theorem vi_castI (C : vi_C E X y cc nL ret d mc ms lo) {p' idx a : Nat} (hd : decode cc pc = .ok (.checkcast idx, 3)) (hp : pc + 3 = p') (hw : Cond.classLink y.cls idx "[I" ∈ vi_tb) (ha : vK S a = 21)
    (kk : vi_W E X nL Z p' lv (.ref a :: st) S sz k n) : vi_W E X nL Z pc lv (.ref a :: st) S sz k n := by
  subst hp
  intro H locs ls hl hH hS
  obtain ⟨hb1, hlt1, hat1⟩ := hH.2.2 a (by omega)
  have hc1 : H[a]? = some (arrV (E.2.2.1 21) (vN S a) (fun j => .int (vR S a j))) := by
    have := hat1.2.1 (by omega)
    rw [ha] at this; exact this
  have hRA : X.2.2.2.1.vm.findClass "[I" = some (E.2.2.1 21) := (C.2.2.2.2.2.2.2.2.1.2.1 21 (by omega) (by omega)).2
  intro T hT XX
  obtain ⟨vm', X', stp⟩ := XX.checkcastYes C.1 C.2.2.2.2.2.1 (C.2.2.2.2.2.2.2.1 _ hw) (by rw [hT]; exact hc1) rfl hRA (va_asg _ _) (g := F0 X.2.2.2.2.1 pc ls (.ref a :: st)) rfl rfl (by rw [C.2.1]; exact hd)
  obtain ⟨t, a1, b1⟩ := kk H locs ls hl hH hS (T.setVm vm') hT X'
  exact ⟨t, stp t a1, b1⟩
end VINA
def uDW (c : vC) (a : Nat) (f : Nat → Int32) : vC := (cI c, cP c, cR c, cJ c, cQ c, cK c, cN c, va_up (cD c) a f, cz c)
def uRW (c : vC) (f i : Nat) (g : Nat → Int32) : vC := (cI c, cP c, vi_u2 (cR c) f i g, cJ c, cQ c, cK c, cN c, cD c, cz c)
theorem rcDW {S S0 : vS} {z x N d0 a : Nat} {c : vC} (h : RC S z x N d0 c) (g : cF S0 S z x N d0) (ha : cK c a = 20 ∨ cK c a = 21) (v : Nat → Int32) : RC (sW S a v) z x N d0 (uDW c a v) ∧ cF S0 (sW S a v) z x N d0 := by
  obtain ⟨h1, h2, h3, h4, h5, h6, h7, h8⟩ := h
  have hA := (h8 a (by omega)).1
  refine ⟨⟨h1, h2, h3, h4, h5, fun f' i' ho' => ?_, h7, fun a' ha' => ?_⟩, fun a' a1 a2 a3 => ?_⟩
  · obtain ⟨q1, q2, q3, q4, q5, q6⟩ := h6 f' i' ho'
    refine ⟨q1, q2, fun e => ?_, q4, q5, q6⟩
    have hO := aaO (z := z) (x := x) ho'
    show va_up (vR S) a v (aa z x f' i') = cR c f' i'
    rw [va_up_ne _ _ (by omega)]; exact q3 e
  · obtain ⟨q1, q2, q3, q4, q5⟩ := h8 a' ha'
    refine ⟨q1, q2, q3, q4, fun e => ⟨(q5 e).1, ?_⟩⟩
    show va_up (vR S) a v a' = va_up (cD c) a v a'
    by_cases e1 : a' = a
    · subst e1; rw [va_up_self, va_up_self]
    · rw [va_up_ne _ _ e1, va_up_ne _ _ e1]; exact (q5 e).2
  · obtain ⟨b1, b2, b3, b4, b5, b6, b7⟩ := g a' a1 a2 a3
    refine ⟨b1, b2, b3, b4, ?_, b6, b7⟩
    show va_up (vR S) a v a' = _
    rw [va_up_ne _ _ (by omega)]; exact b5
theorem rcRW {S S0 : vS} {z x N d0 f i : Nat} {c : vC} (h : RC S z x N d0 c) (g : cF S0 S z x N d0) (ho : okA N f i) (v : Nat → Int32) : RC (sW S (aa z x f i) v) z x N d0 (uRW c f i v) ∧ cF S0 (sW S (aa z x f i) v) z x N d0 := by
  obtain ⟨h1, h2, h3, h4, h5, h6, h7, h8⟩ := h
  have hO := aaO (z := z) (x := x) ho
  refine ⟨⟨h1, h2, h3, h4, h5, fun f' i' ho' => ?_, h7, fun a ha => ?_⟩, fun a a1 a2 a3 => ?_⟩
  · obtain ⟨q1, q2, q3, q4, q5, q6⟩ := h6 f' i' ho'
    refine ⟨q1, q2, fun e => ?_, q4, q5, q6⟩
    show va_up (vR S) (aa z x f i) v (aa z x f' i') = vi_u2 (cR c) f i v f' i'
    by_cases e1 : f' = f ∧ i' = i
    · obtain ⟨rfl, rfl⟩ := e1
      rw [va_up_self, vi_u2s]
    · rw [vi_u2v _ _ _ _ e1, va_up_ne _ _ (fun q => e1 (aaI ho' ho q))]; exact q3 e
  · obtain ⟨q1, q2, q3, q4, q5⟩ := h8 a ha
    refine ⟨q1, q2, q3, q4, fun e => ⟨(q5 e).1, ?_⟩⟩
    show va_up (vR S) (aa z x f i) v a = cD c a
    rw [va_up_ne _ _ (by omega)]; exact (q5 e).2
  · obtain ⟨b1, b2, b3, b4, b5, b6, b7⟩ := g a a1 a2 a3
    refine ⟨b1, b2, b3, b4, ?_, b6, b7⟩
    show va_up (vR S) (aa z x f i) v a = _
    rw [va_up_ne _ _ (by omega)]; exact b5
/-- System.arraycopy from a row of bytes of ours into a new row -/
def cpB (c : vC) (i a : Nat) (sp dp w : Int32) : Option vC := if sp < 0 ∨ dp < 0 ∨ w < 0 ∨ ¬ cK c a = 20 ∨ ¬ sp.toNatClampNeg + w.toNatClampNeg ≤ 2048 ∨ ¬ dp.toNatClampNeg + w.toNatClampNeg ≤ cN c a ∨ ¬ (∀ j, j < w.toNatClampNeg → fits .byte (.int (cR c 0 i (sp.toNatClampNeg + j))) = true) then none else some (uDW c a (va_cpy (cR c 0 i) (cD c a) sp.toNatClampNeg dp.toNatClampNeg w.toNatClampNeg))
/-- ... within a history -/
def cpH (c : vC) (i : Nat) (sp dp w : Int32) : Option vC := if sp < 0 ∨ dp < 0 ∨ w < 0 ∨ ¬ sp.toNatClampNeg + w.toNatClampNeg ≤ 272 ∨ ¬ dp.toNatClampNeg + w.toNatClampNeg ≤ 272 then none else some (uRW c 1005 i (va_cpy (cR c 1005 i) (cR c 1005 i) sp.toNatClampNeg dp.toNatClampNeg w.toNatClampNeg))
section CLN
variable {E : vE} {X : vX} {y : MethodName} {cc : ByteArray} {nL : Nat} {ret : Option FieldType} {d mc ms lo : Nat} {Z : State → Prop} {pc : Nat} {lv : List (Nat × Value)} {st : List Value} {S S0 : vS} {z x N d0 q n : Nat} {c : vC} {ρ : Type} {R : ρ}
theorem c_copyB (C : vi_C E X y cc nL ret d mc ms lo) {p' idx i a : Nat} {sp dp w : Int32} {K : vC → Option ρ} (hd : decode cc pc = .ok (.invokestatic idx, 3)) (hp : pc + 3 = p') (hw : Cond.methodLink y.cls idx arraycopyName ∈ vi_tb) (ho : i < 3) (hdp : 1 ≤ d) (hlo : (st.map fun v => v.category).sum + (nativeFrameWords "java/lang/System" "arraycopy" 5 + 11) ≤ lo) (hR : RC S z x N d0 c) (hF : cF S0 S z x N d0) (h : (cpB c i a sp dp w).bind K = some R) (kk : ∀ S c, K c = some R → RC S z x N d0 c → cF S0 S z x N d0 → vi_W E X nL Z p' lv st S (cz c) q n) : vi_W E X nL Z pc lv (.int w :: .int dp :: .ref a :: .int sp :: .ref (aa z x 0 i) :: st) S (cz c) q n := by
  unfold cpB at h
  by_cases e : sp < 0 ∨ dp < 0 ∨ w < 0 ∨ ¬ cK c a = 20 ∨ ¬ sp.toNatClampNeg + w.toNatClampNeg ≤ 2048 ∨ ¬ dp.toNatClampNeg + w.toNatClampNeg ≤ cN c a ∨ ¬ (∀ j, j < w.toNatClampNeg → fits .byte (.int (cR c 0 i (sp.toNatClampNeg + j))) = true)
  · rw [if_pos e] at h; cases h
  · rw [if_neg e] at h
    simp only [not_or, Decidable.not_not] at e
    obtain ⟨e1, e2, e3, e4, e5, e6, e7⟩ := e
    obtain ⟨q1, q2, q3, q4, q5, q6⟩ := hR.2.2.2.2.2.1 0 i ⟨ho, by decide⟩
    have q9 := hR.2.2.2.2.2.2.2 a (by omega)
    have q10 := q9.2.2.2.2 (Or.inl e4)
    have q11 := q3 (Or.inl rfl)
    refine vi_copy (κ := 20) C hd hp hw (Or.inl rfl) q1 (q9.2.1.trans e4) e1 e2 e3 (by rw [q2]; exact e5) (by rw [q10.1]; exact e6) (by rw [q11]; exact e7) hdp hlo ?_
    rw [q11, q10.2]
    have w := rcDW hR hF (Or.inl e4) (va_cpy (cR c 0 i) (cD c a) sp.toNatClampNeg dp.toNatClampNeg w.toNatClampNeg)
    exact kk _ (uDW c a (va_cpy (cR c 0 i) (cD c a) sp.toNatClampNeg dp.toNatClampNeg _)) h w.1 w.2
theorem c_copyH (C : vi_C E X y cc nL ret d mc ms lo) {p' idx i : Nat} {sp dp w : Int32} {K : vC → Option ρ} (hd : decode cc pc = .ok (.invokestatic idx, 3)) (hp : pc + 3 = p') (hw : Cond.methodLink y.cls idx arraycopyName ∈ vi_tb) (ho : i < N) (hdp : 1 ≤ d) (hlo : (st.map fun v => v.category).sum + (nativeFrameWords "java/lang/System" "arraycopy" 5 + 11) ≤ lo) (hR : RC S z x N d0 c) (hF : cF S0 S z x N d0) (h : (cpH c i sp dp w).bind K = some R) (kk : ∀ S c, K c = some R → RC S z x N d0 c → cF S0 S z x N d0 → vi_W E X nL Z p' lv st S (cz c) q n) : vi_W E X nL Z pc lv (.int w :: .int dp :: .ref (aa z x 1005 i) :: .int sp :: .ref (aa z x 1005 i) :: st) S (cz c) q n := by
  unfold cpH at h
  by_cases e : sp < 0 ∨ dp < 0 ∨ w < 0 ∨ ¬ sp.toNatClampNeg + w.toNatClampNeg ≤ 272 ∨ ¬ dp.toNatClampNeg + w.toNatClampNeg ≤ 272
  · rw [if_pos e] at h; cases h
  · rw [if_neg e] at h
    simp only [not_or, Decidable.not_not] at e
    obtain ⟨e1, e2, e3, e4, e5⟩ := e
    obtain ⟨q1, q2, q3, q4, q5, q6⟩ := hR.2.2.2.2.2.1 1005 i ⟨ho, by decide⟩
    have q11 := q3 (Or.inr rfl)
    refine vi_copy (κ := 21) C hd hp hw (Or.inr rfl) q1 q1 e1 e2 e3 (by rw [q2]; exact e4) (by rw [q2]; exact e5) (fun _ _ => rfl) hdp hlo ?_
    rw [q11]
    have w := rcRW hR hF (f := 1005) (i := i) ⟨ho, by decide⟩ (va_cpy (cR c 1005 i) (cR c 1005 i) sp.toNatClampNeg dp.toNatClampNeg w.toNatClampNeg)
    exact kk _ (uRW c 1005 i (va_cpy (cR c 1005 i) (cR c 1005 i) sp.toNatClampNeg dp.toNatClampNeg _)) h w.1 w.2
theorem c_clone (C : vi_C E X y cc nL ret d mc ms lo) {p' idx i : Nat} {K : vC → Option ρ} (hd : decode cc pc = .ok (.invokevirtual idx, 3)) (hp : pc + 3 = p') (hw : Cond.methodLink y.cls idx ⟨"[I", "clone", "()Ljava/lang/Object;"⟩ ∈ vi_tb) (ho : i < 16) (hdp : 1 ≤ d) (hlo : (st.map fun v => v.category).sum + 14 ≤ lo) (hk : q + 1 ≤ mc) (hn : n + 16 ≤ ms) (hR : RC S z x N d0 c) (hF : cF S0 S z x N d0) (h : lt1 (uDW (nD c 21 16) (cz c) (cR c 900 i)) K = some R)
    (kk : ∀ S c1, c1 = uDW (nD c 21 16) (cz c) (cR c 900 i) → K c1 = some R → RC S z x N d0 c1 → cF S0 S z x N d0 → vi_W E X nL Z p' lv (.ref (cz c) :: st) S (cz c1) (q + 1) (n + 16)) : vi_W E X nL Z pc lv (.ref (aa z x 900 i) :: st) S (cz c) q n := by
  obtain ⟨q1, q2, q3, q4, q5, q6⟩ := hR.2.2.2.2.2.1 900 i ⟨ho, by decide⟩
  have q11 := q3 (Or.inr rfl)
  have q2' : vN S (aa z x 900 i) = 16 := q2
  have w1 := rcND (k := 21) (n := 16) hR hF (Or.inr rfl)
  have w2 := rcDW w1.1 w1.2 (a := cz c) (Or.inr (va_up_self _ _ _)) (cR c 900 i)
  refine vi_clone C hd hp hw q1 hdp hlo hk (by rw [q2']; exact hn) ?_
  rw [q2', q11]
  exact kk _ (uDW (nD c 21 16) (cz c) (cR c 900 i)) rfl h w2.1 w2.2
theorem c_castI (C : vi_C E X y cc nL ret d mc ms lo) {p' idx a : Nat} (hd : decode cc pc = .ok (.checkcast idx, 3)) (hp : pc + 3 = p') (hw : Cond.classLink y.cls idx "[I" ∈ vi_tb) (hR : RC S z x N d0 c) (ha : cK c a = 21) (kk : vi_W E X nL Z p' lv (.ref a :: st) S (cz c) q n) : vi_W E X nL Z pc lv (.ref a :: st) S (cz c) q n := by
  have q9 := hR.2.2.2.2.2.2.2 a (by omega)
  exact vi_castI C hd hp hw (q9.2.1.trans ha) kk
end CLN
