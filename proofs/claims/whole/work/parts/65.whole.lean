theorem vi_ex_arr {s : State} {args : Array Value} (hts : ∀ w ∈ lw_tbl, w.before args s = true) : ∀ k : Nat, ∃ c : ClassId, 20 ≤ k → k ≤ 27 → ArrOfT s c (vi_aty k) ∧ va_RA s c (vi_aty k) := by
  have hp : ∀ ty : FieldType, (∀ C, ty ≠ .object C) → Cond.arrayClass ty ∈ lw_tbl → ∃ c : ClassId, ArrOfT s c ty ∧ va_RA s c ty := by
    intro ty hty hm
    obtain ⟨c, k, comp, h1, h2, h3⟩ := Cond.arrayClass_spec (hts _ hm)
    refine ⟨c, fun n z => ⟨fun k h => (by cases h), k, h2, comp, h3⟩, ?_⟩
    cases ty <;> first | exact h1 | exact absurd rfl (hty _)
  have hr : ∀ C : String, Cond.arrayOver (.object C) ∈ lw_tbl → ∃ c : ClassId, ArrOfT s c (.object C) ∧ va_RA s c (.object C) := by
    intro C hm
    obtain ⟨comp, c, k, h1, h2, h3, h4, h5⟩ := Cond.arrayOver_spec (hts _ hm)
    exact ⟨c, fun n z => ⟨fun k h => (by cases h), k, h3, comp, h4⟩, k, comp, h3, h4, h1, h5⟩
  intro k
  by_cases hk : 20 ≤ k ∧ k ≤ 27
  · rcases (show k = 20 ∨ k = 21 ∨ k = 22 ∨ k = 23 ∨ k = 24 ∨ k = 25 ∨ k = 26 ∨ k = 27 by omega) with rfl | rfl | rfl | rfl | rfl | rfl | rfl | rfl
    · obtain ⟨c, h⟩ := hp .byte (fun _ h => by cases h) (List.mem_append_right _ (vi_t1 (List.mem_of_getElem? (i := 56) rfl)))
      exact ⟨c, fun _ _ => h⟩
    · obtain ⟨c, h⟩ := hp .int (fun _ h => by cases h) (List.mem_append_right _ (vi_t1 (List.mem_of_getElem? (i := 187) rfl)))
      exact ⟨c, fun _ _ => h⟩
    · obtain ⟨c, h⟩ := hp .long (fun _ h => by cases h) (List.mem_append_right _ (vi_t2 (List.mem_of_getElem? (i := 77) rfl)))
      exact ⟨c, fun _ _ => h⟩
    · obtain ⟨c, h⟩ := hp .boolean (fun _ h => by cases h) (List.mem_append_right _ (vi_t7 (List.mem_of_getElem? (i := 72) rfl)))
      exact ⟨c, fun _ _ => h⟩
    · obtain ⟨c, h⟩ := hr RX1 (List.mem_append_right _ (vi_t1 (List.mem_of_getElem? (i := 64) rfl)))
      exact ⟨c, fun _ _ => h⟩
    · obtain ⟨c, h⟩ := hr RX7 (List.mem_append_right _ (vi_t1 (List.mem_of_getElem? (i := 189) rfl)))
      exact ⟨c, fun _ _ => h⟩
    · obtain ⟨c, h⟩ := hr RX8 (List.mem_append_right _ (vi_t1 (List.mem_of_getElem? (i := 197) rfl)))
      exact ⟨c, fun _ _ => h⟩
    · obtain ⟨c, h⟩ := hr RX9 (List.mem_append_right _ (vi_t1 (List.mem_of_getElem? (i := 143) rfl)))
      exact ⟨c, fun _ _ => h⟩
  · exact ⟨0, fun h1 h2 => absurd ⟨h1, h2⟩ hk⟩
theorem vi_ex_cls {s : State} {args : Array Value} (hts : ∀ w ∈ lw_tbl, w.before args s = true) : ∀ k : Nat, ∃ p : ClassId × (Nat → Nat), ∀ r : vw_C, vwCl[k]? = some r → u_Kn s r.1 r.2.1 r.2.2 p.1 p.2 := by
  have hu : ∀ (k : Nat) (r : vw_C) (n : Nat), vwCl[k]? = some r → Cond.instantiable r.1 n ∈ lw_tbl → ∃ p : ClassId × (Nat → Nat), u_Kn s r.1 r.2.1 r.2.2 p.1 p.2 := by
    intro k r n hr hm
    obtain ⟨cC, iS, h⟩ := u_known (fun w hw => hts w (vi_tb_lw w hw)) (vi_cls k r hr).1 (hts _ hm)
    exact ⟨(cC, iS), h⟩
  intro k
  match k with
  | 0 =>
    obtain ⟨p, h⟩ := hu 0 _ 3 rfl (List.mem_append_right _ (vi_t1 (List.mem_of_getElem? (i := 38) rfl)))
    exact ⟨p, fun r hr => by cases hr; exact h⟩
  | 1 =>
    obtain ⟨p, h⟩ := hu 1 _ 11 rfl (List.mem_append_right _ (vi_t1 (List.mem_of_getElem? (i := 65) rfl)))
    exact ⟨p, fun r hr => by cases hr; exact h⟩
  | 2 =>
    obtain ⟨p, h⟩ := hu 2 _ 10 rfl (List.mem_append_right _ (vi_t1 (List.mem_of_getElem? (i := 238) rfl)))
    exact ⟨p, fun r hr => by cases hr; exact h⟩
  | 3 =>
    obtain ⟨p, h⟩ := hu 3 _ 7 rfl (List.mem_append_right _ (vi_t1 (List.mem_of_getElem? (i := 58) rfl)))
    exact ⟨p, fun r hr => by cases hr; exact h⟩
  | 4 =>
    obtain ⟨p, h⟩ := hu 4 _ 6 rfl (List.mem_append_right _ (vi_t2 (List.mem_of_getElem? (i := 122) rfl)))
    exact ⟨p, fun r hr => by cases hr; exact h⟩
  | 5 =>
    obtain ⟨p, h⟩ := hu 5 _ 4 rfl (List.mem_append_right _ (vi_t2 (List.mem_of_getElem? (i := 99) rfl)))
    exact ⟨p, fun r hr => by cases hr; exact h⟩
  | 6 =>
    obtain ⟨p, h⟩ := hu 6 _ 2 rfl (List.mem_append_right _ (vi_t2 (List.mem_of_getElem? (i := 84) rfl)))
    exact ⟨p, fun r hr => by cases hr; exact h⟩
  | 7 =>
    obtain ⟨p, h⟩ := hu 7 _ 17 rfl (List.mem_append_right _ (vi_t2 (List.mem_of_getElem? (i := 78) rfl)))
    exact ⟨p, fun r hr => by cases hr; exact h⟩
  | 8 =>
    obtain ⟨p, h⟩ := hu 8 _ 6 rfl (List.mem_append_right _ (vi_t3 (List.mem_of_getElem? (i := 37) rfl)))
    exact ⟨p, fun r hr => by cases hr; exact h⟩
  | 9 =>
    obtain ⟨p, h⟩ := hu 9 _ 9 rfl (List.mem_append_right _ (vi_t1 (List.mem_of_getElem? (i := 144) rfl)))
    exact ⟨p, fun r hr => by cases hr; exact h⟩
  | 10 =>
    obtain ⟨p, h⟩ := hu 10 _ 10 rfl (List.mem_append_right _ (vi_t1 (List.mem_of_getElem? (i := 191) rfl)))
    exact ⟨p, fun r hr => by cases hr; exact h⟩
  | 11 =>
    obtain ⟨p, h⟩ := hu 11 _ 7 rfl (List.mem_append_right _ (vi_t1 (List.mem_of_getElem? (i := 24) rfl)))
    exact ⟨p, fun r hr => by cases hr; exact h⟩
  | 12 =>
    obtain ⟨p, h⟩ := hu 12 _ 68 rfl (List.mem_append_right _ (vi_t6 (List.mem_of_getElem? (i := 73) rfl)))
    exact ⟨p, fun r hr => by cases hr; exact h⟩
  | k + 13 => exact ⟨(0, fun _ => 0), fun r hr => by simp [vwCl] at hr⟩
theorem vi_start {s : State} {args : Array Value} (hts : ∀ w ∈ lw_tbl, w.before args s = true) : ∃ (D : va_G) (cA : Nat → ClassId), ∀ (l : Launch) (a0 sb L : Nat) (xs : Nat → Int32), vi_K (l, D, cA, a0, sb, L, xs) s := by
  obtain ⟨f, hf⟩ := Classical.axiomOfChoice (vi_ex_cls hts)
  obtain ⟨g, hg⟩ := Classical.axiomOfChoice (vi_ex_arr hts)
  refine ⟨(fun k => (f k).1, fun k => (f k).2), g, fun l a0 sb L xs => ⟨⟨fun c q hq => hf c q hq, fun k q h => by simp at h⟩, fun k h1 h2 => hg k h1 h2, fun w hw => va_Nw.of (vi_nt_tab hw) (hts w (List.mem_append_right _ (List.mem_filter.mp hw).1)), va_AO.of (hts _ (List.mem_append_right _ (vi_t1 (List.mem_of_getElem? (i := 64) rfl)))), va_AO.of (hts _ (List.mem_append_right _ (vi_t1 (List.mem_of_getElem? (i := 189) rfl)))), va_AO.of (hts _ (List.mem_append_right _ (vi_t1 (List.mem_of_getElem? (i := 197) rfl)))), va_AO.of (hts _ (List.mem_append_right _ (vi_t1 (List.mem_of_getElem? (i := 143) rfl))))⟩⟩
theorem vi_zs {s : State} {args : Array Value} {E : vE} (hts : ∀ w ∈ lw_tbl, w.before args s = true) (hg : (Jvm.Cond.and given_1 narrow_1).before args s = true) (hl : E.1.stackTraces = false) (ha : E.2.2.2.1 = s.heap.size) : vi_Zs E s s.heap := by
  have hs := flat_of_before _ hg
  have hA : ∀ a : Nat, a < s.heap.size → ¬ E.2.2.2.1 ≤ a := fun a h => by omega
  refine ⟨vx_Zqof (hts _ (List.mem_append_right _ (vi_t5 (List.mem_of_getElem? (i := 228) rfl)))) (hts _ (List.mem_append_right _ (vi_t1 (List.mem_of_getElem? (i := 14) rfl)))) (hs _ (by decide +kernel)) hA, vx_Zqof (hts _ (List.mem_append_right _ (vi_t5 (List.mem_of_getElem? (i := 230) rfl)))) (hts _ (List.mem_append_right _ (vi_t1 (List.mem_of_getElem? (i := 14) rfl)))) (hs _ (by decide +kernel)) hA, va_Nc.of (hs _ (by decide +kernel)), hl, fun w hw => va_Nw.of (vi_dtab hw) (hts w (List.mem_append_right _ (List.mem_filter.mp hw).1))⟩
/-! THE CLAIM OUT OF ONE WALK OF THE LAW'S BODY. Your part is whole_start (and what it stands on); all else here is the same for every law, but numbers. -/
def R_law : String := "SnapClusterLaw"
def lw_P (b : Addr) (xs : List Int32) (args : Array Value) (s : State) : Prop := args = #[.ref b] ∧ s.IntsAt b xs ∧ xs.length ≤ 2052 ∧ (Jvm.Cond.and given_1 narrow_1).before args s = true
def lw_Q (_ : Array Value) (s : State) (o : Outcome) (t : State) : Prop := o = .returned (some (.int 1)) ∧ Framed s o t [] 601024 7293000
def lw_Z (below : List Frame) (a : Array Value) (s : State) : State → Prop := fun t => ∃ o, t.status = .running ∧ Ended t below o ∧ lw_Q a s o t
/-- the law's own end, with 1 on the stack, nothing written that was there before, its room as the claim has it -/
theorem lw_ret {p : Program} {l : Launch} {e : Env} {s : State} {m : MethodId} {below : List Frame} {meth : Method} {c : Code} {b : Nat} (hx : p.tables.exec = Jvm.exec) (hb : c.code = code) (hr : meth.sig.returnType = ret) (hlocks : meth.locks = false) {pc : Nat} {H : Heap} {ls : Array Slot} (hdg : decode code pc = .ok (.ireturn, 1)) : W p l e room_1 s m #[Value.ref b] below meth c H [] 601024 7293000 (lw_Z below #[Value.ref b] s) (F0 m pc ls [.int 1]) := by
  intro T hT X
  obtain ⟨fs, hret, hrun, hended, hW, hframe⟩ := X.leave (v := some (.int 1)) (hlocks := hlocks) (fun h => by rw [hr] at h; cases h)
  have hmeth' : T.vm.method? m = some meth := X.method'
  refine ⟨T.setFrames fs, ?_, .returned (some (.int 1)), hrun, hended, rfl, ⟨_, rfl⟩, hW, hframe⟩
  jvm_step X.here [X.here.top, hx, hb, hdg, hmeth', hr, ret, narrow_b1]
  (try refine ⟨rfl, ?_⟩); (try refine ⟨rfl, ?_⟩)
  first | (intro acts; rw [hret _ acts rfl rfl rfl]) | rw [hret _ _ rfl rfl rfl]
  exact Steps.refl _
/-- what holds at the law's entry: the machine, the code, the tables' words (any of lw_tbl by 'hts w (by decide +kernel)'), the script of L ints xs at the cell b, what the Statement gives of the start (any of its parts by flat_of_before) -/
def lw_At (p : Program) (s : State) (m : MethodId) (meth : Method) (c : Code) (b L : Nat) (xs : Nat → Int32) : Prop :=
  p.tables.exec = Jvm.exec ∧ c.code = code ∧ meth.sig.returnType = ret ∧ c.maxLocals = 7 ∧ s.vm.findClass R_law = some m.cls ∧ (∀ w ∈ lw_tbl, w.before #[Value.ref b] s = true) ∧ va_X b L xs s s.heap ∧ b < s.heap.size ∧ meth.locks = false ∧ (Jvm.Cond.and given_1 narrow_1).before #[Value.ref b] s = true
set_option maxRecDepth 100000 in
theorem whole_start {p : Program} {e : Env} {s : State} {m : MethodId} {below : List Frame} {meth : Method} {c : Code} (l : Launch) (hl : l.stackTraces = false) (hP : PureMain) {b L : Nat} {xs : Nat → Int32} (hL : L ≤ 2052) (C0 : lw_At p s m meth c b L xs) : W p l e room_1 s m #[Value.ref b] below meth c s.heap [] 0 0 (lw_Z below #[Value.ref b] s) (entryFrame m ([Value.ref b] : List Value).toArray 7) := by
  obtain ⟨hx, hb, hr, hml, hown, hts, hX, hbl, hlocks, hgv⟩ := C0
  obtain ⟨D, cA, hK⟩ := vi_start hts
  have hK' := hK l s.heap.size b L xs
  have hZ : vi_Zs (l, D, cA, s.heap.size, b, L, xs) s s.heap := vi_zs hts hgv hl rfl
  have C : vi_C (l, D, cA, s.heap.size, b, L, xs) (p, e, room_1, s, m, #[Value.ref b], below, meth, c) yL_law cL_law 7 (some .boolean) 14 601024 7293000 576 :=
    ⟨hx, hb, hml, hr, hlocks, hown, fun h => absurd h (by decide), fun w hw => hts w (vi_tb_lw w hw), hK', hX, hbl, rfl⟩
  rw [lg_entry_eq]
  refine law_pro (E := (l, D, cA, s.heap.size, b, L, xs)) (X := (p, e, room_1, s, m, #[Value.ref b], below, meth, c)) (S0 := (fun _ => 0, fun _ _ => 0, fun _ _ => none, fun _ => 0, fun _ _ => 0, fun _ _ => 0, fun _ _ => none)) (x := s.heap.size) C hZ hL hP (fun S sz => ?_) s.heap [] _ (lv_entry [.ref b] (Nat.le_of_ble_eq_true rfl)) ⟨rfl, Nat.le_refl _, fun a ha => absurd rfl ha⟩ ⟨fun _ _ => rfl, fun x h => by cases h⟩
  refine vi_iconst (v := 1) C dL_law_1153 rfl (by decide) ?_
  intro H locs ls hl' hH hS
  refine W.widen (k := 601024) (n := 7293000) (by decide) (by decide) (va_forget (fun q hq => hS.2 q hq) ?_)
  exact lw_ret hx hb hr hlocks dL_law_1154
set_option maxHeartbeats 4000000 in
theorem lw_walk (l : Launch) (hl : l.stackTraces = false) (hPM : PureMain) (b : Addr) (xs : List Int32) : MetFree l x (headSpec (Jvm.Cond.code x code maxLocals ret :: tables_1) room_1) (lw_P b xs) (fun _ _ _ _ _ => True) lw_Q := by
  refine MetFree.of_bodyS (code := code) (maxLocals := maxLocals) (ret := ret) (by decide) ?_ ?_
  · intro args s m h hn
    obtain ⟨meth, c, h1, h2, h3, h4, h5, h6, -, -⟩ := Cond.code_spec hn (atoms_spec (ws := Jvm.Cond.code x code maxLocals ret :: tables_1) h _ List.mem_cons_self)
    exact ⟨meth, c, h1, h2, h3, h4, h5, h6⟩
  · intro p e s m args below meth c s₁ B hml0 hP _
    obtain ⟨rfl, hx, hbd, hgv⟩ := hP
    obtain ⟨scr, harrAt, hlist, hof, hsmall⟩ := hx
    obtain ⟨hcb, hkn, -, -⟩ := State.arrayAt?_spec harrAt
    have hown : s.vm.findClass R_law = some m.cls := findClass_of_methodNamed B.named
    have hts0 : ∀ c ∈ (Jvm.Cond.code x code maxLocals ret :: tables_1), c.before #[Value.ref b] s = true := atoms_spec (ws := Jvm.Cond.code x code maxLocals ret :: tables_1) B.pre
    have hts : ∀ w ∈ lw_tbl, w.before #[Value.ref b] s = true := k2_hts_sels lw_privs (fun w hw => hts0 w (List.mem_cons_of_mem _ hw)) lw_privs_ok
    have hml : c.maxLocals = 7 := B.maxLocals_eq (hts0 _ List.mem_cons_self)
    have X₀ : Stand p l e room_1 s m #[Value.ref b] below meth c s₁ [] 0 0 := Stand.of_body B
    have hh0 : s₁.heap = s.heap := by rw [B.state]; rfl
    have hsz : scr.slots.size = xs.length := by rw [← Array.length_toList, hlist, List.length_map]
    have hval : ∀ j : Nat, j < xs.length → scr.slots[j]? = some (.int (xs.getD j 0)) := fun j hj => by
      rw [← Array.getElem?_toList, hlist]
      simp [hj]
    have hbl : b < s.heap.size := (Array.getElem?_eq_some_iff.mp hcb).1
    have hX : va_X b xs.length (fun j => xs.getD j 0) s s.heap := ⟨scr, hcb, hof, hkn, hsz, hval⟩
    have K : W p l e room_1 s m #[Value.ref b] below meth c s₁.heap [] 0 0 (lw_Z below #[Value.ref b] s) (entryFrame m ([Value.ref b] : List Value).toArray 7) := by
      rw [hh0]
      exact whole_start l hl hPM hbd ⟨B.exec, B.bytes, B.returns, hml, hown, hts, hX, hbl, B.notSynchronized, hgv⟩
    obtain ⟨t, a1, o, b1, b2, b3⟩ := K s₁ rfl X₀
    exact ⟨t, o, a1, b1, b2, b3⟩
theorem lw_pre_spec {args : Array Value} {s : State} (h : (Jvm.Cond.and given_1 narrow_1).before args s = true) (hr : rest_1_c.before args s = true) : ∃ (b : Addr) (xs : List Int32), lw_P b xs args s := by
  have hs := flat_of_before _ h
  have hq := flat_of_before _ hr
  have hc : (Cond.count 1).before args s = true := hs _ (by decide +kernel)
  have harr : (Cond.arrayOf (.arg 0) .int).before args s = true := hs _ (by decide +kernel)
  have hle : (Cond.le (.length (.arg 0)) (.int 2052)).before args s = true := hs _ (by decide +kernel)
  have hlen : (Cond.isInt (.length (.arg 0))).before args s = true := hq _ (by decide +kernel)
  have hall : (Cond.all (.arg 0) (.isInt (.elem (.arg 0) (.index 0)))).before args s = true := hq _ (by decide +kernel)
  obtain ⟨b, xs, hb, hx⟩ := State.ints_of_pre rfl harr hlen hall
  have hsm : xs.length < 2 ^ 31 := hx.choose_spec.2.2.2
  have hev : (Term.length (.arg 0)).eval args s none [] s = some (.int xs.length.toInt32) := hx.length_eval hb
  have hv := Cond.le_ints hev (show (Term.int 2052).eval args s none [] s = some (.int 2052) from rfl)
  have hd : xs.length.toInt32 ≤ 2052 := by
    simpa [Cond.before, Cond.holds, hv] using hle
  have hN : xs.length ≤ 2052 := (Int32.ofNat_le_ofNat hsm (by decide)).mp (show Int32.ofNat xs.length ≤ Int32.ofNat 2052 from hd)
  exact ⟨b, xs, Cond.one_arg hc (show args[0]? = some (.ref b) from hb), hx, hN, h⟩
theorem lw_comes (l : Launch) (hl : l.stackTraces = false) (hPM : PureMain) : Comes l x (Jvm.Cond.code x code maxLocals ret :: tables_1) room_1 (fun tb e args s => Calls_1 tb e args s ∧ rest_1 tb e args s ∧ Pre_1 tb e args s)
    (fun _ _ args s o t => lw_Q args s o t) := by
  intro p e ha hc hk s m args below hf hfit hheap happ hpre
  obtain ⟨b, xs, hP⟩ := lw_pre_spec hpre.2.2 hpre.2.1
  obtain ⟨k, o, h1, h2, h3, hQ⟩ := lw_walk l hl hPM b xs p e ha hc hk s m args below hf ((Spec.applies_iff_loose hf).mp happ).1 hP trivial
  exact ⟨k, o, h1, h2, h3, hQ⟩
theorem lw_frame {s t : State} {o : Outcome} {args : Array Value} (h : Framed s o t [] 601024 7293000) :
    Framed s o t (fieldLocs frame_1_writes args s ++ arrayLocs frame_1_arrays args s ++ staticLocs frame_1_statics s) 601024 7293000 := h
theorem lw_limb (hPM : PureMain) (L : Cond) (hL : ∀ (args : Array Value) (s t : State), L.after args s (.returned (some (.int 1))) t = true) :
    ArmFor flags0 classFile x code maxLocals ret World_1 tables_1 room_1 Calls_1 rest_1 Pre_1
      (fun tb e a s o t => postC L tb e a s o t ∧ Framed s o t (fieldLocs frame_1_writes a s ++ arrayLocs frame_1_arrays a s ++ staticLocs frame_1_statics s) 601024 7293000) := by
  intro l hfl _ _ p e ha hc hk s m args below hf hfit hheap happ hpre
  obtain ⟨k, o, h1, h2, h3, rfl, hF⟩ := lw_comes l (by unfold Launch.stackTraces; rw [hfl]; decide +kernel) hPM p e ha hc hk s m args below hf hfit hheap happ hpre
  exact ⟨k, _, h1, h2, h3, hL args s _, lw_frame hF⟩
theorem i_vc_open (hPM : PureMain) : Claimed_1_1 ∧ Claimed_1_2 := ⟨lw_limb hPM limb_1_1 (fun args s t => by simp [limb_1_1, Cond.after, Cond.holds, Cond.value]), lw_limb hPM limb_1_2 (fun args s t => Cond.after_iff.mpr (by
  first | (rw [show limb_1_2 = Cond.eq .result (.int 1) from rfl, Cond.eq_ints (x := 1) (y := 1) rfl rfl]; simp; done) | (simp [limb_1_2, Cond.value, Term.eval]; done)))⟩

