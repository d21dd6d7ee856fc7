/-! ===== arrays, new cells, contracts and calls over the maps ===== -/
section VIA
variable {E : vE} {X : vX} {y : MethodName} {cc : ByteArray} {nL : Nat} {ret : Option FieldType} {d mc ms lo : Nat} {Z : State → Prop} {pc : Nat} {lv : List (Nat × Value)} {st : List Value} {S : vS} {sz k n : Nat}
theorem vi_iaload (C : vi_C E X y cc nL ret d mc ms lo) {p' : Nat} {a : Nat} {i : Int32} (hd : decode cc pc = .ok (.iaload, 1)) (hp : pc + 1 = p') (ha : vK S a = 21) (hi : vp_in i (vN S a)) (kk : vi_W E X nL Z p' lv (.int (vR S a i.toNatClampNeg) :: st) S sz k n) : vi_W E X nL Z pc lv (.int i :: .ref a :: st) S sz k n := by
  subst hp
  intro H locs ls hl hH hS
  obtain ⟨-, -, hat⟩ := hH.2.2 a (by omega)
  have hc := hat.2.1 (Or.inr (Or.inl ha))
  rw [ha] at hc
  have hlt : i.toNatClampNeg < vN S a := Nat.not_le.mp fun q => hi (Or.inr q)
  exact W.iald C.1 C.2.1 hc ((C.2.2.2.2.2.2.2.2.1.2.1 21 (by decide) (by decide)).1 _ _) (fun q => by cases q) (by show ¬ (i < 0 ∨ (arrV _ _ _).slots.size ≤ _); rw [arrV_size]; exact hi) (by rw [arrV_read _ _ hlt]) rfl rfl hd (kk H locs ls hl hH hS)
theorem vi_baload (C : vi_C E X y cc nL ret d mc ms lo) {p' : Nat} {a : Nat} {i : Int32} (hd : decode cc pc = .ok (.baload, 1)) (hp : pc + 1 = p') (ha : vK S a = 20) (hi : vp_in i (vN S a)) (kk : vi_W E X nL Z p' lv (.int (vR S a i.toNatClampNeg) :: st) S sz k n) : vi_W E X nL Z pc lv (.int i :: .ref a :: st) S sz k n := by
  subst hp
  intro H locs ls hl hH hS
  obtain ⟨-, -, hat⟩ := hH.2.2 a (by omega)
  have hc := hat.2.1 (Or.inl ha)
  rw [ha] at hc
  have hlt : i.toNatClampNeg < vN S a := Nat.not_le.mp fun q => hi (Or.inr q)
  exact W.bald C.1 C.2.1 hc ((C.2.2.2.2.2.2.2.2.1.2.1 20 (by decide) (by decide)).1 _ _) (fun q => by cases q) (by show ¬ (i < 0 ∨ (arrV _ _ _).slots.size ≤ _); rw [arrV_size]; exact hi) (by rw [arrV_read _ _ hlt]) rfl rfl hd (kk H locs ls hl hH hS)
theorem vi_zaload (C : vi_C E X y cc nL ret d mc ms lo) {p' : Nat} {a : Nat} {i : Int32} (hd : decode cc pc = .ok (.baload, 1)) (hp : pc + 1 = p') (ha : vK S a = 23) (hi : vp_in i (vN S a)) (kk : vi_W E X nL Z p' lv (.int (vR S a i.toNatClampNeg) :: st) S sz k n) : vi_W E X nL Z pc lv (.int i :: .ref a :: st) S sz k n := by
  subst hp
  intro H locs ls hl hH hS
  obtain ⟨-, -, hat⟩ := hH.2.2 a (by omega)
  have hc := hat.2.1 (Or.inr (Or.inr ha))
  rw [ha] at hc
  have hlt : i.toNatClampNeg < vN S a := Nat.not_le.mp fun q => hi (Or.inr q)
  exact W.zald C.1 C.2.1 hc ((C.2.2.2.2.2.2.2.2.1.2.1 23 (by decide) (by decide)).1 _ _) (fun q => by cases q) (by show ¬ (i < 0 ∨ (arrV _ _ _).slots.size ≤ _); rw [arrV_size]; exact hi) (by rw [arrV_read _ _ hlt]) rfl rfl hd (kk H locs ls hl hH hS)
theorem vi_laload (C : vi_C E X y cc nL ret d mc ms lo) {p' : Nat} {a : Nat} {i : Int32} (hd : decode cc pc = .ok (.laload, 1)) (hp : pc + 1 = p') (ha : vK S a = 22) (hi : vp_in i (vN S a)) (kk : vi_W E X nL Z p' lv (.long (vJ S a i.toNatClampNeg) :: st) S sz k n) : vi_W E X nL Z pc lv (.int i :: .ref a :: st) S sz k n := by
  subst hp
  intro H locs ls hl hH hS
  obtain ⟨-, -, hat⟩ := hH.2.2 a (by omega)
  have hc := hat.2.2.1 ha
  have hlt : i.toNatClampNeg < vN S a := Nat.not_le.mp fun q => hi (Or.inr q)
  exact W.lald C.1 C.2.1 hc ((C.2.2.2.2.2.2.2.2.1.2.1 22 (by decide) (by decide)).1 _ _) (fun q => by cases q) (by show ¬ (i < 0 ∨ (arrV _ _ _).slots.size ≤ _); rw [arrV_size]; exact hi) (by rw [arrV_read _ _ hlt]) rfl rfl hd (kk H locs ls hl hH hS)
theorem vi_atyR {k : Nat} (h : 24 ≤ k) (h2 : k ≤ 27) : ∃ C, vi_aty k = .object C := by
  rcases (show k = 24 ∨ k = 25 ∨ k = 26 ∨ k = 27 by omega) with rfl | rfl | rfl | rfl <;> exact ⟨_, rfl⟩
theorem vi_aaload (C : vi_C E X y cc nL ret d mc ms lo) {p' : Nat} {a : Nat} {i : Int32} (hd : decode cc pc = .ok (.aaload, 1)) (hp : pc + 1 = p') (ha : 24 ≤ vK S a) (ha2 : vK S a ≤ 27) (hi : vp_in i (vN S a)) (kk : vi_W E X nL Z p' lv (va_rf (vQ S a i.toNatClampNeg) :: st) S sz k n) : vi_W E X nL Z pc lv (.int i :: .ref a :: st) S sz k n := by
  subst hp
  intro H locs ls hl hH hS
  obtain ⟨-, -, hat⟩ := hH.2.2 a (by omega)
  have hc := hat.2.2.2 ha
  obtain ⟨CN, hCN⟩ := vi_atyR ha ha2
  have hlt : i.toNatClampNeg < vN S a := Nat.not_le.mp fun q => hi (Or.inr q)
  exact W.aald (ty := .object CN) C.1 C.2.1 hc (hCN ▸ (C.2.2.2.2.2.2.2.2.1.2.1 _ (by omega) ha2).1 _ _) rfl (fun q => by cases q) (by show ¬ (i < 0 ∨ (arrV _ _ _).slots.size ≤ _); rw [arrV_size]; exact hi) (by rw [arrV_read _ _ hlt]) rfl rfl hd (kk H locs ls hl hH hS)
theorem vi_sald (C : vi_C E X y cc nL ret d mc ms lo) {p' : Nat} {i : Int32} (hd : decode cc pc = .ok (.iaload, 1)) (hp : pc + 1 = p') (hi : vp_in i E.2.2.2.2.2.1) (kk : vi_W E X nL Z p' lv (.int (E.2.2.2.2.2.2 i.toNatClampNeg) :: st) S sz k n) : vi_W E X nL Z pc lv (.int i :: .ref E.2.2.2.2.1 :: st) S sz k n := by
  subst hp
  intro H locs ls hl hH hS
  obtain ⟨scr, h1, h2, h3, h4, h5⟩ := C.2.2.2.2.2.2.2.2.2.1
  have hlt : i.toNatClampNeg < E.2.2.2.2.2.1 := Nat.not_le.mp fun q => hi (Or.inr q)
  exact W.iald (v := .int (E.2.2.2.2.2.2 i.toNatClampNeg)) C.1 C.2.1 (by rw [hS.1 _ C.2.2.2.2.2.2.2.2.2.2.1]; exact h1) h2 h3 (by rw [h4]; exact hi) (h5 _ hlt) rfl rfl hd (kk H locs ls hl hH hS)
theorem vi_slen (C : vi_C E X y cc nL ret d mc ms lo) {p' : Nat}  (hd : decode cc pc = .ok (.arraylength, 1)) (hp : pc + 1 = p')  (kk : vi_W E X nL Z p' lv (.int (Int32.ofNat E.2.2.2.2.2.1) :: st) S sz k n) : vi_W E X nL Z pc lv (.ref E.2.2.2.2.1 :: st) S sz k n := by
  subst hp
  intro H locs ls hl hH hS
  obtain ⟨scr, h1, h2, h3, h4, h5⟩ := C.2.2.2.2.2.2.2.2.2.1
  exact W.alen (n := Int32.ofNat E.2.2.2.2.2.1) C.1 C.2.1 (by rw [hS.1 _ C.2.2.2.2.2.2.2.2.2.2.1]; exact h1) h2 (by rw [h4] <;> rfl) rfl rfl hd (kk H locs ls hl hH hS)
theorem vi_alen (C : vi_C E X y cc nL ret d mc ms lo) {p' : Nat} {a : Nat} (hd : decode cc pc = .ok (.arraylength, 1)) (hp : pc + 1 = p') (ha : 20 ≤ vK S a) (ha2 : vK S a ≤ 27) (kk : vi_W E X nL Z p' lv (.int (Int32.ofNat (vN S a)) :: st) S sz k n) : vi_W E X nL Z pc lv (.ref a :: st) S sz k n := by
  subst hp
  intro H locs ls hl hH hS
  obtain ⟨-, -, hat⟩ := hH.2.2 a (by omega)
  have hK := (C.2.2.2.2.2.2.2.2.1.2.1 _ ha ha2).1
  by_cases h1 : vK S a = 20 ∨ vK S a = 21 ∨ vK S a = 23
  · exact W.alen (n := Int32.ofNat (vN S a)) C.1 C.2.1 (hat.2.1 h1) (hK _ _) (by rw [arrV_size] <;> rfl) rfl rfl hd (kk H locs ls hl hH hS)
  · by_cases h2 : vK S a = 22
    · exact W.alen (n := Int32.ofNat (vN S a)) C.1 C.2.1 (hat.2.2.1 h2) (h2 ▸ hK _ _) (by rw [arrV_size] <;> rfl) rfl rfl hd (kk H locs ls hl hH hS)
    · exact W.alen (n := Int32.ofNat (vN S a)) C.1 C.2.1 (hat.2.2.2 (by omega)) (hK _ _) (by rw [arrV_size] <;> rfl) rfl rfl hd (kk H locs ls hl hH hS)
theorem vi_u2r {α : Type} (f : Nat → Nat → α) {a b i : Nat} (v : α) (h : b ≠ a) : vi_u2 f a i v b = f b := by
  funext j
  simp [vi_u2, h]
theorem vi_u2w {α : Type} (f : Nat → Nat → α) (a i : Nat) (v : α) (g : α → Value) : (fun j => g (vi_u2 f a i v a j)) = updV (fun j => g (f a j)) i (g v) := by
  funext j
  by_cases h : j = i
  · subst h; simp [vi_u2, updV]
  · simp [vi_u2, updV, h]
theorem vi_iastore (C : vi_C E X y cc nL ret d mc ms lo) {p' : Nat} {a : Nat} {i x : Int32} (hd : decode cc pc = .ok (.iastore, 1)) (hp : pc + 1 = p') (ha : vK S a = 21) (hi : vp_in i (vN S a))  (kk : vi_W E X nL Z p' lv (st) (sR S a i.toNatClampNeg (x)) sz k n) : vi_W E X nL Z pc lv (.int x :: .int i :: .ref a :: st) S sz k n := by
  subst hp
  intro H locs ls hl hH hS
  obtain ⟨ha0, -, hat⟩ := hH.2.2 a (by omega)
  have hc := hat.2.1 (Or.inr (Or.inl ha))
  rw [ha] at hc
  refine W.iast C.1 C.2.1 hc ((C.2.2.2.2.2.2.2.2.1.2.1 21 (by decide) (by decide)).1 _ _) (fun q => by cases q) (by show ¬ (i < 0 ∨ (arrV _ _ _).slots.size ≤ _); rw [arrV_size]; exact hi) rfl rfl hd fun H1 e z oq => ?_
  refine kk H1 _ ls hl (hH.set z oq rfl (fun b hb => ⟨fun _ _ => rfl, rfl, vi_u2r _ _ hb, rfl, rfl⟩) (fun _ => ?_)) (hS.put ha0 oq)
  refine ⟨fun c' r' h5 h6 => ?_, fun _ => ?_, fun h5 => ?_, fun h5 => ?_⟩
  · have h7 : vK S a = c' + 1 := h5
    have h8 : c' < vwCl.length := (List.getElem?_eq_some_iff.mp h6).1
    have h9 : vwCl.length = 13 := rfl
    omega
  · show H1[a]? = some (arrV (E.2.2.1 (vK S a)) (vN S a) (fun j => .int (vi_u2 (vR S) a i.toNatClampNeg (x) a j)))
    rw [vi_u2w (vR S) a i.toNatClampNeg (x) Value.int, e, arrV_store, ha]
  · have h7 : vK S a = 22 := h5
    omega
  · have h7 : 24 ≤ vK S a := h5
    omega
theorem vi_bastore (C : vi_C E X y cc nL ret d mc ms lo) {p' : Nat} {a : Nat} {i x : Int32} (hd : decode cc pc = .ok (.bastore, 1)) (hp : pc + 1 = p') (ha : vK S a = 20) (hi : vp_in i (vN S a))  (kk : vi_W E X nL Z p' lv (st) (sR S a i.toNatClampNeg (x.toInt8.toInt32)) sz k n) : vi_W E X nL Z pc lv (.int x :: .int i :: .ref a :: st) S sz k n := by
  subst hp
  intro H locs ls hl hH hS
  obtain ⟨ha0, -, hat⟩ := hH.2.2 a (by omega)
  have hc := hat.2.1 (Or.inl ha)
  rw [ha] at hc
  refine W.bast C.1 C.2.1 hc ((C.2.2.2.2.2.2.2.2.1.2.1 20 (by decide) (by decide)).1 _ _) (fun q => by cases q) (by show ¬ (i < 0 ∨ (arrV _ _ _).slots.size ≤ _); rw [arrV_size]; exact hi) rfl rfl hd fun H1 e z oq => ?_
  refine kk H1 _ ls hl (hH.set z oq rfl (fun b hb => ⟨fun _ _ => rfl, rfl, vi_u2r _ _ hb, rfl, rfl⟩) (fun _ => ?_)) (hS.put ha0 oq)
  refine ⟨fun c' r' h5 h6 => ?_, fun _ => ?_, fun h5 => ?_, fun h5 => ?_⟩
  · have h7 : vK S a = c' + 1 := h5
    have h8 : c' < vwCl.length := (List.getElem?_eq_some_iff.mp h6).1
    have h9 : vwCl.length = 13 := rfl
    omega
  · show H1[a]? = some (arrV (E.2.2.1 (vK S a)) (vN S a) (fun j => .int (vi_u2 (vR S) a i.toNatClampNeg (x.toInt8.toInt32) a j)))
    rw [vi_u2w (vR S) a i.toNatClampNeg (x.toInt8.toInt32) Value.int, e, arrV_store, ha]
    rfl
  · have h7 : vK S a = 22 := h5
    omega
  · have h7 : 24 ≤ vK S a := h5
    omega
theorem vi_zastore (C : vi_C E X y cc nL ret d mc ms lo) {p' : Nat} {a : Nat} {i x : Int32} (hd : decode cc pc = .ok (.bastore, 1)) (hp : pc + 1 = p') (ha : vK S a = 23) (hi : vp_in i (vN S a)) (hx : narrow .boolean (.int x) = .int x) (kk : vi_W E X nL Z p' lv (st) (sR S a i.toNatClampNeg (x)) sz k n) : vi_W E X nL Z pc lv (.int x :: .int i :: .ref a :: st) S sz k n := by
  subst hp
  intro H locs ls hl hH hS
  obtain ⟨ha0, -, hat⟩ := hH.2.2 a (by omega)
  have hc := hat.2.1 (Or.inr (Or.inr ha))
  rw [ha] at hc
  refine W.zast C.1 C.2.1 hc ((C.2.2.2.2.2.2.2.2.1.2.1 23 (by decide) (by decide)).1 _ _) (fun q => by cases q) (by show ¬ (i < 0 ∨ (arrV _ _ _).slots.size ≤ _); rw [arrV_size]; exact hi) rfl rfl hd fun H1 e z oq => ?_
  refine kk H1 _ ls hl (hH.set z oq rfl (fun b hb => ⟨fun _ _ => rfl, rfl, vi_u2r _ _ hb, rfl, rfl⟩) (fun _ => ?_)) (hS.put ha0 oq)
  refine ⟨fun c' r' h5 h6 => ?_, fun _ => ?_, fun h5 => ?_, fun h5 => ?_⟩
  · have h7 : vK S a = c' + 1 := h5
    have h8 : c' < vwCl.length := (List.getElem?_eq_some_iff.mp h6).1
    have h9 : vwCl.length = 13 := rfl
    omega
  · show H1[a]? = some (arrV (E.2.2.1 (vK S a)) (vN S a) (fun j => .int (vi_u2 (vR S) a i.toNatClampNeg (x) a j)))
    rw [vi_u2w (vR S) a i.toNatClampNeg (x) Value.int, e, arrV_store, ha]
    rw [hx]
  · have h7 : vK S a = 22 := h5
    omega
  · have h7 : 24 ≤ vK S a := h5
    omega
theorem vi_lastore (C : vi_C E X y cc nL ret d mc ms lo) {p' : Nat} {a : Nat} {i : Int32} {x : Int64} (hd : decode cc pc = .ok (.lastore, 1)) (hp : pc + 1 = p') (ha : vK S a = 22) (hi : vp_in i (vN S a)) (kk : vi_W E X nL Z p' lv (st) (sJ S a i.toNatClampNeg x) sz k n) : vi_W E X nL Z pc lv (.long x :: .int i :: .ref a :: st) S sz k n := by
  subst hp
  intro H locs ls hl hH hS
  obtain ⟨ha0, -, hat⟩ := hH.2.2 a (by omega)
  have hc := hat.2.2.1 ha
  refine W.last C.1 C.2.1 hc ((C.2.2.2.2.2.2.2.2.1.2.1 22 (by decide) (by decide)).1 _ _) (fun q => by cases q) (by show ¬ (i < 0 ∨ (arrV _ _ _).slots.size ≤ _); rw [arrV_size]; exact hi) rfl rfl hd fun H1 e z oq => ?_
  refine kk H1 _ ls hl (hH.set z oq rfl (fun b hb => ⟨fun _ _ => rfl, rfl, rfl, vi_u2r _ _ hb, rfl⟩) (fun _ => ?_)) (hS.put ha0 oq)
  refine ⟨fun c' r' h5 h6 => ?_, fun h5 => ?_, fun _ => ?_, fun h5 => ?_⟩
  · have h7 : vK S a = c' + 1 := h5
    have h8 : c' < vwCl.length := (List.getElem?_eq_some_iff.mp h6).1
    have h9 : vwCl.length = 13 := rfl
    omega
  · have h7 : vK S a = 20 ∨ vK S a = 21 ∨ vK S a = 23 := h5
    omega
  · show H1[a]? = some (arrV (E.2.2.1 22) (vN S a) (fun j => .long (vi_u2 (vJ S) a i.toNatClampNeg x a j)))
    rw [vi_u2w (vJ S) a i.toNatClampNeg x Value.long, e, arrV_store]
  · have h7 : 24 ≤ vK S a := h5
    omega
theorem vi_astend {a : Nat} {i : Int32} {o : Option Nat} {H H1 : Heap} (hH : vi_H E S sz H) (ha : 24 ≤ vK S a) (z : H1.size = H.size) (oq : ∀ q, q ≠ a → H1[q]? = H[q]?) (e : H1[a]? = some ((arrV (E.2.2.1 (vK S a)) (vN S a) (fun j => va_rf (vQ S a j))).setSlot i.toNatClampNeg (va_rf o))) : vi_H E (sQ S a i.toNatClampNeg o) sz H1 := by
  refine hH.set z oq rfl (fun b hb => ⟨fun _ _ => rfl, rfl, rfl, rfl, vi_u2r _ _ hb⟩) (fun _ => ?_)
  refine ⟨fun c' r' h5 h6 => ?_, fun h5 => ?_, fun h5 => ?_, fun _ => ?_⟩
  · have h7 : vK S a = c' + 1 := h5
    have h8 : c' < vwCl.length := (List.getElem?_eq_some_iff.mp h6).1
    have h9 : vwCl.length = 13 := rfl
    omega
  · have h7 : vK S a = 20 ∨ vK S a = 21 ∨ vK S a = 23 := h5
    omega
  · have h7 : vK S a = 22 := h5
    omega
  · show H1[a]? = some (arrV (E.2.2.1 (vK S a)) (vN S a) (fun j => va_rf (vi_u2 (vQ S) a i.toNatClampNeg o a j)))
    rw [vi_u2w (vQ S) a i.toNatClampNeg o va_rf, e, arrV_store]
theorem vi_aastore (C : vi_C E X y cc nL ret d mc ms lo) {p' : Nat} {a c : Nat} {i : Int32} {o : Option Nat} {r : vw_C} (hd : decode cc pc = .ok (.aastore, 1)) (hp : pc + 1 = p') (ha : 24 ≤ vK S a) (ha2 : vK S a ≤ 27) (hc : vwCl[c]? = some r) (hcl : vi_aty (vK S a) = .object r.1) (ho : ∀ v, o = some v → vK S v = c + 1) (hi : vp_in i (vN S a)) (kk : vi_W E X nL Z p' lv (st) (sQ S a i.toNatClampNeg o) sz k n) : vi_W E X nL Z pc lv (va_rf o :: .int i :: .ref a :: st) S sz k n := by
  subst hp
  intro H locs ls hl hH hS
  obtain ⟨ha0, -, hat⟩ := hH.2.2 a (by omega)
  have hcell := hat.2.2.2 ha
  have hlt : i.toNatClampNeg < vN S a := Nat.not_le.mp fun q => hi (Or.inr q)
  have h0 : ¬ i < 0 := fun q => hi (Or.inl q)
  have hA := C.2.2.2.2.2.2.2.2.1.2.1 _ (by omega) ha2
  rw [hcl] at hA
  cases o with
  | none =>
    refine va_WaastN (C := r.1) C.1 C.2.1 hcell (hA.1 _ _) (fun q => by cases q) (by show ¬ (i < 0 ∨ (arrV _ _ _).slots.size ≤ _); rw [arrV_size]; exact hi) rfl rfl hd fun H1 e z oq => ?_
    exact kk H1 _ ls hl (vi_astend hH ha z oq e) (hS.put ha0 oq)
  | some v =>
    obtain ⟨-, -, hv1, -⟩ := hH.2.2 v (by rw [ho v rfl]; omega)
    obtain ⟨cellV, g1, g2, g3, -⟩ := hv1 c r (ho v rfl) hc
    have hcls := (C.2.2.2.2.2.2.2.2.1.1.1 c r hc).2
    obtain ⟨kA, comp, k1, k2, k3, -⟩ := hA.2
    have hcomp : comp = E.2.1.1 c := Option.some.inj (k3.symm.trans hcls.1)
    subst hcomp
    obtain ⟨kC, hkC, -⟩ := hcls.2
    refine W.aast C.1 C.2.1 hcell (fun q h => by cases h) (fun h => by cases h) k1 k2 rfl hkC ⟨h0, by show _ < (arrV _ _ _).slots.size; rw [arrV_size]; exact hlt⟩ g1 (fun q h => by rw [g3] at h; cases h) (by rw [g2]; exact hkC) (by rw [g2]; exact va_assign hcls) rfl rfl hd fun H1 e z oq => ?_
    exact kk H1 _ ls hl (vi_astend hH ha z oq e) (hS.put ha0 oq)
def vi_Nl (own : String) (idx c N : Nat) : Prop := ∃ r : vw_C, vwCl[c]? = some r ∧ r.2.2 = N ∧ Cond.classLink own idx r.1 ∈ vi_tb ∧ Cond.instantiable r.1 r.2.2 ∈ vi_tb ∧ Cond.initialized r.1 ∈ vi_tb
theorem vi_dfv (S : vS) (a c j : Nat) : defaultValue (vi_fty c j) = vV (nO S a c) c j a := by
  unfold vV
  by_cases h : (vi_fty c j).isReference = true
  · rw [if_pos h]
    have h2 : vP (nO S a c) (100 * c + j) a = none := by simp [nO, vP]
    rw [h2]
    revert h
    cases vi_fty c j <;> simp [FieldType.isReference, defaultValue, va_rf]
  · rw [if_neg h]
    have h2 : vI (nO S a c) (100 * c + j) a = 0 := by simp [nO, vI]
    rw [h2]
    have hi : vi_fty c j = .int ∨ vi_fty c j = .boolean ∨ (vi_fty c j).isReference = true := by
      rcases (show c = 0 ∨ c = 1 ∨ c = 2 ∨ c = 3 ∨ c = 4 ∨ c = 5 ∨ c = 6 ∨ c = 7 ∨ c = 8 ∨ c = 9 ∨ c = 10 ∨ c = 11 ∨ 12 ≤ c by omega) with h | h | h | h | h | h | h | h | h | h | h | h | h
      · subst h; show tyX0 j = .int ∨ tyX0 j = .boolean ∨ (tyX0 j).isReference = true; unfold tyX0; split <;> simp [FieldType.isReference]
      · subst h; show tyX1 j = .int ∨ tyX1 j = .boolean ∨ (tyX1 j).isReference = true; unfold tyX1; split <;> simp [FieldType.isReference]
      · subst h; show tyX2 j = .int ∨ tyX2 j = .boolean ∨ (tyX2 j).isReference = true; unfold tyX2; split <;> simp [FieldType.isReference]
      · subst h; show tyX3 j = .int ∨ tyX3 j = .boolean ∨ (tyX3 j).isReference = true; unfold tyX3; split <;> simp [FieldType.isReference]
      · subst h; show tyX4 j = .int ∨ tyX4 j = .boolean ∨ (tyX4 j).isReference = true; unfold tyX4; split <;> simp [FieldType.isReference]
      · subst h; show tyX5 j = .int ∨ tyX5 j = .boolean ∨ (tyX5 j).isReference = true; unfold tyX5; split <;> simp [FieldType.isReference]
      · subst h; show tyX6 j = .int ∨ tyX6 j = .boolean ∨ (tyX6 j).isReference = true; unfold tyX6; split <;> simp [FieldType.isReference]
      · subst h; show tyX7 j = .int ∨ tyX7 j = .boolean ∨ (tyX7 j).isReference = true; unfold tyX7; split <;> simp [FieldType.isReference]
      · subst h; show tyX8 j = .int ∨ tyX8 j = .boolean ∨ (tyX8 j).isReference = true; unfold tyX8; split <;> simp [FieldType.isReference]
      · subst h; show tyX9 j = .int ∨ tyX9 j = .boolean ∨ (tyX9 j).isReference = true; unfold tyX9; split <;> simp [FieldType.isReference]
      · subst h; show tyX10 j = .int ∨ tyX10 j = .boolean ∨ (tyX10 j).isReference = true; unfold tyX10; split <;> simp [FieldType.isReference]
      · subst h; show tyX11 j = .int ∨ tyX11 j = .boolean ∨ (tyX11 j).isReference = true; unfold tyX11; split <;> simp [FieldType.isReference]
      · have h12 : vi_fty c j = tyX12 j := by
          unfold vi_fty
          split <;> first | omega | rfl
        rw [h12]; unfold tyX12; split <;> simp [FieldType.isReference]
    rcases hi with hi | hi | hi
    · rw [hi]; rfl
    · rw [hi]; rfl
    · exact absurd hi h
theorem vi_new (C : vi_C E X y cc nL ret d mc ms lo) {p' : Nat} {idx c N : Nat} (hd : decode cc pc = .ok (.new idx, 3)) (hp : pc + 3 = p') (hw : vi_Nl y.cls idx c N) (hk1 : k + 1 ≤ mc) (hn1 : n + N ≤ ms) (kk : vi_W E X nL Z p' lv (.ref sz :: st) (nO S sz c) (sz + 1) (k + 1) (n + N)) : vi_W E X nL Z pc lv (st) S sz k n := by
  subst hp
  intro H locs ls hl hH hS
  obtain ⟨r, hc, hN, w1, w2, w3⟩ := hw
  subst hN
  have hKn := C.2.2.2.2.2.2.2.2.1.1.1 c r hc
  have hR := C.2.2.2.2.2.2.2.2.2.2.2
  obtain ⟨hin, hty, hnm, h100⟩ := vi_cls c r hc
  have h13 : c < 13 := (List.getElem?_eq_some_iff.mp hc).1
  refine W.newcK C.1 C.2.1 C.2.2.2.2.2.1 (C.2.2.2.2.2.2.2.1 _ w1) (C.2.2.2.2.2.2.2.1 _ w2) (C.2.2.2.2.2.2.2.1 _ w3) rfl hd (by rw [hR]; exact hk1) (by rw [hR]; exact hn1) hKn.2.1 hH.1 fun H1 kC hkC e1 z1 o1 => ?_
  refine kk H1 locs ls hl (hH.push z1 o1 (fun b hb => ?_) ?_) (hS.push (by rw [hH.1]; exact hH.2.1) (by rw [hH.1]; exact o1))
  · refine ⟨va_up_ne _ _ hb, fun k' j' => ?_, rfl, rfl, rfl, rfl⟩
    show (if _ then va_rf (if b = sz then none else vP S (100 * k' + j') b) else Value.int (if b = sz then 0 else vI S (100 * k' + j') b)) = _
    rw [if_neg hb, if_neg hb]; rfl
  · have hk9 : vK (nO S sz c) sz = c + 1 := va_up_self _ _ _
    refine ⟨fun c' r' h5 h6 => ?_, fun h5 => ?_, fun h5 => ?_, fun h5 => ?_⟩
    · rw [hk9] at h5
      have : c' = c := by omega
      subst this
      rw [hc] at h6
      cases h6
      exact (u_born (vi_fty c') C.2.2.2.2.2.2.2.1 hin hKn hkC e1 hty).to (fun j _ => vi_dfv S sz c' j)
    · rw [hk9] at h5; omega
    · rw [hk9] at h5; omega
    · rw [hk9] at h5; omega
end VIA
