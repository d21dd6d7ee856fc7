/-! ===== a heap of ours as maps: the kind of each address; int fields and reference fields by number (100 * class + place) and address; arrays: length, ints, longs, references by address and place ===== -/
abbrev vS : Type := (Nat → Nat) × (Nat → Nat → Int32) × (Nat → Nat → Option Nat) × (Nat → Nat) × (Nat → Nat → Int32) × (Nat → Nat → Int64) × (Nat → Nat → Option Nat)
def vK (S : vS) : Nat → Nat := S.1
def vI (S : vS) : Nat → Nat → Int32 := S.2.1
def vP (S : vS) : Nat → Nat → Option Nat := S.2.2.1
def vN (S : vS) : Nat → Nat := S.2.2.2.1
def vR (S : vS) : Nat → Nat → Int32 := S.2.2.2.2.1
def vJ (S : vS) : Nat → Nat → Int64 := S.2.2.2.2.2.1
def vQ (S : vS) : Nat → Nat → Option Nat := S.2.2.2.2.2.2
def vi_u2 {α : Type} (f : Nat → Nat → α) (i a : Nat) (v : α) : Nat → Nat → α := fun j b => if j = i ∧ b = a then v else f j b
theorem vi_u2s {α : Type} (f : Nat → Nat → α) (i a : Nat) (v : α) : vi_u2 f i a v i a = v := by simp [vi_u2]
theorem vi_u2i {α : Type} (f : Nat → Nat → α) {i a j b : Nat} (v : α) (h : j ≠ i) : vi_u2 f i a v j b = f j b := by simp [vi_u2, h]
theorem vi_u2a {α : Type} (f : Nat → Nat → α) {i a j b : Nat} (v : α) (h : b ≠ a) : vi_u2 f i a v j b = f j b := by simp [vi_u2, h]
def sI (S : vS) (i a : Nat) (v : Int32) : vS := (vK S, vi_u2 (vI S) i a v, vP S, vN S, vR S, vJ S, vQ S)
def sP (S : vS) (i a : Nat) (v : Option Nat) : vS := (vK S, vI S, vi_u2 (vP S) i a v, vN S, vR S, vJ S, vQ S)
def sR (S : vS) (a i : Nat) (v : Int32) : vS := (vK S, vI S, vP S, vN S, vi_u2 (vR S) a i v, vJ S, vQ S)
def sJ (S : vS) (a i : Nat) (v : Int64) : vS := (vK S, vI S, vP S, vN S, vR S, vi_u2 (vJ S) a i v, vQ S)
def sQ (S : vS) (a i : Nat) (v : Option Nat) : vS := (vK S, vI S, vP S, vN S, vR S, vJ S, vi_u2 (vQ S) a i v)
/-- a whole row of ints -/
def sW (S : vS) (a : Nat) (f : Nat → Int32) : vS := (vK S, vI S, vP S, vN S, va_up (vR S) a f, vJ S, vQ S)
/-- a new object of class k at a -/
def nO (S : vS) (a k : Nat) : vS := (va_up (vK S) a (k + 1), fun i b => if b = a then 0 else vI S i b, fun i b => if b = a then none else vP S i b, vN S, vR S, vJ S, vQ S)
/-- a new array of kind k and length n at a -/
def nA (S : vS) (a k n : Nat) : vS := (va_up (vK S) a k, vI S, vP S, va_up (vN S) a n, va_up (vR S) a (fun _ => 0), va_up (vJ S) a (fun _ => 0), va_up (vQ S) a (fun _ => none))
def vi_fty (k j : Nat) : FieldType := match k with
  | 0 => tyX0 j
  | 1 => tyX1 j
  | 2 => tyX2 j
  | 3 => tyX3 j
  | 4 => tyX4 j
  | 5 => tyX5 j
  | 6 => tyX6 j
  | 7 => tyX7 j
  | 8 => tyX8 j
  | 9 => tyX9 j
  | 10 => tyX10 j
  | 11 => tyX11 j
  | _ => tyX12 j
def vV (S : vS) (k j a : Nat) : Value := if (vi_fty k j).isReference = true then va_rf (vP S (100 * k + j) a) else .int (vI S (100 * k + j) a)
def vi_aty (k : Nat) : FieldType := match k with
  | 20 => .byte
  | 21 => .int
  | 22 => .long
  | 23 => .boolean
  | 24 => .object RX1
  | 25 => .object RX7
  | 26 => .object RX8
  | _ => .object RX9
/-- launch, class ids and slots, array classes, where ours begins, the script's address, length and contents -/
abbrev vE : Type := Launch × va_G × (Nat → ClassId) × Nat × Nat × Nat × (Nat → Int32)
def vi_at (E : vE) (S : vS) (a : Nat) (H : Heap) : Prop :=
  (∀ (k : Nat) (r : vw_C), vK S a = k + 1 → vwCl[k]? = some r → t_OB a (E.2.1.1 k) r.2.2 (E.2.1.2 k) H (fun j => vV S k j a)) ∧
  (vK S a = 20 ∨ vK S a = 21 ∨ vK S a = 23 → H[a]? = some (arrV (E.2.2.1 (vK S a)) (vN S a) (fun j => .int (vR S a j)))) ∧
  (vK S a = 22 → H[a]? = some (arrV (E.2.2.1 22) (vN S a) (fun j => .long (vJ S a j)))) ∧
  (24 ≤ vK S a → H[a]? = some (arrV (E.2.2.1 (vK S a)) (vN S a) (fun j => va_rf (vQ S a j))))
def vi_H (E : vE) (S : vS) (sz : Nat) (H : Heap) : Prop := H.size = sz ∧ E.2.2.2.1 ≤ sz ∧ ∀ a, vK S a ≠ 0 → E.2.2.2.1 ≤ a ∧ a < sz ∧ vi_at E S a H
def vi_K (E : vE) (U : State) : Prop := va_K E.2.1 vwCl [] U ∧ (∀ k, 20 ≤ k → k ≤ 27 → ArrOfT U (E.2.2.1 k) (vi_aty k) ∧ va_RA U (E.2.2.1 k) (vi_aty k)) ∧ (∀ w ∈ vi_nt, va_Nw w U) ∧ va_AO RX1 U ∧ va_AO RX7 U ∧ va_AO RX8 U ∧ va_AO RX9 U
def vi_S (a0 : Nat) (H0 H : Heap) (locs : List Loc) : Prop := (∀ q : Nat, q < a0 → H[q]? = H0[q]?) ∧ ∀ x ∈ locs, a0 ≤ x.base
theorem vi_S.put {a0 a : Nat} {H0 H H1 : Heap} {locs : List Loc} {j : Nat} (h : vi_S a0 H0 H locs) (ha : a0 ≤ a) (hq : ∀ q, q ≠ a → H1[q]? = H[q]?) : vi_S a0 H0 H1 (locs ++ [⟨a, j⟩]) := by
  refine ⟨fun q hq0 => (hq q (by omega)).trans (h.1 q hq0), fun x hx => ?_⟩
  rcases List.mem_append.mp hx with h1 | h1
  · exact h.2 x h1
  · rw [List.mem_singleton.mp h1]; exact ha
theorem vi_S.push {a0 : Nat} {H0 H H1 : Heap} {locs : List Loc} (h : vi_S a0 H0 H locs) (ha : a0 ≤ H.size) (hq : ∀ q, q < H.size → H1[q]? = H[q]?) : vi_S a0 H0 H1 locs :=
  ⟨fun q hq0 => (hq q (by omega)).trans (h.1 q hq0), h.2⟩
theorem vi_at.kept {E : vE} {S S' : vS} {a : Nat} {H H1 : Heap} (h : vi_at E S a H) (hq : H1[a]? = H[a]?) (hk : vK S' a = vK S a) (hv : ∀ k j, vV S' k j a = vV S k j a) (hn : vN S' a = vN S a) (hr : vR S' a = vR S a) (hj : vJ S' a = vJ S a) (hp : vQ S' a = vQ S a) : vi_at E S' a H1 := by
  obtain ⟨h1, h2, h3, h4⟩ := h
  refine ⟨fun k r e1 e2 => ?_, fun e => ?_, fun e => ?_, fun e => ?_⟩
  · rw [hk] at e1
    exact ((h1 k r e1 e2).kept hq).to (fun j _ => (hv k j).symm)
  · rw [hk] at e ⊢
    rw [hn, hr, hq]; exact h2 e
  · rw [hk] at e
    rw [hn, hj, hq]; exact h3 e
  · rw [hk] at e ⊢
    rw [hn, hp, hq]; exact h4 e
/-- nothing of the maps changed but at one address, whose cell holds what they say -/
theorem vi_H.set {E : vE} {S S' : vS} {sz a : Nat} {H H1 : Heap} (h : vi_H E S sz H) (hz : H1.size = H.size) (hq : ∀ q, q ≠ a → H1[q]? = H[q]?) (hk : vK S' = vK S)
    (hv : ∀ b, b ≠ a → (∀ k j, vV S' k j b = vV S k j b) ∧ vN S' b = vN S b ∧ vR S' b = vR S b ∧ vJ S' b = vJ S b ∧ vQ S' b = vQ S b) (ha : vK S a ≠ 0 → vi_at E S' a H1) : vi_H E S' sz H1 := by
  refine ⟨hz.trans h.1, h.2.1, fun b hb => ?_⟩
  rw [hk] at hb
  obtain ⟨h1, h2, h3⟩ := h.2.2 b hb
  refine ⟨h1, h2, ?_⟩
  by_cases e : b = a
  · subst e
    exact ha hb
  · obtain ⟨g1, g2, g3, g4, g5⟩ := hv b e
    exact h3.kept (hq b e) (by rw [hk]) g1 g2 g3 g4 g5
theorem vi_H.push {E : vE} {S S' : vS} {sz : Nat} {H H1 : Heap} (h : vi_H E S sz H) (hz : H1.size = sz + 1) (hq : ∀ q, q < sz → H1[q]? = H[q]?) 
    (hv : ∀ b, b ≠ sz → vK S' b = vK S b ∧ (∀ k j, vV S' k j b = vV S k j b) ∧ vN S' b = vN S b ∧ vR S' b = vR S b ∧ vJ S' b = vJ S b ∧ vQ S' b = vQ S b) (ha : vi_at E S' sz H1) : vi_H E S' (sz + 1) H1 := by
  refine ⟨hz, by have := h.2.1; omega, fun b hb => ?_⟩
  by_cases e : b = sz
  · subst e
    exact ⟨h.2.1, by omega, ha⟩
  · obtain ⟨g0, g1, g2, g3, g4, g5⟩ := hv b e
    rw [g0] at hb
    obtain ⟨h1, h2, h3⟩ := h.2.2 b hb
    exact ⟨h1, by omega, h3.kept (hq b h2) g0 g1 g2 g3 g4 g5⟩
theorem vi_nt_warm {w : Cond} (hw : w ∈ vi_nt) {s U : State} (hW : s.WarmedH U.vm) (h : va_Nw w s) : va_Nw w U := by
  have h1 := (List.mem_filter.mp hw).2
  cases w <;> first | exact va_Nw.warmF hW h | exact va_Nw.warmM hW h | exact va_Nw.warmC hW h | (simp at h1)
theorem vi_nt_tab {w : Cond} (hw : w ∈ vi_nt) : w.onTables = true := by
  have h1 := (List.mem_filter.mp hw).2
  cases w <;> first | rfl | (simp at h1)
theorem vi_K.warm {E : vE} {s U : State} (hW : s.WarmedH U.vm) (h : vi_K E s) : vi_K E U :=
  ⟨va_K.moved hW.alike h.1, fun k h1 h2 => ⟨arrOfT_moved hW.alike (h.2.1 k h1 h2).1, (h.2.1 k h1 h2).2.moved hW.alike⟩, fun w hw => vi_nt_warm hw hW (h.2.2.1 w hw), h.2.2.2.1.moved hW.alike, h.2.2.2.2.1.moved hW.alike, h.2.2.2.2.2.1.moved hW.alike, h.2.2.2.2.2.2.moved hW.alike⟩
theorem vi_K.same {E : vE} {s U : State} (e : s.vm = U.vm) (h : vi_K E s) : vi_K E U :=
  ⟨va_K.moved (e ▸ Vm.Alike.refl s.vm) h.1, fun k h1 h2 => ⟨arrOfT_moved (e ▸ Vm.Alike.refl s.vm) (h.2.1 k h1 h2).1, (h.2.1 k h1 h2).2.moved (e ▸ Vm.Alike.refl s.vm)⟩, fun w hw => va_Nw.same (vi_nt_tab hw) e (h.2.2.1 w hw), h.2.2.2.1.moved (e ▸ Vm.Alike.refl s.vm), h.2.2.2.2.1.moved (e ▸ Vm.Alike.refl s.vm), h.2.2.2.2.2.1.moved (e ▸ Vm.Alike.refl s.vm), h.2.2.2.2.2.2.moved (e ▸ Vm.Alike.refl s.vm)⟩
