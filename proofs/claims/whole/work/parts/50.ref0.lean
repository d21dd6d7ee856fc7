/-! ===== the reference as a pure machine: its int fields and its rows; steps as functions, none where it would throw ===== -/
abbrev vM : Type := (Nat → Int32) × (Nat → Nat → Int32)
def mL (j : Nat) : Nat := match j with
  | 0 => 4200
  | 1 => 4200
  | 2 => 4200
  | 3 => 4200
  | 4 => 4200
  | 5 => 67200
  | 6 => 9
  | 7 => 9
  | 8 => 9
  | 9 => 9
  | 10 => 9
  | 11 => 9
  | 12 => 9
  | 13 => 9
  | 14 => 5760
  | 15 => 360
  | 16 => 360
  | 17 => 144
  | 18 => 144
  | 19 => 9
  | 20 => 9
  | 21 => 9
  | 22 => 9
  | 23 => 9
  | 24 => 9
  | 25 => 9
  | 26 => 72
  | 27 => 9
  | 28 => 2304
  | 29 => 57600
  | 30 => 9
  | 31 => 9
  | 32 => 9
  | 33 => 9
  | 34 => 9
  | 35 => 9
  | 36 => 294912
  | 37 => 100
  | 38 => 2400
  | 39 => 1608
  | 40 => 20100
  | 41 => 201
  | 42 => 400
  | 43 => 9
  | 44 => 9
  | 45 => 100
  | 46 => 16
  | 47 => 16
  | 48 => 16
  | 49 => 16
  | 50 => 16
  | 51 => 16
  | 52 => 16
  | 53 => 16
  | 54 => 256
  | _ => 0
def mKd (j : Nat) : Nat := match j with
  | 0 => 21
  | 1 => 21
  | 2 => 21
  | 3 => 21
  | 4 => 21
  | 5 => 21
  | 6 => 23
  | 7 => 21
  | 8 => 21
  | 9 => 21
  | 10 => 21
  | 11 => 21
  | 12 => 21
  | 13 => 21
  | 14 => 21
  | 15 => 21
  | 16 => 21
  | 17 => 21
  | 18 => 21
  | 19 => 21
  | 20 => 21
  | 21 => 21
  | 22 => 21
  | 23 => 21
  | 24 => 21
  | 25 => 21
  | 26 => 21
  | 27 => 21
  | 28 => 21
  | 29 => 21
  | 30 => 21
  | 31 => 21
  | 32 => 21
  | 33 => 21
  | 34 => 21
  | 35 => 21
  | 36 => 20
  | 37 => 21
  | 38 => 21
  | 39 => 21
  | 40 => 21
  | 41 => 21
  | 42 => 21
  | 43 => 21
  | 44 => 21
  | 45 => 21
  | 46 => 21
  | 47 => 21
  | 48 => 21
  | 49 => 21
  | 50 => 21
  | 51 => 21
  | 52 => 23
  | 53 => 21
  | 54 => 21
  | _ => 0
def mFd (j : Nat) : Nat := match j with
  | 0 => 5
  | 1 => 6
  | 2 => 7
  | 3 => 8
  | 4 => 9
  | 5 => 10
  | 6 => 12
  | 7 => 13
  | 8 => 14
  | 9 => 15
  | 10 => 16
  | 11 => 17
  | 12 => 18
  | 13 => 19
  | 14 => 20
  | 15 => 21
  | 16 => 22
  | 17 => 23
  | 18 => 24
  | 19 => 25
  | 20 => 26
  | 21 => 27
  | 22 => 28
  | 23 => 29
  | 24 => 30
  | 25 => 31
  | 26 => 32
  | 27 => 33
  | 28 => 34
  | 29 => 35
  | 30 => 36
  | 31 => 37
  | 32 => 38
  | 33 => 39
  | 34 => 40
  | 35 => 41
  | 36 => 42
  | 37 => 43
  | 38 => 44
  | 39 => 46
  | 40 => 47
  | 41 => 48
  | 42 => 49
  | 43 => 51
  | 44 => 52
  | 45 => 57
  | 46 => 59
  | 47 => 60
  | 48 => 61
  | 49 => 62
  | 50 => 63
  | 51 => 64
  | 52 => 65
  | 53 => 66
  | 54 => 67
  | _ => 0
def mG (M : vM) (j : Nat) (i : Int32) : Option Int32 := if i < 0 ∨ mL j ≤ i.toNatClampNeg then none else some (M.2 j i.toNatClampNeg)
def mS (M : vM) (j : Nat) (i v : Int32) : Option vM := if i < 0 ∨ mL j ≤ i.toNatClampNeg then none else some (M.1, vi_u2 M.2 j i.toNatClampNeg v)
def mW (M : vM) (f : Nat) (v : Int32) : vM := (fun g => if g = f then v else M.1 g, M.2)
/-- a continuation that several roads share -/
def jn {κ ρ : Type} (K : κ) (B : κ → Option ρ) : Option ρ := B K
def lt1 {α ρ : Type} (x : α) (K : α → Option ρ) : Option ρ := K x
def b2 {α β ρ : Type} (o : Option (α × β)) (K : α → β → Option ρ) : Option ρ := match o with
  | some p => K p.1 p.2
  | none => none
/-- a test's answer must be 0 or 1 -/
def zb {ρ : Type} (v : Int32) (x : Option ρ) : Option ρ := if v = 0 ∨ v = 1 then x else none
def gd {ρ : Type} (p : Prop) [Decidable p] (x : Option ρ) : Option ρ := if p then x else none
/-- enough turns for every loop -/
def fu : Nat := 32768
theorem iT {ρ : Type} {p : Prop} [Decidable p] {a b : Option ρ} {R : Option ρ} (c : p) (h : (if p then a else b) = R) : a = R := by rwa [if_pos c] at h
theorem iN {ρ : Type} {p : Prop} [Decidable p] {a b : Option ρ} {R : Option ρ} (c : ¬ p) (h : (if p then a else b) = R) : b = R := by rwa [if_neg c] at h
theorem gdo {ρ : Type} {p : Prop} [Decidable p] {a : Option ρ} {R : ρ} (h : gd p a = some R) : p ∧ a = some R := by
  unfold gd at h
  by_cases c : p
  · rw [if_pos c] at h; exact ⟨c, h⟩
  · rw [if_neg c] at h; cases h
theorem r_jn {κ ρ : Type} {K : κ} {B : κ → Option ρ} {R : ρ} {P : Prop} (h : jn K B = some R) (Q : κ → Prop) (h1 : Q K) (h2 : ∀ k, Q k → B k = some R → P) : P := h2 K h1 h
theorem bdo {α ρ : Type} {o : Option α} {K : α → Option ρ} {R : ρ} (h : o.bind K = some R) : ∃ a, o = some a ∧ K a = some R := by
  cases o with
  | none => cases h
  | some a => exact ⟨a, rfl, h⟩
theorem b2o {α β ρ : Type} {o : Option (α × β)} {K : α → β → Option ρ} {R : ρ} (h : b2 o K = some R) : ∃ a b, o = some (a, b) ∧ K a b = some R := by
  cases o with
  | none => cases h
  | some p => exact ⟨p.1, p.2, rfl, h⟩
theorem zbo {ρ : Type} {v : Int32} {x : Option ρ} {R : ρ} (h : zb v x = some R) : narrow .boolean (.int v) = .int v ∧ fits .boolean (.int v) = true ∧ x = some R := by
  unfold zb at h
  by_cases c : v = 0 ∨ v = 1
  · rw [if_pos c] at h
    rcases c with rfl | rfl
    · exact ⟨rfl, rfl, h⟩
    · exact ⟨rfl, rfl, h⟩
  · rw [if_neg c] at h; cases h
theorem mtj : ∀ j, j < 55 → mtab (mFd j) = some (j, mKd j, mL j) := by decide +kernel
theorem mkj {j : Nat} (h : mKd j ≠ 0) : j < 55 := by
  by_cases c : j < 55
  · exact c
  · exfalso
    apply h
    unfold mKd
    split <;> first | omega | rfl
/-- the heap holds the pure machine M: the reference m with its rows from b on -/
def RM (S : vS) (sz m b : Nat) (M : vM) : Prop := MO S sz m b ∧ (∀ f, vI S (1200 + f) m = M.1 f) ∧ ∀ j, j < 55 → ∀ i, vR S (b + j) i = M.2 j i
/-- nothing changed but the reference -/
def rF (S0 S : vS) (m b : Nat) : Prop := vK S = vK S0 ∧ vP S = vP S0 ∧ vN S = vN S0 ∧ vJ S = vJ S0 ∧ vQ S = vQ S0 ∧ (∀ i a, a ≠ m → vI S i a = vI S0 i a) ∧ ∀ a, ¬ (b ≤ a ∧ a < b + 55) → vR S a = vR S0 a
theorem rF.refl (S : vS) (m b : Nat) : rF S S m b := ⟨rfl, rfl, rfl, rfl, rfl, fun _ _ _ => rfl, fun _ _ => rfl⟩
theorem rF.tr {S S1 S2 : vS} {m b : Nat} (h : rF S S1 m b) (g : rF S1 S2 m b) : rF S S2 m b :=
  ⟨g.1.trans h.1, g.2.1.trans h.2.1, g.2.2.1.trans h.2.2.1, g.2.2.2.1.trans h.2.2.2.1, g.2.2.2.2.1.trans h.2.2.2.2.1, fun i a q => (g.2.2.2.2.2.1 i a q).trans (h.2.2.2.2.2.1 i a q), fun a q => (g.2.2.2.2.2.2 a q).trans (h.2.2.2.2.2.2 a q)⟩
theorem RM.kind {S : vS} {sz m b j : Nat} {M : vM} (h : RM S sz m b M) (hj : mKd j ≠ 0) : vK S (b + j) = mKd j ∧ vN S (b + j) = mL j := by
  obtain ⟨-, g2, g3, -⟩ := h.1.2.2 _ _ _ _ (mtj j (mkj hj))
  exact ⟨g2, g3⟩
theorem RM.put {S S0 : vS} {sz m b : Nat} {M : vM} (h : RM S sz m b M) (g : rF S0 S m b) (f : Nat) (v : Int32) : RM (sI S (1200 + f) m v) sz m b (mW M f v) ∧ rF S0 (sI S (1200 + f) m v) m b := by
  refine ⟨⟨h.1, fun f' => ?_, h.2.2⟩, g.1, g.2.1, g.2.2.1, g.2.2.2.1, g.2.2.2.2.1, fun i a q => ?_, g.2.2.2.2.2.2⟩
  · show vi_u2 (vI S) (1200 + f) m v (1200 + f') m = if f' = f then v else M.1 f'
    by_cases e : f' = f
    · subst e; rw [vi_u2s, if_pos rfl]
    · rw [vi_u2i _ _ (by omega), if_neg e]; exact h.2.1 f'
  · show vi_u2 (vI S) (1200 + f) m v i a = _
    rw [vi_u2a _ _ q]; exact g.2.2.2.2.2.1 i a q
theorem RM.sto {S S0 : vS} {sz m b j : Nat} {M : vM} (h : RM S sz m b M) (g : rF S0 S m b) (hj : j < 55) (i : Nat) (v : Int32) : RM (sR S (b + j) i v) sz m b (M.1, vi_u2 M.2 j i v) ∧ rF S0 (sR S (b + j) i v) m b := by
  refine ⟨⟨h.1, h.2.1, fun j' hj' i' => ?_⟩, g.1, g.2.1, g.2.2.1, g.2.2.2.1, g.2.2.2.2.1, g.2.2.2.2.2.1, fun a q => ?_⟩
  · show vi_u2 (vR S) (b + j) i v (b + j') i' = vi_u2 M.2 j i v j' i'
    by_cases e : j' = j ∧ i' = i
    · obtain ⟨rfl, rfl⟩ := e; rw [vi_u2s, vi_u2s]
    · have e2 : ¬ (b + j' = b + j ∧ i' = i) := fun q => e ⟨by omega, q.2⟩
      unfold vi_u2
      rw [if_neg e2, if_neg e]; exact h.2.2 j' hj' i'
  · show vi_u2 (vR S) (b + j) i v a = _
    rw [vi_u2r _ _ (by omega)]; exact g.2.2.2.2.2.2 a q
theorem mGo {M : vM} {j : Nat} {i : Int32} {ρ : Type} {K : Int32 → Option ρ} {R : ρ} (h : (mG M j i).bind K = some R) : vp_in i (mL j) ∧ K (M.2 j i.toNatClampNeg) = some R := by
  unfold mG at h
  by_cases c : i < 0 ∨ mL j ≤ i.toNatClampNeg
  · rw [if_pos c] at h; cases h
  · rw [if_neg c] at h; exact ⟨c, h⟩
theorem mSo {M : vM} {j : Nat} {i v : Int32} {ρ : Type} {K : vM → Option ρ} {R : ρ} (h : (mS M j i v).bind K = some R) : vp_in i (mL j) ∧ K (M.1, vi_u2 M.2 j i.toNatClampNeg v) = some R := by
  unfold mS at h
  by_cases c : i < 0 ∨ mL j ≤ i.toNatClampNeg
  · rw [if_pos c] at h; cases h
  · rw [if_neg c] at h; exact ⟨c, h⟩
section RMW
variable {E : vE} {X : vX} {y : MethodName} {cc : ByteArray} {nL : Nat} {ret : Option FieldType} {d mc ms lo : Nat} {Z : State → Prop} {pc : Nat} {lv : List (Nat × Value)} {st : List Value} {S S0 : vS} {sz k n m b : Nat} {M : vM} {ρ : Type} {R : ρ}
theorem vi_iincv (C : vi_C E X y cc nL ret d mc ms lo) {p' : Nat} {q : Nat} {i : Int} {x : Int32} (v : Int32) (hd : decode cc pc = .ok (.iinc q i, 3)) (hp : pc + 3 = p') (hv : vi_lk lv q = some (.int x)) (hn : q < nL) (hi : Int32.ofInt i = v) (kk : vi_W E X nL Z p' (vi_s1 lv q (.int (x + v))) st S sz k n) : vi_W E X nL Z pc lv st S sz k n := vi_iinc C hd hp hv hn (by rw [hi]; exact kk)
theorem vi_tswO (C : vi_C E X y cc nL ret d mc ms lo) {dflt l h : Int} {offs : Array Int} {len : Nat} {x : Int32} {t' : Nat} (hd : decode cc pc = .ok (.tableswitch dflt l h offs, len)) (hx : x.toInt < l ∨ h < x.toInt) (ht : (pc : Int) + dflt = (t' : Int)) (kk : vi_W E X nL Z t' lv st S sz k n) : vi_W E X nL Z pc lv (.int x :: st) S sz k n := by
  intro H locs ls hl hH hS
  exact lv_tableOut C.1 C.2.1 hd hx ht (kk H locs ls hl hH hS)
theorem vi_tswI (C : vi_C E X y cc nL ret d mc ms lo) {dflt l h off : Int} {offs : Array Int} {len : Nat} {x v : Int32} {t' : Nat} (hx : x = v) (hd : decode cc pc = .ok (.tableswitch dflt l h offs, len)) (h1 : ¬ v.toInt < l) (h2 : ¬ h < v.toInt) (ho : offs[(v.toInt - l).toNat]? = some off) (ht : (pc : Int) + off = (t' : Int)) (kk : vi_W E X nL Z t' lv st S sz k n) : vi_W E X nL Z pc lv (.int x :: st) S sz k n := by
  subst hx
  intro H locs ls hl hH hS
  exact lv_tableIn C.1 C.2.1 hd h1 h2 ho ht (kk H locs ls hl hH hS)
theorem tne {x v : Int32} {w : Int} (h : ¬ x = v) (hv : v.toInt = w) : x.toInt ≠ w := fun e => h (Int32.toInt_inj.mp (e.trans hv.symm))
theorem r_geti (C : vi_C E X y cc nL ret d mc ms lo) {p' idx f : Nat} (hd : decode cc pc = .ok (.getfield idx, 3)) (hp : pc + 3 = p') (hf : vi_Fl y.cls idx 12 f) (hr : (vi_fty 12 f).isReference = false) (hR : RM S sz m b M) (kk : vi_W E X nL Z p' lv (.int (M.1 f) :: st) S sz k n) : vi_W E X nL Z pc lv (.ref m :: st) S sz k n :=
  vi_geti (i := 1200 + f) C hd hp hf hR.1.2.1 hr rfl (by rw [hR.2.1 f]; exact kk)
theorem r_geta (C : vi_C E X y cc nL ret d mc ms lo) {p' idx f j κ L : Nat} (hd : decode cc pc = .ok (.getfield idx, 3)) (hp : pc + 3 = p') (hf : vi_Fl y.cls idx 12 f) (hr : (vi_fty 12 f).isReference = true) (hR : RM S sz m b M) (ht : mtab f = some (j, κ, L)) (kk : vi_W E X nL Z p' lv (.ref (b + j) :: st) S sz k n) : vi_W E X nL Z pc lv (.ref m :: st) S sz k n :=
  vi_getr (i := 1200 + f) C hd hp hf hR.1.2.1 hr rfl (hR.1.2.2 f j κ L ht).1 kk
theorem r_puti (C : vi_C E X y cc nL ret d mc ms lo) {p' idx f : Nat} {v : Int32} {K : vM → Option ρ} (hd : decode cc pc = .ok (.putfield idx, 3)) (hp : pc + 3 = p') (hf : vi_Fp y.cls y.name idx 12 f) (hr : vi_fty 12 f = .int) (hR : RM S sz m b M) (hF : rF S0 S m b) (h : lt1 (mW M f v) K = some R) (kk : ∀ S M, K M = some R → RM S sz m b M → rF S0 S m b → vi_W E X nL Z p' lv st S sz k n) : vi_W E X nL Z pc lv (.int v :: .ref m :: st) S sz k n :=
  vi_puti (i := 1200 + f) C hd hp hf hR.1.2.1 (by rw [hr]; rfl) rfl (by decide) (by rw [hr]; rfl) (by rw [hr]; rfl) (kk _ _ h (hR.put hF f v).1 (hR.put hF f v).2)

theorem r_iaload (C : vi_C E X y cc nL ret d mc ms lo) {p' j : Nat} {i : Int32} {K : Int32 → Option ρ} (hd : decode cc pc = .ok (.iaload, 1)) (hp : pc + 1 = p') (hj : mKd j = 21) (hR : RM S sz m b M) (h : (mG M j i).bind K = some R) (kk : ∀ v, K v = some R → vi_W E X nL Z p' lv (.int v :: st) S sz k n) : vi_W E X nL Z pc lv (.int i :: .ref (b + j) :: st) S sz k n := by
  have hk := hR.kind (j := j) (by rw [hj]; decide)
  obtain ⟨h1, h2⟩ := mGo h
  refine vi_iaload C hd hp (hk.1.trans hj) (by rw [hk.2]; exact h1) ?_
  rw [hR.2.2 j (mkj (by rw [hj]; decide))]
  exact kk _ h2

theorem r_baload (C : vi_C E X y cc nL ret d mc ms lo) {p' j : Nat} {i : Int32} {K : Int32 → Option ρ} (hd : decode cc pc = .ok (.baload, 1)) (hp : pc + 1 = p') (hj : mKd j = 20) (hR : RM S sz m b M) (h : (mG M j i).bind K = some R) (kk : ∀ v, K v = some R → vi_W E X nL Z p' lv (.int v :: st) S sz k n) : vi_W E X nL Z pc lv (.int i :: .ref (b + j) :: st) S sz k n := by
  have hk := hR.kind (j := j) (by rw [hj]; decide)
  obtain ⟨h1, h2⟩ := mGo h
  refine vi_baload C hd hp (hk.1.trans hj) (by rw [hk.2]; exact h1) ?_
  rw [hR.2.2 j (mkj (by rw [hj]; decide))]
  exact kk _ h2

theorem r_zaload (C : vi_C E X y cc nL ret d mc ms lo) {p' j : Nat} {i : Int32} {K : Int32 → Option ρ} (hd : decode cc pc = .ok (.baload, 1)) (hp : pc + 1 = p') (hj : mKd j = 23) (hR : RM S sz m b M) (h : (mG M j i).bind K = some R) (kk : ∀ v, K v = some R → vi_W E X nL Z p' lv (.int v :: st) S sz k n) : vi_W E X nL Z pc lv (.int i :: .ref (b + j) :: st) S sz k n := by
  have hk := hR.kind (j := j) (by rw [hj]; decide)
  obtain ⟨h1, h2⟩ := mGo h
  refine vi_zaload C hd hp (hk.1.trans hj) (by rw [hk.2]; exact h1) ?_
  rw [hR.2.2 j (mkj (by rw [hj]; decide))]
  exact kk _ h2

theorem r_iastore (C : vi_C E X y cc nL ret d mc ms lo) {p' j : Nat} {i x : Int32} {K : vM → Option ρ} (hd : decode cc pc = .ok (.iastore, 1)) (hp : pc + 1 = p') (hj : mKd j = 21) (hR : RM S sz m b M) (hF : rF S0 S m b) (h : (mS M j i (x)).bind K = some R) (kk : ∀ S M, K M = some R → RM S sz m b M → rF S0 S m b → vi_W E X nL Z p' lv st S sz k n) : vi_W E X nL Z pc lv (.int x :: .int i :: .ref (b + j) :: st) S sz k n := by
  have hk := hR.kind (j := j) (by rw [hj]; decide)
  obtain ⟨h1, h2⟩ := mSo h
  have h3 := hR.sto hF (mkj (j := j) (by rw [hj]; decide)) i.toNatClampNeg (x)
  exact vi_iastore C hd hp (hk.1.trans hj) (by rw [hk.2]; exact h1) (kk _ _ h2 h3.1 h3.2)

theorem r_bastore (C : vi_C E X y cc nL ret d mc ms lo) {p' j : Nat} {i x : Int32} {K : vM → Option ρ} (hd : decode cc pc = .ok (.bastore, 1)) (hp : pc + 1 = p') (hj : mKd j = 20) (hR : RM S sz m b M) (hF : rF S0 S m b) (h : (mS M j i (x.toInt8.toInt32)).bind K = some R) (kk : ∀ S M, K M = some R → RM S sz m b M → rF S0 S m b → vi_W E X nL Z p' lv st S sz k n) : vi_W E X nL Z pc lv (.int x :: .int i :: .ref (b + j) :: st) S sz k n := by
  have hk := hR.kind (j := j) (by rw [hj]; decide)
  obtain ⟨h1, h2⟩ := mSo h
  have h3 := hR.sto hF (mkj (j := j) (by rw [hj]; decide)) i.toNatClampNeg (x.toInt8.toInt32)
  exact vi_bastore C hd hp (hk.1.trans hj) (by rw [hk.2]; exact h1) (kk _ _ h2 h3.1 h3.2)

theorem r_zastore (C : vi_C E X y cc nL ret d mc ms lo) {p' j : Nat} {i x : Int32} {K : vM → Option ρ} (hd : decode cc pc = .ok (.bastore, 1)) (hp : pc + 1 = p') (hj : mKd j = 23) (hR : RM S sz m b M) (hF : rF S0 S m b) (h : zb x ((mS M j i x).bind K) = some R) (kk : ∀ S M, K M = some R → RM S sz m b M → rF S0 S m b → vi_W E X nL Z p' lv st S sz k n) : vi_W E X nL Z pc lv (.int x :: .int i :: .ref (b + j) :: st) S sz k n := by
  have hk := hR.kind (j := j) (by rw [hj]; decide)
  obtain ⟨hz, -, h⟩ := zbo h
  obtain ⟨h1, h2⟩ := mSo h
  have h3 := hR.sto hF (mkj (j := j) (by rw [hj]; decide)) i.toNatClampNeg x
  exact vi_zastore C hd hp (hk.1.trans hj) (by rw [hk.2]; exact h1) hz (kk _ _ h2 h3.1 h3.2)
/-- what a method of the reference leaves: no answer, an int, a long -/
def Q0 (S0 : vS) (sz m b : Nat) (M : vM) : Option Value → vS → Nat → Prop := fun rv S1 z1 => rv = none ∧ z1 = sz ∧ RM S1 sz m b M ∧ rF S0 S1 m b
def Q1 (S0 : vS) (sz m b : Nat) (R : vM × Int32) : Option Value → vS → Nat → Prop := fun rv S1 z1 => rv = some (.int R.2) ∧ z1 = sz ∧ RM S1 sz m b R.1 ∧ rF S0 S1 m b
def Q2 (S0 : vS) (sz m b : Nat) (R : vM × Int64) : Option Value → vS → Nat → Prop := fun rv S1 z1 => rv = some (.long R.2) ∧ z1 = sz ∧ RM S1 sz m b R.1 ∧ rF S0 S1 m b
theorem r_ret0 (C : vi_C E X y cc nL ret d mc ms lo) {R : vM} (hd : decode cc pc = .ok (.return_, 1)) (hr : ret = none) (hR : RM S sz m b M) (hF : rF S0 S m b) (h : some M = some R) : vi_W E X nL (vi_Z E X (Q0 S0 sz m b R) 0 0) pc lv [] S sz 0 0 := by
  cases h
  exact vi_return C hd hr (Nat.le_refl _) (Nat.le_refl _) ⟨rfl, rfl, hR, hF⟩
theorem r_ret1 (C : vi_C E X y cc nL ret d mc ms lo) {v : Int32} {R : vM × Int32} (hd : decode cc pc = .ok (.ireturn, 1)) (hr : ret = some .int) (hR : RM S sz m b M) (hF : rF S0 S m b) (h : some (M, v) = some R) : vi_W E X nL (vi_Z E X (Q1 S0 sz m b R) 0 0) pc lv [.int v] S sz 0 0 := by
  cases h
  exact vi_ireturn C hd hr rfl (Nat.le_refl _) (Nat.le_refl _) ⟨rfl, rfl, hR, hF⟩
theorem r_retz (C : vi_C E X y cc nL ret d mc ms lo) {v : Int32} {R : vM × Int32} (hd : decode cc pc = .ok (.ireturn, 1)) (hr : ret = some .boolean) (hR : RM S sz m b M) (hF : rF S0 S m b) (h : zb v (some (M, v)) = some R) : vi_W E X nL (vi_Z E X (Q1 S0 sz m b R) 0 0) pc lv [.int v] S sz 0 0 := by
  obtain ⟨hz, -, h⟩ := zbo h
  cases h
  exact vi_ireturn C hd hr hz (Nat.le_refl _) (Nat.le_refl _) ⟨rfl, rfl, hR, hF⟩
theorem r_ret2 (C : vi_C E X y cc nL ret d mc ms lo) {v : Int64} {R : vM × Int64} (hd : decode cc pc = .ok (.lreturn, 1)) (hr : ret = some .long) (hR : RM S sz m b M) (hF : rF S0 S m b) (h : some (M, v) = some R) : vi_W E X nL (vi_Z E X (Q2 S0 sz m b R) 0 0) pc lv [.long v] S sz 0 0 := by
  cases h
  exact vi_lreturn C hd hr (Nat.le_refl _) (Nat.le_refl _) ⟨rfl, rfl, hR, hF⟩
theorem r_cv0 (C : vi_C E X y cc nL ret d mc ms lo) {p' idx : Nat} {y' : MethodName} {cc' : ByteArray} {nL' : Nat} {ret' : Option FieldType} {d' : Nat} {o : Option vM} {K : vM → Option ρ} (As rest : List Value) (hd : decode cc pc = .ok (.invokevirtual idx, 3)) (hp : pc + 3 = p') (hi : vi_Iv y.cls idx y' cc' nL' ret' As.length) (hi2 : Cond.instanceMethod y' ∈ vi_tb ∧ Cond.selects y'.cls y' y' ∈ vi_tb) (hcl : RX12 = y'.cls) (hR : RM S sz m b M) (hF : rF S0 S m b) (h : o.bind K = some R) (hM : ∀ M1, o = some M1 → vi_Met E y' cc' nL' ret' d' 0 0 (.ref m :: As) S sz (Q0 S sz m b M1)) (hst : st = As.reverse ++ .ref m :: rest) (hrs : (rest.map fun v => v.category).sum ≤ 8) (hdp : d' + 1 ≤ d ∧ 8 + (nL' + 11) + 45 * d' ≤ lo) (hk : k ≤ mc ∧ n ≤ ms)
    (kk : ∀ S M, K M = some R → RM S sz m b M → rF S0 S m b → vi_W E X nL Z p' lv rest S sz k n) : vi_W E X nL Z pc lv st S sz k n := by
  obtain ⟨M1, h1, h2⟩ := bdo h
  refine vi_callV (c := 12) C As rest hd hp hi hi2 rfl hcl hR.1.2.1 (hM M1 h1) hst hrs hdp hk (fun v S' sz' q => ?_)
  obtain ⟨rfl, rfl, q3, q4⟩ := q
  exact kk S' M1 h2 q3 (hF.tr q4)
theorem r_cv1 (C : vi_C E X y cc nL ret d mc ms lo) {p' idx : Nat} {y' : MethodName} {cc' : ByteArray} {nL' : Nat} {ret' : Option FieldType} {d' : Nat} {o : Option (vM × Int32)} {K : vM → Int32 → Option ρ} (As rest : List Value) (hd : decode cc pc = .ok (.invokevirtual idx, 3)) (hp : pc + 3 = p') (hi : vi_Iv y.cls idx y' cc' nL' ret' As.length) (hi2 : Cond.instanceMethod y' ∈ vi_tb ∧ Cond.selects y'.cls y' y' ∈ vi_tb) (hcl : RX12 = y'.cls) (hR : RM S sz m b M) (hF : rF S0 S m b) (h : b2 o K = some R) (hM : ∀ M1, o = some M1 → vi_Met E y' cc' nL' ret' d' 0 0 (.ref m :: As) S sz (Q1 S sz m b M1)) (hst : st = As.reverse ++ .ref m :: rest) (hrs : (rest.map fun v => v.category).sum ≤ 8) (hdp : d' + 1 ≤ d ∧ 8 + (nL' + 11) + 45 * d' ≤ lo) (hk : k ≤ mc ∧ n ≤ ms)
    (kk : ∀ S M v, K M v = some R → RM S sz m b M → rF S0 S m b → vi_W E X nL Z p' lv (.int v :: rest) S sz k n) : vi_W E X nL Z pc lv st S sz k n := by
  obtain ⟨M1, v1, h1, h2⟩ := b2o h
  refine vi_callV (c := 12) C As rest hd hp hi hi2 rfl hcl hR.1.2.1 (hM _ h1) hst hrs hdp hk (fun v S' sz' q => ?_)
  obtain ⟨rfl, rfl, q3, q4⟩ := q
  exact kk S' M1 v1 h2 q3 (hF.tr q4)
theorem r_cs1 (C : vi_C E X y cc nL ret d mc ms lo) {p' idx : Nat} {y' : MethodName} {cc' : ByteArray} {nL' : Nat} {ret' : Option FieldType} {d' : Nat} {o : Option (vM × Int32)} {K : vM → Int32 → Option ρ} (As rest : List Value) (hd : decode cc pc = .ok (.invokestatic idx, 3)) (hp : pc + 3 = p') (hi : vi_Iv y.cls idx y' cc' nL' ret' As.length) (hi2 : Cond.static y' ∈ vi_tb) (hR : RM S sz m b M) (hF : rF S0 S m b) (h : b2 o K = some R) (hM : ∀ M1, o = some M1 → vi_Met E y' cc' nL' ret' d' 0 0 As S sz (Q1 S sz m b M1)) (hst : st = As.reverse ++ rest) (hrs : (rest.map fun v => v.category).sum ≤ 8) (hdp : d' + 1 ≤ d ∧ 8 + (nL' + 11) + 45 * d' ≤ lo) (hk : k ≤ mc ∧ n ≤ ms)
    (kk : ∀ S M v, K M v = some R → RM S sz m b M → rF S0 S m b → vi_W E X nL Z p' lv (.int v :: rest) S sz k n) : vi_W E X nL Z pc lv st S sz k n := by
  obtain ⟨M1, v1, h1, h2⟩ := b2o h
  refine vi_callS C As rest hd hp hi hi2 (hM _ h1) hst hrs hdp hk (fun v S' sz' q => ?_)
  obtain ⟨rfl, rfl, q3, q4⟩ := q
  exact kk S' M1 v1 h2 q3 (hF.tr q4)
end RMW
