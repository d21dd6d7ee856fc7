def cG (c : vC) (f i : Nat) (j : Int32) : Option Int32 := if j < 0 ∨ al f ≤ j.toNatClampNeg then none else some (cR c f i j.toNatClampNeg)
def cS (c : vC) (f i : Nat) (j v : Int32) : Option vC := if j < 0 ∨ al f ≤ j.toNatClampNeg then none else some (uR c f i j.toNatClampNeg v)
def cGJ (c : vC) (i : Nat) (j : Int32) : Option Int64 := if j < 0 ∨ 4096 ≤ j.toNatClampNeg then none else some (cJ c i j.toNatClampNeg)
def cSJ (c : vC) (i : Nat) (j : Int32) (v : Int64) : Option vC := if j < 0 ∨ 4096 ≤ j.toNatClampNeg then none else some (uJ c i j.toNatClampNeg v)
def cGQ (c : vC) (f i : Nat) (j : Int32) : Option (Option Nat) := if j < 0 ∨ al f ≤ j.toNatClampNeg then none else some (cQ c f i j.toNatClampNeg)
/-- what is put into a row of requests is one, or none; into the row of frames likewise -/
def okq (c : vC) (o : Option Nat) : Bool := match o with
  | none => true
  | some a => cK c a == 9
def okf (o : Option Nat) : Bool := match o with
  | none => true
  | some a => decide (a < 202)
def cSQ (c : vC) (f i : Nat) (j : Int32) (v : Option Nat) : Option vC := if j < 0 ∨ al f ≤ j.toNatClampNeg ∨ okq c v = false then none else some (uQ c f i j.toNatClampNeg v)
def cSF (c : vC) (j : Int32) (v : Option Nat) : Option vC := if j < 0 ∨ 200 ≤ j.toNatClampNeg ∨ okf v = false then none else some (uQ c 300 0 j.toNatClampNeg v)
def ix (m : Nat) (j : Int32) : Option Nat := if j < 0 ∨ m ≤ j.toNatClampNeg then none else some j.toNatClampNeg
/-- a row of a request: kind k -/
def dG (c : vC) (k a : Nat) (j : Int32) : Option Int32 := if ¬ cK c a = k ∨ j < 0 ∨ cN c a ≤ j.toNatClampNeg then none else some (cD c a j.toNatClampNeg)
def dS (c : vC) (a : Nat) (j v : Int32) : Option vC := if ¬ cK c a = 21 ∨ j < 0 ∨ cN c a ≤ j.toNatClampNeg then none else some (uD c a j.toNatClampNeg v)
/-- a row of bytes of any kind: of field f (0 or 500) of object i, or, f being 1, at address i -/
def hA (z x f i : Nat) : Nat := if f = 1 then i else aa z x f i
def hG (c : vC) (f i : Nat) (j : Int32) : Option Int32 := if f = 1 then dG c 20 i j else if ak f = 20 then cG c f i j else none
def hL (c : vC) (f i : Nat) : Option Int32 := if f = 1 then (if cK c i = 20 then some (Int32.ofNat (cN c i)) else none) else if ak f = 20 then some (Int32.ofNat (al f)) else none
def oc {α β : Type} (o : Option α) (a : β) (f : α → β) : β := match o with
  | none => a
  | some v => f v
theorem oco {α ρ : Type} {o : Option α} {A : Option ρ} {B : α → Option ρ} {R : ρ} (h : oc o A B = some R) : (o = none ∧ A = some R) ∨ ∃ a, o = some a ∧ B a = some R := by
  cases o with
  | none => exact Or.inl ⟨rfl, h⟩
  | some a => exact Or.inr ⟨a, rfl, h⟩
theorem ino {m : Nat} {j : Int32} (h : ¬ (j < 0 ∨ m ≤ j.toNatClampNeg)) : j.toNatClampNeg < m := Nat.not_le.mp fun q => h (Or.inr q)
theorem ixo {ρ : Type} {m : Nat} {j : Int32} {K : Nat → Option ρ} {R : ρ} (h : (ix m j).bind K = some R) : vp_in j m ∧ K j.toNatClampNeg = some R := by
  unfold ix at h
  by_cases e : j < 0 ∨ m ≤ j.toNatClampNeg
  · rw [if_pos e] at h; cases h
  · rw [if_neg e] at h; exact ⟨e, h⟩
section CLW
variable {E : vE} {X : vX} {y : MethodName} {cc : ByteArray} {nL : Nat} {ret : Option FieldType} {d mc ms lo : Nat} {Z : State → Prop} {pc : Nat} {lv : List (Nat × Value)} {st : List Value} {S S0 : vS} {z x N d0 q n : Nat} {c : vC} {ρ : Type} {R : ρ}
theorem rcK {k i : Nat} (hR : RC S z x N d0 c) (ho : okS N k i) : vK S (ad z x k i) = k + 1 := (hR.2.1 k i ho).1
theorem rcKD {a : Nat} (hR : RC S z x N d0 c) (ho : cK c a = 9) : vK S a = 9 := by
  have := (hR.2.2.2.2.2.2.2 a (by omega)).2.1
  omega

theorem c_geti (C : vi_C E X y cc nL ret d mc ms lo) {p' idx : Nat} {k j i f : Nat} (hd : decode cc pc = .ok (.getfield idx, 3)) (hp : pc + 3 = p') (hf : vi_Fl y.cls idx k j) (hr : (vi_fty k j).isReference = false) (hj : j < 100) (he : 100 * k + j = f) (hR : RC S z x N d0 c) (ho : okS N k i) (kk : vi_W E X nL Z p' lv (.int (cI c f i) :: st) S (cz c) q n) : vi_W E X nL Z pc lv (.ref (ad z x k i) :: st) S (cz c) q n := by
  subst he
  exact vi_geti C hd hp hf (rcK hR ho) hr rfl (by rw [(hR.2.1 k i ho).2 j hj]; exact kk)
theorem c_getiD (C : vi_C E X y cc nL ret d mc ms lo) {p' idx : Nat} {j a f : Nat} (hd : decode cc pc = .ok (.getfield idx, 3)) (hp : pc + 3 = p') (hf : vi_Fl y.cls idx 8 j) (hr : (vi_fty 8 j).isReference = false) (hj : j < 100) (he : 800 + j = f) (hR : RC S z x N d0 c) (ho : cK c a = 9) (kk : vi_W E X nL Z p' lv (.int (cI c f a) :: st) S (cz c) q n) : vi_W E X nL Z pc lv (.ref a :: st) S (cz c) q n := by
  subst he
  exact vi_geti (i := 800 + j) C hd hp hf (rcKD hR ho) hr rfl (by rw [((hR.2.2.2.2.2.2.2 a (by omega)).2.2.2.1 ho).1 j hj]; exact kk)
theorem c_gets (C : vi_C E X y cc nL ret d mc ms lo) {p' idx : Nat} {k j i f t : Nat} (hd : decode cc pc = .ok (.getfield idx, 3)) (hp : pc + 3 = p') (hf : vi_Fl y.cls idx k j) (hr : (vi_fty k j).isReference = true) (hj : j < 100) (he : 100 * k + j = f) (hR : RC S z x N d0 c) (ho : okS N k i) (hs : sref z x f i = some t) (kk : vi_W E X nL Z p' lv (.ref t :: st) S (cz c) q n) : vi_W E X nL Z pc lv (.ref (ad z x k i) :: st) S (cz c) q n := by
  subst he
  exact vi_getr C hd hp hf (rcK hR ho) hr rfl (hR.2.2.1 k j i t ho hj hs) kk
theorem c_getp (C : vi_C E X y cc nL ret d mc ms lo) {p' idx : Nat} {k j i f : Nat} (hd : decode cc pc = .ok (.getfield idx, 3)) (hp : pc + 3 = p') (hf : vi_Fl y.cls idx k j) (hr : (vi_fty k j).isReference = true) (hj : j < 100) (he : 100 * k + j = f) (hR : RC S z x N d0 c) (ho : okS N k i) (hs : drf f = true) (kk : vi_W E X nL Z p' lv (va_rf (cP c f i) :: st) S (cz c) q n) : vi_W E X nL Z pc lv (.ref (ad z x k i) :: st) S (cz c) q n := by
  subst he
  exact vi_getp C hd hp hf (rcK hR ho) hr rfl (by rw [hR.2.2.2.1 k j i ho hj hs]; exact kk)
theorem c_getpF (C : vi_C E X y cc nL ret d mc ms lo) {p' idx : Nat} (hd : decode cc pc = .ok (.getfield idx, 3)) (hp : pc + 3 = p') (hf : vi_Fl y.cls idx 3 1) (hR : RC S z x N d0 c) (kk : vi_W E X nL Z p' lv (va_rf ((cP c 301 0).map (ad z x 1)) :: st) S (cz c) q n) : vi_W E X nL Z pc lv (.ref (ad z x 3 0) :: st) S (cz c) q n := vi_getp (i := 301) C hd hp hf (rcK (k := 3) (i := 0) hR rfl) rfl rfl (by rw [show ad z x 3 0 = z + 2 from rfl, hR.2.2.2.2.1]; exact kk)
theorem c_getpD (C : vi_C E X y cc nL ret d mc ms lo) {p' idx : Nat} {a : Nat} (hd : decode cc pc = .ok (.getfield idx, 3)) (hp : pc + 3 = p') (hf : vi_Fl y.cls idx 8 5) (hR : RC S z x N d0 c) (ho : cK c a = 9) (kk : vi_W E X nL Z p' lv (va_rf (cP c 805 a) :: st) S (cz c) q n) : vi_W E X nL Z pc lv (.ref a :: st) S (cz c) q n := vi_getp (i := 805) C hd hp hf (rcKD hR ho) rfl rfl (by rw [((hR.2.2.2.2.2.2.2 a (by omega)).2.2.2.1 ho).2]; exact kk)
theorem c_puti (C : vi_C E X y cc nL ret d mc ms lo) {p' idx : Nat} {k j i f : Nat} {v : Int32} {K : vC → Option ρ} (hd : decode cc pc = .ok (.putfield idx, 3)) (hp : pc + 3 = p') (hf : vi_Fp y.cls y.name idx k j) (hr : vi_fty k j = .int) (hj : j < 100) (he : 100 * k + j = f) (hR : RC S z x N d0 c) (hF : cF S0 S z x N d0) (ho : okS N k i) (h : lt1 (uI c f i v) K = some R) (kk : ∀ S c, K c = some R → RC S z x N d0 c → cF S0 S z x N d0 → vi_W E X nL Z p' lv st S (cz c) q n) : vi_W E X nL Z pc lv (.int v :: .ref (ad z x k i) :: st) S (cz c) q n := by
  subst he
  have := (okS8 ho).2
  exact vi_puti C hd hp hf (rcK hR ho) (by rw [hr]; rfl) rfl (by omega) (by rw [hr]; rfl) (by rw [hr]; rfl) (kk _ (uI c (100 * k + j) i v) h (rcI hR hF ho hj v).1 (rcI hR hF ho hj v).2)
theorem c_putz (C : vi_C E X y cc nL ret d mc ms lo) {p' idx : Nat} {k j i f : Nat} {v : Int32} {K : vC → Option ρ} (hd : decode cc pc = .ok (.putfield idx, 3)) (hp : pc + 3 = p') (hf : vi_Fp y.cls y.name idx k j) (hr : vi_fty k j = .boolean) (hj : j < 100) (he : 100 * k + j = f) (hR : RC S z x N d0 c) (hF : cF S0 S z x N d0) (ho : okS N k i) (h : zb v (lt1 (uI c f i v) K) = some R) (kk : ∀ S c, K c = some R → RC S z x N d0 c → cF S0 S z x N d0 → vi_W E X nL Z p' lv st S (cz c) q n) : vi_W E X nL Z pc lv (.int v :: .ref (ad z x k i) :: st) S (cz c) q n := by
  subst he
  have := (okS8 ho).2
  obtain ⟨z1, z2, h⟩ := zbo h
  exact vi_puti C hd hp hf (rcK hR ho) (by rw [hr]; rfl) rfl (by omega) (by rw [hr]; exact z1) (by rw [hr]; exact z2) (kk _ (uI c (100 * k + j) i v) h (rcI hR hF ho hj v).1 (rcI hR hF ho hj v).2)
theorem c_putiD (C : vi_C E X y cc nL ret d mc ms lo) {p' idx : Nat} {j a f : Nat} {v : Int32} {K : vC → Option ρ} (hd : decode cc pc = .ok (.putfield idx, 3)) (hp : pc + 3 = p') (hf : vi_Fp y.cls y.name idx 8 j) (hr : vi_fty 8 j = .int) (hj : j < 100) (he : 800 + j = f) (hR : RC S z x N d0 c) (hF : cF S0 S z x N d0) (ho : cK c a = 9) (h : lt1 (uI c f a v) K = some R) (kk : ∀ S c, K c = some R → RC S z x N d0 c → cF S0 S z x N d0 → vi_W E X nL Z p' lv st S (cz c) q n) : vi_W E X nL Z pc lv (.int v :: .ref a :: st) S (cz c) q n := by
  subst he
  exact vi_puti (i := 800 + j) C hd hp hf (rcKD hR ho) (by rw [hr]; rfl) rfl (by decide) (by rw [hr]; rfl) (by rw [hr]; rfl) (kk _ (uI c (800 + j) a v) h (rcID hR hF ho hj v).1 (rcID hR hF ho hj v).2)
theorem c_putp (C : vi_C E X y cc nL ret d mc ms lo) {p' idx : Nat} {k j i f : Nat} {v : Option Nat} {K : vC → Option ρ} (hd : decode cc pc = .ok (.putfield idx, 3)) (hp : pc + 3 = p') (hf : vi_Fp y.cls y.name idx k j) (hr : (vi_fty k j).isReference = true) (hj : j < 100) (he : 100 * k + j = f) (hR : RC S z x N d0 c) (hF : cF S0 S z x N d0) (ho : okS N k i) (hs : drf f = true) (h : lt1 (uP c f i v) K = some R) (kk : ∀ S c, K c = some R → RC S z x N d0 c → cF S0 S z x N d0 → vi_W E X nL Z p' lv st S (cz c) q n) : vi_W E X nL Z pc lv (va_rf v :: .ref (ad z x k i) :: st) S (cz c) q n := by
  subst he
  have := (okS8 ho).2
  exact vi_putp C hd hp hf (rcK hR ho) hr rfl (by omega) (kk _ (uP c (100 * k + j) i v) h (rcP hR hF ho hj hs v).1 (rcP hR hF ho hj hs v).2)
theorem c_putpF (C : vi_C E X y cc nL ret d mc ms lo) {p' idx : Nat} {v : Option Nat} {K : vC → Option ρ} (hd : decode cc pc = .ok (.putfield idx, 3)) (hp : pc + 3 = p') (hf : vi_Fp y.cls y.name idx 3 1) (hR : RC S z x N d0 c) (hF : cF S0 S z x N d0) (h : lt1 (uP c 301 0 v) K = some R) (kk : ∀ S c, K c = some R → RC S z x N d0 c → cF S0 S z x N d0 → vi_W E X nL Z p' lv st S (cz c) q n) : vi_W E X nL Z pc lv (va_rf (v.map (ad z x 1)) :: .ref (ad z x 3 0) :: st) S (cz c) q n := vi_putp (i := 301) C hd hp hf (rcK (k := 3) (i := 0) hR rfl) rfl rfl (by decide) (kk _ (uP c 301 0 v) h (rcPF hR hF v).1 (rcPF hR hF v).2)
theorem c_putpD (C : vi_C E X y cc nL ret d mc ms lo) {p' idx : Nat} {a : Nat} {v : Option Nat} {K : vC → Option ρ} (hd : decode cc pc = .ok (.putfield idx, 3)) (hp : pc + 3 = p') (hf : vi_Fp y.cls y.name idx 8 5) (hR : RC S z x N d0 c) (hF : cF S0 S z x N d0) (ho : cK c a = 9) (h : lt1 (uP c 805 a v) K = some R) (kk : ∀ S c, K c = some R → RC S z x N d0 c → cF S0 S z x N d0 → vi_W E X nL Z p' lv st S (cz c) q n) : vi_W E X nL Z pc lv (va_rf v :: .ref a :: st) S (cz c) q n := vi_putp (i := 805) C hd hp hf (rcKD hR ho) rfl rfl (by decide) (kk _ (uP c 805 a v) h (rcPD hR hF ho v).1 (rcPD hR hF ho v).2)
theorem c_iaload (C : vi_C E X y cc nL ret d mc ms lo) {p' : Nat} {f i : Nat} {j : Int32} {K : Int32 → Option ρ} (hd : decode cc pc = .ok (.iaload, 1)) (hp : pc + 1 = p') (hk : ak f = 21) (hR : RC S z x N d0 c) (ho : okA N f i) (h : (cG c f i j).bind K = some R) (kk : ∀ v, K v = some R → vi_W E X nL Z p' lv (.int v :: st) S (cz c) q n) : vi_W E X nL Z pc lv (.int j :: .ref (aa z x f i) :: st) S (cz c) q n := by
  obtain ⟨q1, q2, q3, q4, q5, q6⟩ := hR.2.2.2.2.2.1 f i ho
  unfold cG at h
  by_cases e : j < 0 ∨ al f ≤ j.toNatClampNeg
  · rw [if_pos e] at h; cases h
  · rw [if_neg e] at h
    refine vi_iaload C hd hp (q1.trans hk) (by rw [q2]; exact e) ?_
    rw [q3 (Or.inr hk)]
    exact kk _ h
theorem c_baload (C : vi_C E X y cc nL ret d mc ms lo) {p' : Nat} {f i : Nat} {j : Int32} {K : Int32 → Option ρ} (hd : decode cc pc = .ok (.baload, 1)) (hp : pc + 1 = p') (hk : ak f = 20) (hR : RC S z x N d0 c) (ho : okA N f i) (h : (cG c f i j).bind K = some R) (kk : ∀ v, K v = some R → vi_W E X nL Z p' lv (.int v :: st) S (cz c) q n) : vi_W E X nL Z pc lv (.int j :: .ref (aa z x f i) :: st) S (cz c) q n := by
  obtain ⟨q1, q2, q3, q4, q5, q6⟩ := hR.2.2.2.2.2.1 f i ho
  unfold cG at h
  by_cases e : j < 0 ∨ al f ≤ j.toNatClampNeg
  · rw [if_pos e] at h; cases h
  · rw [if_neg e] at h
    refine vi_baload C hd hp (q1.trans hk) (by rw [q2]; exact e) ?_
    rw [q3 (Or.inl hk)]
    exact kk _ h
theorem c_iastore (C : vi_C E X y cc nL ret d mc ms lo) {p' : Nat} {f i : Nat} {j v : Int32} {K : vC → Option ρ} (hd : decode cc pc = .ok (.iastore, 1)) (hp : pc + 1 = p') (hk : ak f = 21) (hR : RC S z x N d0 c) (hF : cF S0 S z x N d0) (ho : okA N f i) (h : (cS c f i j (v)).bind K = some R) (kk : ∀ S c, K c = some R → RC S z x N d0 c → cF S0 S z x N d0 → vi_W E X nL Z p' lv st S (cz c) q n) : vi_W E X nL Z pc lv (.int v :: .int j :: .ref (aa z x f i) :: st) S (cz c) q n := by
  obtain ⟨q1, q2, q3, q4, q5, q6⟩ := hR.2.2.2.2.2.1 f i ho
  unfold cS at h
  by_cases e : j < 0 ∨ al f ≤ j.toNatClampNeg
  · rw [if_pos e] at h; cases h
  · rw [if_neg e] at h
    have w := rcR hR hF ho j.toNatClampNeg (v)
    exact vi_iastore C hd hp (q1.trans hk) (by rw [q2]; exact e) (kk _ (uR c f i j.toNatClampNeg (v)) h w.1 w.2)
theorem c_bastore (C : vi_C E X y cc nL ret d mc ms lo) {p' : Nat} {f i : Nat} {j v : Int32} {K : vC → Option ρ} (hd : decode cc pc = .ok (.bastore, 1)) (hp : pc + 1 = p') (hk : ak f = 20) (hR : RC S z x N d0 c) (hF : cF S0 S z x N d0) (ho : okA N f i) (h : (cS c f i j (v.toInt8.toInt32)).bind K = some R) (kk : ∀ S c, K c = some R → RC S z x N d0 c → cF S0 S z x N d0 → vi_W E X nL Z p' lv st S (cz c) q n) : vi_W E X nL Z pc lv (.int v :: .int j :: .ref (aa z x f i) :: st) S (cz c) q n := by
  obtain ⟨q1, q2, q3, q4, q5, q6⟩ := hR.2.2.2.2.2.1 f i ho
  unfold cS at h
  by_cases e : j < 0 ∨ al f ≤ j.toNatClampNeg
  · rw [if_pos e] at h; cases h
  · rw [if_neg e] at h
    have w := rcR hR hF ho j.toNatClampNeg (v.toInt8.toInt32)
    exact vi_bastore C hd hp (q1.trans hk) (by rw [q2]; exact e) (kk _ (uR c f i j.toNatClampNeg (v.toInt8.toInt32)) h w.1 w.2)
theorem c_laload (C : vi_C E X y cc nL ret d mc ms lo) {p' : Nat} {i : Nat} {j : Int32} {K : Int64 → Option ρ} (hd : decode cc pc = .ok (.laload, 1)) (hp : pc + 1 = p') (hR : RC S z x N d0 c) (ho : i < N) (h : (cGJ c i j).bind K = some R) (kk : ∀ v, K v = some R → vi_W E X nL Z p' lv (.long v :: st) S (cz c) q n) : vi_W E X nL Z pc lv (.int j :: .ref (aa z x 200 i) :: st) S (cz c) q n := by
  obtain ⟨q1, q2, q3, q4, q5, q6⟩ := hR.2.2.2.2.2.1 200 i ⟨ho, by decide⟩
  unfold cGJ at h
  by_cases e : j < 0 ∨ 4096 ≤ j.toNatClampNeg
  · rw [if_pos e] at h; cases h
  · rw [if_neg e] at h
    refine vi_laload C hd hp q1 (by rw [q2]; exact e) ?_
    rw [q4 rfl]
    exact kk _ h
theorem c_lastore (C : vi_C E X y cc nL ret d mc ms lo) {p' : Nat} {i : Nat} {j : Int32} {v : Int64} {K : vC → Option ρ} (hd : decode cc pc = .ok (.lastore, 1)) (hp : pc + 1 = p') (hR : RC S z x N d0 c) (hF : cF S0 S z x N d0) (ho : i < N) (h : (cSJ c i j v).bind K = some R) (kk : ∀ S c, K c = some R → RC S z x N d0 c → cF S0 S z x N d0 → vi_W E X nL Z p' lv st S (cz c) q n) : vi_W E X nL Z pc lv (.long v :: .int j :: .ref (aa z x 200 i) :: st) S (cz c) q n := by
  obtain ⟨q1, q2, q3, q4, q5, q6⟩ := hR.2.2.2.2.2.1 200 i ⟨ho, by decide⟩
  unfold cSJ at h
  by_cases e : j < 0 ∨ 4096 ≤ j.toNatClampNeg
  · rw [if_pos e] at h; cases h
  · rw [if_neg e] at h
    have w := rcJ hR hF ho j.toNatClampNeg v
    exact vi_lastore C hd hp q1 (by rw [q2]; exact e) (kk _ (uJ c i j.toNatClampNeg v) h w.1 w.2)
theorem c_aaloadQ (C : vi_C E X y cc nL ret d mc ms lo) {p' : Nat} {f i : Nat} {j : Int32} {K : Option Nat → Option ρ} (hd : decode cc pc = .ok (.aaload, 1)) (hp : pc + 1 = p') (hk : ak f = 26) (hR : RC S z x N d0 c) (ho : okA N f i) (h : (cGQ c f i j).bind K = some R) (kk : ∀ v, K v = some R → vi_W E X nL Z p' lv (va_rf v :: st) S (cz c) q n) : vi_W E X nL Z pc lv (.int j :: .ref (aa z x f i) :: st) S (cz c) q n := by
  obtain ⟨q1, q2, q3, q4, q5, q6⟩ := hR.2.2.2.2.2.1 f i ho
  unfold cGQ at h
  by_cases e : j < 0 ∨ al f ≤ j.toNatClampNeg
  · rw [if_pos e] at h; cases h
  · rw [if_neg e] at h
    refine vi_aaload C hd hp (by rw [q1, hk]; decide) (by rw [q1, hk]; decide) (by rw [q2]; exact e) ?_
    rw [q5 hk]
    exact kk _ h
theorem c_aaloadF (C : vi_C E X y cc nL ret d mc ms lo) {p' : Nat} {j : Int32} {K : Option Nat → Option ρ} (hd : decode cc pc = .ok (.aaload, 1)) (hp : pc + 1 = p') (hR : RC S z x N d0 c) (h : (cGQ c 300 0 j).bind K = some R) (kk : ∀ v, K v = some R → vi_W E X nL Z p' lv (va_rf (v.map (ad z x 1)) :: st) S (cz c) q n) : vi_W E X nL Z pc lv (.int j :: .ref (aa z x 300 0) :: st) S (cz c) q n := by
  obtain ⟨q1, q2, q3, q4, q5, q6⟩ := hR.2.2.2.2.2.1 300 0 ⟨rfl, by decide⟩
  unfold cGQ at h
  by_cases e : j < 0 ∨ al 300 ≤ j.toNatClampNeg
  · rw [if_pos e] at h; cases h
  · rw [if_neg e] at h
    refine vi_aaload C hd hp (by rw [q1]; decide) (by rw [q1]; decide) (by rw [q2]; exact e) ?_
    rw [q6 rfl _ (ino (m := 200) e)]
    exact kk _ h
theorem c_aaloadS (C : vi_C E X y cc nL ret d mc ms lo) {p' : Nat} {j : Int32} {K : Nat → Option ρ} (hd : decode cc pc = .ok (.aaload, 1)) (hp : pc + 1 = p') (hR : RC S z x N d0 c) (h : (ix 16 j).bind K = some R) (kk : ∀ v, v < 16 → K v = some R → vi_W E X nL Z p' lv (.ref (ad z x 9 v) :: st) S (cz c) q n) : vi_W E X nL Z pc lv (.int j :: .ref (z + 206) :: st) S (cz c) q n := by
  obtain ⟨p1, p2, p3, p4, p5, p6⟩ := hR.2.2.2.2.2.2.1
  obtain ⟨e, h⟩ := ixo h
  refine vi_aaload C hd hp (by rw [p1]; decide) (by rw [p1]; decide) (by rw [p2]; exact e) ?_
  rw [p3 _ (ino e)]
  exact kk _ (ino e) h
theorem c_aaloadR (C : vi_C E X y cc nL ret d mc ms lo) {p' : Nat} {j : Int32} {K : Nat → Option ρ} (hd : decode cc pc = .ok (.aaload, 1)) (hp : pc + 1 = p') (hR : RC S z x N d0 c) (h : (ix N j).bind K = some R) (kk : ∀ v, v < N → K v = some R → vi_W E X nL Z p' lv (.ref (ad z x 7 v) :: st) S (cz c) q n) : vi_W E X nL Z pc lv (.int j :: .ref (z + 243) :: st) S (cz c) q n := by
  obtain ⟨p1, p2, p3, p4, p5, p6⟩ := hR.2.2.2.2.2.2.1
  obtain ⟨e, h⟩ := ixo h
  refine vi_aaload C hd hp (by rw [p4]; decide) (by rw [p4]; decide) (by rw [p5]; exact e) ?_
  rw [p6 _ (ino e)]
  exact kk _ (ino e) h
theorem c_aastoreQ (C : vi_C E X y cc nL ret d mc ms lo) {p' : Nat} {f i : Nat} {j : Int32} {v : Option Nat} {K : vC → Option ρ} (hd : decode cc pc = .ok (.aastore, 1)) (hp : pc + 1 = p') (hk : ak f = 26) (hR : RC S z x N d0 c) (hF : cF S0 S z x N d0) (ho : okA N f i) (h : (cSQ c f i j v).bind K = some R) (kk : ∀ S c, K c = some R → RC S z x N d0 c → cF S0 S z x N d0 → vi_W E X nL Z p' lv st S (cz c) q n) : vi_W E X nL Z pc lv (va_rf v :: .int j :: .ref (aa z x f i) :: st) S (cz c) q n := by
  obtain ⟨q1, q2, q3, q4, q5, q6⟩ := hR.2.2.2.2.2.1 f i ho
  unfold cSQ at h
  by_cases e : j < 0 ∨ al f ≤ j.toNatClampNeg ∨ okq c v = false
  · rw [if_pos e] at h; cases h
  · rw [if_neg e] at h
    have w := rcQ hR hF ho hk j.toNatClampNeg v
    refine vi_aastore (c := 8) C hd hp (by rw [q1, hk]; decide) (by rw [q1, hk]; decide) rfl (by rw [q1, hk]; rfl) (fun a ha => ?_) (by rw [q2]; exact fun t => e (t.elim Or.inl (fun t => Or.inr (Or.inl t)))) (kk _ (uQ c f i j.toNatClampNeg v) h w.1 w.2)
    subst ha
    have : cK c a = 9 := by
      by_cases t : cK c a = 9
      · exact t
      · exact absurd (Or.inr (Or.inr (by simp [okq, t]))) e
    exact rcKD hR this
theorem c_aastoreF (C : vi_C E X y cc nL ret d mc ms lo) {p' : Nat} {j : Int32} {v : Option Nat} {K : vC → Option ρ} (hd : decode cc pc = .ok (.aastore, 1)) (hp : pc + 1 = p') (hR : RC S z x N d0 c) (hF : cF S0 S z x N d0) (h : (cSF c j v).bind K = some R) (kk : ∀ S c, K c = some R → RC S z x N d0 c → cF S0 S z x N d0 → vi_W E X nL Z p' lv st S (cz c) q n) : vi_W E X nL Z pc lv (va_rf (v.map (ad z x 1)) :: .int j :: .ref (aa z x 300 0) :: st) S (cz c) q n := by
  obtain ⟨q1, q2, q3, q4, q5, q6⟩ := hR.2.2.2.2.2.1 300 0 ⟨rfl, by decide⟩
  unfold cSF at h
  by_cases e : j < 0 ∨ 200 ≤ j.toNatClampNeg ∨ okf v = false
  · rw [if_pos e] at h; cases h
  · rw [if_neg e] at h
    have w := rcQF hR hF j.toNatClampNeg v
    refine vi_aastore (c := 1) C hd hp (by rw [q1]; decide) (by rw [q1]; decide) rfl (by rw [q1]; rfl) (fun a ha => ?_) (by rw [q2]; exact fun t => e (t.elim Or.inl (fun t => Or.inr (Or.inl t)))) (kk _ (uQ c 300 0 j.toNatClampNeg v) h w.1 w.2)
    cases v with
    | none => cases ha
    | some b =>
      cases ha
      have : b < 202 := by
        by_cases t : b < 202
        · exact t
        · exact absurd (Or.inr (Or.inr (by simp [okf, t]))) e
      exact rcK (k := 1) hR this
theorem c_ialoadD (C : vi_C E X y cc nL ret d mc ms lo) {p' : Nat} {a : Nat} {j : Int32} {K : Int32 → Option ρ} (hd : decode cc pc = .ok (.iaload, 1)) (hp : pc + 1 = p') (hR : RC S z x N d0 c) (h : (dG c 21 a j).bind K = some R) (kk : ∀ v, K v = some R → vi_W E X nL Z p' lv (.int v :: st) S (cz c) q n) : vi_W E X nL Z pc lv (.int j :: .ref a :: st) S (cz c) q n := by
  unfold dG at h
  by_cases e : ¬ cK c a = 21 ∨ j < 0 ∨ cN c a ≤ j.toNatClampNeg
  · rw [if_pos e] at h; cases h
  · rw [if_neg e] at h
    have e1 : cK c a = 21 := Decidable.not_not.mp fun t => e (Or.inl t)
    have q9 := hR.2.2.2.2.2.2.2 a (by omega)
    have q5 := q9.2.2.2.2 (by omega)
    refine vi_iaload C hd hp (q9.2.1.trans e1) (by rw [q5.1]; exact fun t => e (Or.inr t)) ?_
    rw [q5.2]
    exact kk _ h
theorem c_baloadD (C : vi_C E X y cc nL ret d mc ms lo) {p' : Nat} {a : Nat} {j : Int32} {K : Int32 → Option ρ} (hd : decode cc pc = .ok (.baload, 1)) (hp : pc + 1 = p') (hR : RC S z x N d0 c) (h : (dG c 20 a j).bind K = some R) (kk : ∀ v, K v = some R → vi_W E X nL Z p' lv (.int v :: st) S (cz c) q n) : vi_W E X nL Z pc lv (.int j :: .ref a :: st) S (cz c) q n := by
  unfold dG at h
  by_cases e : ¬ cK c a = 20 ∨ j < 0 ∨ cN c a ≤ j.toNatClampNeg
  · rw [if_pos e] at h; cases h
  · rw [if_neg e] at h
    have e1 : cK c a = 20 := Decidable.not_not.mp fun t => e (Or.inl t)
    have q9 := hR.2.2.2.2.2.2.2 a (by omega)
    have q5 := q9.2.2.2.2 (by omega)
    refine vi_baload C hd hp (q9.2.1.trans e1) (by rw [q5.1]; exact fun t => e (Or.inr t)) ?_
    rw [q5.2]
    exact kk _ h
theorem c_iastoreD (C : vi_C E X y cc nL ret d mc ms lo) {p' : Nat} {a : Nat} {j v : Int32} {K : vC → Option ρ} (hd : decode cc pc = .ok (.iastore, 1)) (hp : pc + 1 = p') (hR : RC S z x N d0 c) (hF : cF S0 S z x N d0) (h : (dS c a j v).bind K = some R) (kk : ∀ S c, K c = some R → RC S z x N d0 c → cF S0 S z x N d0 → vi_W E X nL Z p' lv st S (cz c) q n) : vi_W E X nL Z pc lv (.int v :: .int j :: .ref a :: st) S (cz c) q n := by
  unfold dS at h
  by_cases e : ¬ cK c a = 21 ∨ j < 0 ∨ cN c a ≤ j.toNatClampNeg
  · rw [if_pos e] at h; cases h
  · rw [if_neg e] at h
    have e1 : cK c a = 21 := Decidable.not_not.mp fun t => e (Or.inl t)
    have q9 := hR.2.2.2.2.2.2.2 a (by omega)
    have q5 := q9.2.2.2.2 (by omega)
    have w := rcD hR hF (Or.inr e1) j.toNatClampNeg v
    exact vi_iastore C hd hp (q9.2.1.trans e1) (by rw [q5.1]; exact fun t => e (Or.inr t)) (kk _ (uD c a j.toNatClampNeg v) h w.1 w.2)
theorem c_baloadH (C : vi_C E X y cc nL ret d mc ms lo) {p' : Nat} {f i : Nat} {j : Int32} {K : Int32 → Option ρ} (hd : decode cc pc = .ok (.baload, 1)) (hp : pc + 1 = p') (hR : RC S z x N d0 c) (ho : f ≠ 1 → okS N (f / 100) i) (h : (hG c f i j).bind K = some R) (kk : ∀ v, K v = some R → vi_W E X nL Z p' lv (.int v :: st) S (cz c) q n) : vi_W E X nL Z pc lv (.int j :: .ref (hA z x f i) :: st) S (cz c) q n := by
  unfold hG at h
  unfold hA
  by_cases e : f = 1
  · rw [if_pos e] at h ⊢
    exact c_baloadD C hd hp hR h kk
  · rw [if_neg e] at h ⊢
    by_cases e2 : ak f = 20
    · rw [if_pos e2] at h
      exact c_baload C hd hp e2 hR ⟨ho e, by omega⟩ h kk
    · rw [if_neg e2] at h; cases h
theorem c_alen (C : vi_C E X y cc nL ret d mc ms lo) {p' : Nat} {f i : Nat} (hd : decode cc pc = .ok (.arraylength, 1)) (hp : pc + 1 = p') (hk : 20 ≤ ak f ∧ ak f ≤ 27) (hR : RC S z x N d0 c) (ho : okA N f i) (kk : vi_W E X nL Z p' lv (.int (Int32.ofNat (al f)) :: st) S (cz c) q n) : vi_W E X nL Z pc lv (.ref (aa z x f i) :: st) S (cz c) q n := by
  obtain ⟨q1, q2, q3, q4, q5, q6⟩ := hR.2.2.2.2.2.1 f i ho
  refine vi_alen C hd hp (by rw [q1]; exact hk.1) (by rw [q1]; exact hk.2) ?_
  rw [q2]
  exact kk
theorem c_alenR (C : vi_C E X y cc nL ret d mc ms lo) {p' : Nat} (hd : decode cc pc = .ok (.arraylength, 1)) (hp : pc + 1 = p') (hR : RC S z x N d0 c) (kk : vi_W E X nL Z p' lv (.int (Int32.ofNat N) :: st) S (cz c) q n) : vi_W E X nL Z pc lv (.ref (z + 243) :: st) S (cz c) q n := by
  obtain ⟨p1, p2, p3, p4, p5, p6⟩ := hR.2.2.2.2.2.2.1
  refine vi_alen C hd hp (by rw [p4]; decide) (by rw [p4]; decide) ?_
  rw [p5]
  exact kk
theorem c_alenD (C : vi_C E X y cc nL ret d mc ms lo) {p' : Nat} {a : Nat} (hd : decode cc pc = .ok (.arraylength, 1)) (hp : pc + 1 = p') (hR : RC S z x N d0 c) (hk : cK c a = 20) (kk : vi_W E X nL Z p' lv (.int (Int32.ofNat (cN c a)) :: st) S (cz c) q n) : vi_W E X nL Z pc lv (.ref a :: st) S (cz c) q n := by
  have q9 := hR.2.2.2.2.2.2.2 a (by omega)
  refine vi_alen C hd hp (by rw [q9.2.1, hk]; decide) (by rw [q9.2.1, hk]; decide) ?_
  rw [(q9.2.2.2.2 (Or.inl hk)).1]
  exact kk
theorem c_alenH (C : vi_C E X y cc nL ret d mc ms lo) {p' : Nat} {f i : Nat} {K : Int32 → Option ρ} (hd : decode cc pc = .ok (.arraylength, 1)) (hp : pc + 1 = p') (hR : RC S z x N d0 c) (ho : f ≠ 1 → okS N (f / 100) i) (h : (hL c f i).bind K = some R) (kk : ∀ v, K v = some R → vi_W E X nL Z p' lv (.int v :: st) S (cz c) q n) : vi_W E X nL Z pc lv (.ref (hA z x f i) :: st) S (cz c) q n := by
  unfold hL at h
  unfold hA
  by_cases e : f = 1
  · rw [if_pos e] at h ⊢
    by_cases e2 : cK c i = 20
    · rw [if_pos e2] at h
      exact c_alenD C hd hp hR e2 (kk _ h)
    · rw [if_neg e2] at h; cases h
  · rw [if_neg e] at h ⊢
    by_cases e2 : ak f = 20
    · rw [if_pos e2] at h
      exact c_alen C hd hp (by omega) hR ⟨ho e, by omega⟩ (kk _ h)
    · rw [if_neg e2] at h; cases h
theorem c_new (C : vi_C E X y cc nL ret d mc ms lo) {p' idx : Nat} {K : vC → Option ρ} (hd : decode cc pc = .ok (.new idx, 3)) (hp : pc + 3 = p') (hw : vi_Nl y.cls idx 8 6) (hk1 : q + 1 ≤ mc) (hn1 : n + 6 ≤ ms) (hR : RC S z x N d0 c) (hF : cF S0 S z x N d0) (h : lt1 (nQ c) K = some R) (kk : ∀ S c1, c1 = nQ c → K c1 = some R → RC S z x N d0 c1 → cF S0 S z x N d0 → vi_W E X nL Z p' lv (.ref (cz c) :: st) S (cz c1) (q + 1) (n + 6)) : vi_W E X nL Z pc lv (st) S (cz c) q n :=
  vi_new C hd hp hw hk1 hn1 (kk _ (nQ c) rfl h (rcNQ hR hF).1 (rcNQ hR hF).2)
theorem c_newI (C : vi_C E X y cc nL ret d mc ms lo) {p' : Nat} {i : Int32} {M : Nat} {K : vC → Option ρ} (hd : decode cc pc = .ok (.newarray .int, 2)) (hp : pc + 2 = p') (hi : ¬ i < 0) (hM : i.toNatClampNeg = M) (hM2 : M ≤ 4096) (hk1 : q + 1 ≤ mc) (hn1 : n + M ≤ ms) (hR : RC S z x N d0 c) (hF : cF S0 S z x N d0) (h : lt1 (nD c 21 M) K = some R) (kk : ∀ S c1, c1 = nD c 21 M → K c1 = some R → RC S z x N d0 c1 → cF S0 S z x N d0 → vi_W E X nL Z p' lv (.ref (cz c) :: st) S (cz c1) (q + 1) (n + M)) : vi_W E X nL Z pc lv (.int i :: st) S (cz c) q n :=
  vi_newarray (κ := 21) C hd hp ac_int rfl (by decide) (by decide) hi hM (by show M * 4 ≤ _; omega) hk1 hn1 (kk _ (nD c 21 M) rfl h (rcND hR hF (Or.inr rfl)).1 (rcND hR hF (Or.inr rfl)).2)
/-- a new row of bytes: its length counts as 256 slots at most -/
theorem c_newB (C : vi_C E X y cc nL ret d mc ms lo) {p' : Nat} {i : Int32} {K : vC → Option ρ} (hd : decode cc pc = .ok (.newarray .byte, 2)) (hp : pc + 2 = p') (hi : ¬ i < 0 ∧ i.toNatClampNeg ≤ 256) (hk1 : q + 1 ≤ mc) (hn1 : n + 256 ≤ ms) (hR : RC S z x N d0 c) (hF : cF S0 S z x N d0) (h : lt1 (nD c 20 i.toNatClampNeg) K = some R) (kk : ∀ S c1, c1 = nD c 20 i.toNatClampNeg → K c1 = some R → RC S z x N d0 c1 → cF S0 S z x N d0 → vi_W E X nL Z p' lv (.ref (cz c) :: st) S (cz c1) (q + 1) (n + 256)) : vi_W E X nL Z pc lv (.int i :: st) S (cz c) q n :=
  vi_newarray (κ := 20) C hd hp ac_byte rfl (by decide) (by decide) hi.1 rfl (by show i.toNatClampNeg * 1 ≤ _; omega) hk1 (by omega) (vi_widen (k' := q + 1) (n' := n + 256) (Nat.le_refl _) (by omega) (kk _ (nD c 20 i.toNatClampNeg) rfl h (rcND hR hF (Or.inl rfl)).1 (rcND hR hF (Or.inl rfl)).2))
def D0 (S0 : vS) (z x N d0 : Nat) (R : vC) : Option Value → vS → Nat → Prop := fun rv S1 z1 => rv = none ∧ z1 = cz R ∧ RC S1 z x N d0 R ∧ cF S0 S1 z x N d0
def D1 (S0 : vS) (z x N d0 : Nat) (R : vC × Int32) : Option Value → vS → Nat → Prop := fun rv S1 z1 => rv = some (.int R.2) ∧ z1 = cz R.1 ∧ RC S1 z x N d0 R.1 ∧ cF S0 S1 z x N d0
def D2 (S0 : vS) (z x N d0 : Nat) (R : vC × Int64) : Option Value → vS → Nat → Prop := fun rv S1 z1 => rv = some (.long R.2) ∧ z1 = cz R.1 ∧ RC S1 z x N d0 R.1 ∧ cF S0 S1 z x N d0
def D3 (k : Nat) (S0 : vS) (z x N d0 : Nat) (R : vC × Option Nat) : Option Value → vS → Nat → Prop := fun rv S1 z1 => rv = some (va_rf (R.2.map (ad z x k))) ∧ z1 = cz R.1 ∧ RC S1 z x N d0 R.1 ∧ cF S0 S1 z x N d0
def D4 (S0 : vS) (z x N d0 : Nat) (R : vC × Option Nat) : Option Value → vS → Nat → Prop := fun rv S1 z1 => rv = some (va_rf R.2) ∧ z1 = cz R.1 ∧ RC S1 z x N d0 R.1 ∧ cF S0 S1 z x N d0
theorem c_ret0 (C : vi_C E X y cc nL ret d mc ms lo) {R : vC} (hd : decode cc pc = .ok (.return_, 1)) (hr : ret = none) (hR : RC S z x N d0 c) (hF : cF S0 S z x N d0) (hk : q ≤ mc ∧ n ≤ ms) (h : some c = some R) : vi_W E X nL (vi_Z E X (D0 S0 z x N d0 R) mc ms) pc lv [] S (cz c) q n := by
  cases h
  exact vi_return C hd hr hk.1 hk.2 ⟨rfl, rfl, hR, hF⟩
theorem c_ret1 (C : vi_C E X y cc nL ret d mc ms lo) {v : Int32} {R : vC × Int32} (hd : decode cc pc = .ok (.ireturn, 1)) (hr : ret = some .int) (hR : RC S z x N d0 c) (hF : cF S0 S z x N d0) (hk : q ≤ mc ∧ n ≤ ms) (h : some (c, v) = some R) : vi_W E X nL (vi_Z E X (D1 S0 z x N d0 R) mc ms) pc lv [.int v] S (cz c) q n := by
  cases h
  exact vi_ireturn C hd hr rfl hk.1 hk.2 ⟨rfl, rfl, hR, hF⟩
theorem c_retz (C : vi_C E X y cc nL ret d mc ms lo) {v : Int32} {R : vC × Int32} (hd : decode cc pc = .ok (.ireturn, 1)) (hr : ret = some .boolean) (hR : RC S z x N d0 c) (hF : cF S0 S z x N d0) (hk : q ≤ mc ∧ n ≤ ms) (h : zb v (some (c, v)) = some R) : vi_W E X nL (vi_Z E X (D1 S0 z x N d0 R) mc ms) pc lv [.int v] S (cz c) q n := by
  obtain ⟨hz, -, h⟩ := zbo h
  cases h
  exact vi_ireturn C hd hr hz hk.1 hk.2 ⟨rfl, rfl, hR, hF⟩
theorem c_ret2 (C : vi_C E X y cc nL ret d mc ms lo) {v : Int64} {R : vC × Int64} (hd : decode cc pc = .ok (.lreturn, 1)) (hr : ret = some .long) (hR : RC S z x N d0 c) (hF : cF S0 S z x N d0) (hk : q ≤ mc ∧ n ≤ ms) (h : some (c, v) = some R) : vi_W E X nL (vi_Z E X (D2 S0 z x N d0 R) mc ms) pc lv [.long v] S (cz c) q n := by
  cases h
  exact vi_lreturn C hd hr hk.1 hk.2 ⟨rfl, rfl, hR, hF⟩
theorem c_ret3 (C : vi_C E X y cc nL ret d mc ms lo) {k : Nat} {v : Option Nat} {ty : FieldType} {R : vC × Option Nat} (hd : decode cc pc = .ok (.areturn, 1)) (hr : ret = some ty) (hrt : (∃ n, ty = .object n) ∨ ∃ t, ty = .array t) (hR : RC S z x N d0 c) (hF : cF S0 S z x N d0) (hk : q ≤ mc ∧ n ≤ ms) (h : some (c, v) = some R) : vi_W E X nL (vi_Z E X (D3 k S0 z x N d0 R) mc ms) pc lv [va_rf (v.map (ad z x k))] S (cz c) q n := by
  cases h
  exact vi_areturn C hd hr hrt hk.1 hk.2 ⟨rfl, rfl, hR, hF⟩
theorem c_ret4 (C : vi_C E X y cc nL ret d mc ms lo) {v : Option Nat} {ty : FieldType} {R : vC × Option Nat} (hd : decode cc pc = .ok (.areturn, 1)) (hr : ret = some ty) (hrt : (∃ n, ty = .object n) ∨ ∃ t, ty = .array t) (hR : RC S z x N d0 c) (hF : cF S0 S z x N d0) (hk : q ≤ mc ∧ n ≤ ms) (h : some (c, v) = some R) : vi_W E X nL (vi_Z E X (D4 S0 z x N d0 R) mc ms) pc lv [va_rf v] S (cz c) q n := by
  cases h
  exact vi_areturn C hd hr hrt hk.1 hk.2 ⟨rfl, rfl, hR, hF⟩

theorem c_cv0 (C : vi_C E X y cc nL ret d mc ms lo) {p' idx : Nat} {y' : MethodName} {cc' : ByteArray} {nL' : Nat} {ret' : Option FieldType} {d' mc' ms' : Nat} {o : Option vC} {K : vC → Option ρ} (As rest : List Value) {kc a : Nat} {r : vw_C} (hd : decode cc pc = .ok (.invokevirtual idx, 3)) (hp : pc + 3 = p') (hi : vi_Iv y.cls idx y' cc' nL' ret' As.length) (hi2 : Cond.instanceMethod y' ∈ vi_tb ∧ Cond.selects y'.cls y' y' ∈ vi_tb) (hc : vwCl[kc]? = some r) (hcl : r.1 = y'.cls) (ha : vK S a = kc + 1) (hR : RC S z x N d0 c) (hF : cF S0 S z x N d0) (h : o.bind K = some R) (hM : ∀ M1, o = some M1 → vi_Met E y' cc' nL' ret' d' mc' ms' (.ref a :: As) S (cz c) (D0 S z x N d0 M1)) (hst : st = As.reverse ++ .ref a :: rest) (hrs : (rest.map fun v => v.category).sum ≤ 8) (hdp : d' + 1 ≤ d ∧ 8 + (nL' + 11) + 45 * d' ≤ lo) (hrm : q + mc' ≤ mc ∧ n + ms' ≤ ms) (kk : ∀ S c, K c = some R → RC S z x N d0 c → cF S0 S z x N d0 → vi_W E X nL Z p' lv rest S (cz c) (q + mc') (n + ms')) : vi_W E X nL Z pc lv st S (cz c) q n := by
  obtain ⟨M1, h1, h2⟩ := bdo h
  refine vi_callV C As rest hd hp hi hi2 hc hcl ha (hM _ h1) hst hrs hdp hrm (fun v S' sz' q => ?_)
  obtain ⟨rfl, rfl, q3, q4⟩ := q
  exact kk S' M1 h2 q3 (hF.tr q4)
theorem c_cs0 (C : vi_C E X y cc nL ret d mc ms lo) {p' idx : Nat} {y' : MethodName} {cc' : ByteArray} {nL' : Nat} {ret' : Option FieldType} {d' mc' ms' : Nat} {o : Option vC} {K : vC → Option ρ} (As rest : List Value) (hd : decode cc pc = .ok (.invokestatic idx, 3)) (hp : pc + 3 = p') (hi : vi_Iv y.cls idx y' cc' nL' ret' As.length) (hi2 : Cond.static y' ∈ vi_tb) (hR : RC S z x N d0 c) (hF : cF S0 S z x N d0) (h : o.bind K = some R) (hM : ∀ M1, o = some M1 → vi_Met E y' cc' nL' ret' d' mc' ms' As S (cz c) (D0 S z x N d0 M1)) (hst : st = As.reverse ++ rest) (hrs : (rest.map fun v => v.category).sum ≤ 8) (hdp : d' + 1 ≤ d ∧ 8 + (nL' + 11) + 45 * d' ≤ lo) (hrm : q + mc' ≤ mc ∧ n + ms' ≤ ms) (kk : ∀ S c, K c = some R → RC S z x N d0 c → cF S0 S z x N d0 → vi_W E X nL Z p' lv rest S (cz c) (q + mc') (n + ms')) : vi_W E X nL Z pc lv st S (cz c) q n := by
  obtain ⟨M1, h1, h2⟩ := bdo h
  refine vi_callS C As rest hd hp hi hi2 (hM _ h1) hst hrs hdp hrm (fun v S' sz' q => ?_)
  obtain ⟨rfl, rfl, q3, q4⟩ := q
  exact kk S' M1 h2 q3 (hF.tr q4)
theorem c_ci (C : vi_C E X y cc nL ret d mc ms lo) {p' idx : Nat} {y' : MethodName} {cc' : ByteArray} {nL' : Nat} {ret' : Option FieldType} {d' mc' ms' : Nat} {o : Option vC} {K : vC → Option ρ} (As rest : List Value) {a : Nat} (hd : decode cc pc = .ok (.invokespecial idx, 3)) (hp : pc + 3 = p') (hi : vi_Iv y.cls idx y' cc' nL' none As.length) (hi2 : y'.name = "<init>" ∧ Cond.instanceMethod y' ∈ vi_tb) (hR : RC S z x N d0 c) (hF : cF S0 S z x N d0) (h : o.bind K = some R) (hM : ∀ M1, o = some M1 → vi_Met E y' cc' nL' none d' mc' ms' (.ref a :: As) S (cz c) (D0 S z x N d0 M1)) (hst : st = As.reverse ++ .ref a :: rest) (hrs : (rest.map fun v => v.category).sum ≤ 8) (hdp : d' + 1 ≤ d ∧ 8 + (nL' + 11) + 45 * d' ≤ lo) (hrm : q + mc' ≤ mc ∧ n + ms' ≤ ms) (kk : ∀ S c, K c = some R → RC S z x N d0 c → cF S0 S z x N d0 → vi_W E X nL Z p' lv rest S (cz c) (q + mc') (n + ms')) : vi_W E X nL Z pc lv st S (cz c) q n := by
  obtain ⟨M1, h1, h2⟩ := bdo h
  refine vi_callI C As rest hd hp hi hi2 (hM _ h1) hst hrs hdp hrm (fun v S' sz' q => ?_)
  obtain ⟨rfl, rfl, q3, q4⟩ := q
  exact kk S' M1 h2 q3 (hF.tr q4)
theorem c_cv1 (C : vi_C E X y cc nL ret d mc ms lo) {p' idx : Nat} {y' : MethodName} {cc' : ByteArray} {nL' : Nat} {ret' : Option FieldType} {d' mc' ms' : Nat} {o : Option (vC × Int32)} {K : vC → Int32 → Option ρ} (As rest : List Value) {kc a : Nat} {r : vw_C} (hd : decode cc pc = .ok (.invokevirtual idx, 3)) (hp : pc + 3 = p') (hi : vi_Iv y.cls idx y' cc' nL' ret' As.length) (hi2 : Cond.instanceMethod y' ∈ vi_tb ∧ Cond.selects y'.cls y' y' ∈ vi_tb) (hc : vwCl[kc]? = some r) (hcl : r.1 = y'.cls) (ha : vK S a = kc + 1) (hR : RC S z x N d0 c) (hF : cF S0 S z x N d0) (h : b2 o K = some R) (hM : ∀ M1, o = some M1 → vi_Met E y' cc' nL' ret' d' mc' ms' (.ref a :: As) S (cz c) (D1 S z x N d0 M1)) (hst : st = As.reverse ++ .ref a :: rest) (hrs : (rest.map fun v => v.category).sum ≤ 8) (hdp : d' + 1 ≤ d ∧ 8 + (nL' + 11) + 45 * d' ≤ lo) (hrm : q + mc' ≤ mc ∧ n + ms' ≤ ms) (kk : ∀ S c v, K c v = some R → RC S z x N d0 c → cF S0 S z x N d0 → vi_W E X nL Z p' lv (.int v :: rest) S (cz c) (q + mc') (n + ms')) : vi_W E X nL Z pc lv st S (cz c) q n := by
  obtain ⟨M1, v1, h1, h2⟩ := b2o h
  refine vi_callV C As rest hd hp hi hi2 hc hcl ha (hM _ h1) hst hrs hdp hrm (fun v S' sz' q => ?_)
  obtain ⟨rfl, rfl, q3, q4⟩ := q
  exact kk S' M1 v1 h2 q3 (hF.tr q4)
theorem c_cs1 (C : vi_C E X y cc nL ret d mc ms lo) {p' idx : Nat} {y' : MethodName} {cc' : ByteArray} {nL' : Nat} {ret' : Option FieldType} {d' mc' ms' : Nat} {o : Option (vC × Int32)} {K : vC → Int32 → Option ρ} (As rest : List Value) (hd : decode cc pc = .ok (.invokestatic idx, 3)) (hp : pc + 3 = p') (hi : vi_Iv y.cls idx y' cc' nL' ret' As.length) (hi2 : Cond.static y' ∈ vi_tb) (hR : RC S z x N d0 c) (hF : cF S0 S z x N d0) (h : b2 o K = some R) (hM : ∀ M1, o = some M1 → vi_Met E y' cc' nL' ret' d' mc' ms' As S (cz c) (D1 S z x N d0 M1)) (hst : st = As.reverse ++ rest) (hrs : (rest.map fun v => v.category).sum ≤ 8) (hdp : d' + 1 ≤ d ∧ 8 + (nL' + 11) + 45 * d' ≤ lo) (hrm : q + mc' ≤ mc ∧ n + ms' ≤ ms) (kk : ∀ S c v, K c v = some R → RC S z x N d0 c → cF S0 S z x N d0 → vi_W E X nL Z p' lv (.int v :: rest) S (cz c) (q + mc') (n + ms')) : vi_W E X nL Z pc lv st S (cz c) q n := by
  obtain ⟨M1, v1, h1, h2⟩ := b2o h
  refine vi_callS C As rest hd hp hi hi2 (hM _ h1) hst hrs hdp hrm (fun v S' sz' q => ?_)
  obtain ⟨rfl, rfl, q3, q4⟩ := q
  exact kk S' M1 v1 h2 q3 (hF.tr q4)
theorem c_cv3 (C : vi_C E X y cc nL ret d mc ms lo) {p' idx : Nat} {y' : MethodName} {cc' : ByteArray} {nL' : Nat} {ret' : Option FieldType} {d' mc' ms' : Nat} {kt : Nat} {o : Option (vC × Option Nat)} {K : vC → Option Nat → Option ρ} (As rest : List Value) {kc a : Nat} {r : vw_C} (hd : decode cc pc = .ok (.invokevirtual idx, 3)) (hp : pc + 3 = p') (hi : vi_Iv y.cls idx y' cc' nL' ret' As.length) (hi2 : Cond.instanceMethod y' ∈ vi_tb ∧ Cond.selects y'.cls y' y' ∈ vi_tb) (hc : vwCl[kc]? = some r) (hcl : r.1 = y'.cls) (ha : vK S a = kc + 1) (hR : RC S z x N d0 c) (hF : cF S0 S z x N d0) (h : b2 o K = some R) (hM : ∀ M1, o = some M1 → vi_Met E y' cc' nL' ret' d' mc' ms' (.ref a :: As) S (cz c) (D3 kt S z x N d0 M1)) (hst : st = As.reverse ++ .ref a :: rest) (hrs : (rest.map fun v => v.category).sum ≤ 8) (hdp : d' + 1 ≤ d ∧ 8 + (nL' + 11) + 45 * d' ≤ lo) (hrm : q + mc' ≤ mc ∧ n + ms' ≤ ms) (kk : ∀ S c v, K c v = some R → RC S z x N d0 c → cF S0 S z x N d0 → vi_W E X nL Z p' lv (va_rf (v.map (ad z x kt)) :: rest) S (cz c) (q + mc') (n + ms')) : vi_W E X nL Z pc lv st S (cz c) q n := by
  obtain ⟨M1, v1, h1, h2⟩ := b2o h
  refine vi_callV C As rest hd hp hi hi2 hc hcl ha (hM _ h1) hst hrs hdp hrm (fun v S' sz' q => ?_)
  obtain ⟨rfl, rfl, q3, q4⟩ := q
  exact kk S' M1 v1 h2 q3 (hF.tr q4)
theorem c_cs3 (C : vi_C E X y cc nL ret d mc ms lo) {p' idx : Nat} {y' : MethodName} {cc' : ByteArray} {nL' : Nat} {ret' : Option FieldType} {d' mc' ms' : Nat} {kt : Nat} {o : Option (vC × Option Nat)} {K : vC → Option Nat → Option ρ} (As rest : List Value) (hd : decode cc pc = .ok (.invokestatic idx, 3)) (hp : pc + 3 = p') (hi : vi_Iv y.cls idx y' cc' nL' ret' As.length) (hi2 : Cond.static y' ∈ vi_tb) (hR : RC S z x N d0 c) (hF : cF S0 S z x N d0) (h : b2 o K = some R) (hM : ∀ M1, o = some M1 → vi_Met E y' cc' nL' ret' d' mc' ms' As S (cz c) (D3 kt S z x N d0 M1)) (hst : st = As.reverse ++ rest) (hrs : (rest.map fun v => v.category).sum ≤ 8) (hdp : d' + 1 ≤ d ∧ 8 + (nL' + 11) + 45 * d' ≤ lo) (hrm : q + mc' ≤ mc ∧ n + ms' ≤ ms) (kk : ∀ S c v, K c v = some R → RC S z x N d0 c → cF S0 S z x N d0 → vi_W E X nL Z p' lv (va_rf (v.map (ad z x kt)) :: rest) S (cz c) (q + mc') (n + ms')) : vi_W E X nL Z pc lv st S (cz c) q n := by
  obtain ⟨M1, v1, h1, h2⟩ := b2o h
  refine vi_callS C As rest hd hp hi hi2 (hM _ h1) hst hrs hdp hrm (fun v S' sz' q => ?_)
  obtain ⟨rfl, rfl, q3, q4⟩ := q
  exact kk S' M1 v1 h2 q3 (hF.tr q4)
theorem c_cv4 (C : vi_C E X y cc nL ret d mc ms lo) {p' idx : Nat} {y' : MethodName} {cc' : ByteArray} {nL' : Nat} {ret' : Option FieldType} {d' mc' ms' : Nat} {o : Option (vC × Option Nat)} {K : vC → Option Nat → Option ρ} (As rest : List Value) {kc a : Nat} {r : vw_C} (hd : decode cc pc = .ok (.invokevirtual idx, 3)) (hp : pc + 3 = p') (hi : vi_Iv y.cls idx y' cc' nL' ret' As.length) (hi2 : Cond.instanceMethod y' ∈ vi_tb ∧ Cond.selects y'.cls y' y' ∈ vi_tb) (hc : vwCl[kc]? = some r) (hcl : r.1 = y'.cls) (ha : vK S a = kc + 1) (hR : RC S z x N d0 c) (hF : cF S0 S z x N d0) (h : b2 o K = some R) (hM : ∀ M1, o = some M1 → vi_Met E y' cc' nL' ret' d' mc' ms' (.ref a :: As) S (cz c) (D4 S z x N d0 M1)) (hst : st = As.reverse ++ .ref a :: rest) (hrs : (rest.map fun v => v.category).sum ≤ 8) (hdp : d' + 1 ≤ d ∧ 8 + (nL' + 11) + 45 * d' ≤ lo) (hrm : q + mc' ≤ mc ∧ n + ms' ≤ ms) (kk : ∀ S c v, K c v = some R → RC S z x N d0 c → cF S0 S z x N d0 → vi_W E X nL Z p' lv (va_rf v :: rest) S (cz c) (q + mc') (n + ms')) : vi_W E X nL Z pc lv st S (cz c) q n := by
  obtain ⟨M1, v1, h1, h2⟩ := b2o h
  refine vi_callV C As rest hd hp hi hi2 hc hcl ha (hM _ h1) hst hrs hdp hrm (fun v S' sz' q => ?_)
  obtain ⟨rfl, rfl, q3, q4⟩ := q
  exact kk S' M1 v1 h2 q3 (hF.tr q4)
theorem c_cs4 (C : vi_C E X y cc nL ret d mc ms lo) {p' idx : Nat} {y' : MethodName} {cc' : ByteArray} {nL' : Nat} {ret' : Option FieldType} {d' mc' ms' : Nat} {o : Option (vC × Option Nat)} {K : vC → Option Nat → Option ρ} (As rest : List Value) (hd : decode cc pc = .ok (.invokestatic idx, 3)) (hp : pc + 3 = p') (hi : vi_Iv y.cls idx y' cc' nL' ret' As.length) (hi2 : Cond.static y' ∈ vi_tb) (hR : RC S z x N d0 c) (hF : cF S0 S z x N d0) (h : b2 o K = some R) (hM : ∀ M1, o = some M1 → vi_Met E y' cc' nL' ret' d' mc' ms' As S (cz c) (D4 S z x N d0 M1)) (hst : st = As.reverse ++ rest) (hrs : (rest.map fun v => v.category).sum ≤ 8) (hdp : d' + 1 ≤ d ∧ 8 + (nL' + 11) + 45 * d' ≤ lo) (hrm : q + mc' ≤ mc ∧ n + ms' ≤ ms) (kk : ∀ S c v, K c v = some R → RC S z x N d0 c → cF S0 S z x N d0 → vi_W E X nL Z p' lv (va_rf v :: rest) S (cz c) (q + mc') (n + ms')) : vi_W E X nL Z pc lv st S (cz c) q n := by
  obtain ⟨M1, v1, h1, h2⟩ := b2o h
  refine vi_callS C As rest hd hp hi hi2 (hM _ h1) hst hrs hdp hrm (fun v S' sz' q => ?_)
  obtain ⟨rfl, rfl, q3, q4⟩ := q
  exact kk S' M1 v1 h2 q3 (hF.tr q4)
end CLW
