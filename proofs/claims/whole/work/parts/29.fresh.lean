/-- a new Session -/
def SE0 (S : vS) (a : Nat) : Prop := vK S (a) = 10 ∧ vP S 900 (a) = some (a + 1) ∧ vI S 901 (a) = 0 ∧ vI S 902 (a) = 0 ∧ vI S 903 (a) = -1 ∧ vI S 904 (a) = -1 ∧ vI S 905 (a) = 0 ∧ vI S 906 (a) = 0 ∧ vI S 907 (a) = 0 ∧ vP S 908 (a) = none ∧ vK S (a + 1) = 21 ∧ vN S (a + 1) = 16 ∧ (∀ j, vR S (a + 1) j = 0)
theorem SE0.fr {S S1 : vS} {sz : Nat} {A : Nat → Prop} {a : Nat} (F : SE0 S a) (e : ag S sz S1 A) (h0 : a < sz ∧ ¬ A (a)) (h1 : a + 1 < sz ∧ ¬ A (a + 1)) : SE0 S1 a := by
  obtain ⟨f0, f1, f2, f3, f4, f5, f6, f7, f8, f9, f10, f11, f12⟩ := F
  obtain ⟨k0, n0, r0⟩ := e (a) h0.1
  obtain ⟨i0, p0, q0, j0, s0⟩ := r0 h0.2
  obtain ⟨k1, n1, r1⟩ := e (a + 1) h1.1
  obtain ⟨i1, p1, q1, j1, s1⟩ := r1 h1.2
  exact ⟨k0.trans f0, (p0 _).trans f1, (i0 _).trans f2, (i0 _).trans f3, (i0 _).trans f4, (i0 _).trans f5, (i0 _).trans f6, (i0 _).trans f7, (i0 _).trans f8, (p0 _).trans f9, k1.trans f10, n1.trans f11, fun j => (congrFun q1 j).trans (f12 j)⟩

/-- a new Store -/
def ST0 (S : vS) (a : Nat) (V L : Int32) : Prop := vK S (a) = 11 ∧ vI S 1000 (a) = V ∧ vI S 1001 (a) = L ∧ vP S 1002 (a) = some (a + 1) ∧ vP S 1003 (a) = some (a + 2) ∧ vP S 1004 (a) = some (a + 3) ∧ vP S 1005 (a) = some (a + 4) ∧ vP S 1006 (a) = some (a + 5) ∧ vI S 1007 (a) = 0 ∧ vI S 1008 (a) = 0 ∧ vI S 1009 (a) = 0 ∧ vK S (a + 1) = 21 ∧ vN S (a + 1) = 16 ∧ (∀ j, vR S (a + 1) j = 0) ∧ vK S (a + 2) = 21 ∧ vN S (a + 2) = 16 ∧ (∀ j, vR S (a + 2) j = 0) ∧ vK S (a + 3) = 21 ∧ vN S (a + 3) = 16 ∧ (∀ j, vR S (a + 3) j = 0) ∧ vK S (a + 4) = 21 ∧ vN S (a + 4) = 272 ∧ (∀ j, vR S (a + 4) j = 0) ∧ vK S (a + 5) = 26 ∧ vN S (a + 5) = 32 ∧ (∀ j, vQ S (a + 5) j = none)
theorem ST0.fr {S S1 : vS} {sz : Nat} {A : Nat → Prop} {a : Nat} {V L : Int32} (F : ST0 S a V L) (e : ag S sz S1 A) (h0 : a < sz ∧ ¬ A (a)) (h1 : a + 1 < sz ∧ ¬ A (a + 1)) (h2 : a + 2 < sz ∧ ¬ A (a + 2)) (h3 : a + 3 < sz ∧ ¬ A (a + 3)) (h4 : a + 4 < sz ∧ ¬ A (a + 4)) (h5 : a + 5 < sz ∧ ¬ A (a + 5)) : ST0 S1 a V L := by
  obtain ⟨f0, f1, f2, f3, f4, f5, f6, f7, f8, f9, f10, f11, f12, f13, f14, f15, f16, f17, f18, f19, f20, f21, f22, f23, f24, f25⟩ := F
  obtain ⟨k0, n0, r0⟩ := e (a) h0.1
  obtain ⟨i0, p0, q0, j0, s0⟩ := r0 h0.2
  obtain ⟨k1, n1, r1⟩ := e (a + 1) h1.1
  obtain ⟨i1, p1, q1, j1, s1⟩ := r1 h1.2
  obtain ⟨k2, n2, r2⟩ := e (a + 2) h2.1
  obtain ⟨i2, p2, q2, j2, s2⟩ := r2 h2.2
  obtain ⟨k3, n3, r3⟩ := e (a + 3) h3.1
  obtain ⟨i3, p3, q3, j3, s3⟩ := r3 h3.2
  obtain ⟨k4, n4, r4⟩ := e (a + 4) h4.1
  obtain ⟨i4, p4, q4, j4, s4⟩ := r4 h4.2
  obtain ⟨k5, n5, r5⟩ := e (a + 5) h5.1
  obtain ⟨i5, p5, q5, j5, s5⟩ := r5 h5.2
  exact ⟨k0.trans f0, (i0 _).trans f1, (i0 _).trans f2, (p0 _).trans f3, (p0 _).trans f4, (p0 _).trans f5, (p0 _).trans f6, (p0 _).trans f7, (i0 _).trans f8, (i0 _).trans f9, (i0 _).trans f10, k1.trans f11, n1.trans f12, fun j => (congrFun q1 j).trans (f13 j), k2.trans f14, n2.trans f15, fun j => (congrFun q2 j).trans (f16 j), k3.trans f17, n3.trans f18, fun j => (congrFun q3 j).trans (f19 j), k4.trans f20, n4.trans f21, fun j => (congrFun q4 j).trans (f22 j), k5.trans f23, n5.trans f24, fun j => (congrFun s5 j).trans (f25 j)⟩

/-- a new Replica with its queue, pieces and office -/
def RP0 (S : vS) (a s j nw ss pl : Nat) (r n T : Int32) : Prop := vK S (a) = 8 ∧ vI S 700 (a) = r ∧ vI S 701 (a) = n ∧ vI S 702 (a) = T ∧ vP S 703 (a) = some s ∧ vP S 704 (a) = some j ∧ vP S 705 (a) = some (a + 1) ∧ vP S 706 (a) = some (a + 3) ∧ vP S 707 (a) = some (a + 5) ∧ vP S 708 (a) = some nw ∧ vP S 709 (a) = some ss ∧ vP S 710 (a) = some pl ∧ vI S 711 (a) = 1 ∧ vI S 712 (a) = 0 ∧ vP S 713 (a) = none ∧ vI S 714 (a) = 0 ∧ vI S 715 (a) = 0 ∧ vI S 716 (a) = 0 ∧ vK S (a + 1) = 7 ∧ vP S 600 (a + 1) = some (a + 2) ∧ vI S 601 (a + 1) = 0 ∧ vK S (a + 2) = 26 ∧ vN S (a + 2) = 8 ∧ (∀ j, vQ S (a + 2) j = none) ∧ vK S (a + 3) = 6 ∧ vP S 500 (a + 3) = some (a + 4) ∧ vI S 501 (a + 3) = -1 ∧ vI S 502 (a + 3) = 0 ∧ vI S 503 (a + 3) = 0 ∧ vK S (a + 4) = 20 ∧ vN S (a + 4) = 256 ∧ (∀ j, vR S (a + 4) j = 0) ∧ vK S (a + 5) = 5 ∧ vI S 400 (a + 5) = 0 ∧ vI S 401 (a + 5) = 0 ∧ vI S 402 (a + 5) = 0 ∧ vP S 403 (a + 5) = none ∧ vP S 404 (a + 5) = none ∧ vI S 405 (a + 5) = 0
theorem RP0.fr {S S1 : vS} {sz : Nat} {A : Nat → Prop} {a s j nw ss pl : Nat} {r n T : Int32} (F : RP0 S a s j nw ss pl r n T) (e : ag S sz S1 A) (h0 : a < sz ∧ ¬ A (a)) (h1 : a + 1 < sz ∧ ¬ A (a + 1)) (h2 : a + 2 < sz ∧ ¬ A (a + 2)) (h3 : a + 3 < sz ∧ ¬ A (a + 3)) (h4 : a + 4 < sz ∧ ¬ A (a + 4)) (h5 : a + 5 < sz ∧ ¬ A (a + 5)) : RP0 S1 a s j nw ss pl r n T := by
  obtain ⟨f0, f1, f2, f3, f4, f5, f6, f7, f8, f9, f10, f11, f12, f13, f14, f15, f16, f17, f18, f19, f20, f21, f22, f23, f24, f25, f26, f27, f28, f29, f30, f31, f32, f33, f34, f35, f36, f37, f38⟩ := F
  obtain ⟨k0, n0, r0⟩ := e (a) h0.1
  obtain ⟨i0, p0, q0, j0, s0⟩ := r0 h0.2
  obtain ⟨k1, n1, r1⟩ := e (a + 1) h1.1
  obtain ⟨i1, p1, q1, j1, s1⟩ := r1 h1.2
  obtain ⟨k2, n2, r2⟩ := e (a + 2) h2.1
  obtain ⟨i2, p2, q2, j2, s2⟩ := r2 h2.2
  obtain ⟨k3, n3, r3⟩ := e (a + 3) h3.1
  obtain ⟨i3, p3, q3, j3, s3⟩ := r3 h3.2
  obtain ⟨k4, n4, r4⟩ := e (a + 4) h4.1
  obtain ⟨i4, p4, q4, j4, s4⟩ := r4 h4.2
  obtain ⟨k5, n5, r5⟩ := e (a + 5) h5.1
  obtain ⟨i5, p5, q5, j5, s5⟩ := r5 h5.2
  exact ⟨k0.trans f0, (i0 _).trans f1, (i0 _).trans f2, (i0 _).trans f3, (p0 _).trans f4, (p0 _).trans f5, (p0 _).trans f6, (p0 _).trans f7, (p0 _).trans f8, (p0 _).trans f9, (p0 _).trans f10, (p0 _).trans f11, (i0 _).trans f12, (i0 _).trans f13, (p0 _).trans f14, (i0 _).trans f15, (i0 _).trans f16, (i0 _).trans f17, k1.trans f18, (p1 _).trans f19, (i1 _).trans f20, k2.trans f21, n2.trans f22, fun j => (congrFun s2 j).trans (f23 j), k3.trans f24, (p3 _).trans f25, (i3 _).trans f26, (i3 _).trans f27, (i3 _).trans f28, k4.trans f29, n4.trans f30, fun j => (congrFun q4 j).trans (f31 j), k5.trans f32, (i5 _).trans f33, (i5 _).trans f34, (i5 _).trans f35, (p5 _).trans f36, (p5 _).trans f37, (i5 _).trans f38⟩

/-- the cluster's own cell, but for its row of replicas -/
def CL0 (S : vS) (x z : Nat) (V L T : Int32) : Prop := vK S (x) = 12 ∧ vI S 1100 (x) = V ∧ vI S 1101 (x) = L ∧ vI S 1102 (x) = T ∧ vP S 1104 (x) = some (z + 206) ∧ vP S 1105 (x) = some (z + 2) ∧ vP S 1106 (x) = some z
theorem CL0.fr {S S1 : vS} {sz : Nat} {A : Nat → Prop} {x z : Nat} {V L T : Int32} (F : CL0 S x z V L T) (e : ag S sz S1 A) (h0 : x < sz ∧ ¬ A (x)) : CL0 S1 x z V L T := by
  obtain ⟨f0, f1, f2, f3, f4, f5, f6⟩ := F
  obtain ⟨k0, n0, r0⟩ := e (x) h0.1
  obtain ⟨i0, p0, q0, j0, s0⟩ := r0 h0.2
  exact ⟨k0.trans f0, (i0 _).trans f1, (i0 _).trans f2, (i0 _).trans f3, (p0 _).trans f4, (p0 _).trans f5, (p0 _).trans f6⟩
