/-- the class's values at its start -/
def CI (c : vC) (N : Nat) (V L T : Int32) : Prop :=
  (cI c 1100 0 = V ∧ cI c 1101 0 = L ∧ cI c 1102 0 = T) ∧
  (∀ s, s < 16 → cI c 901 s = 0 ∧ cI c 902 s = 0 ∧ cI c 903 s = -1 ∧ cI c 904 s = -1 ∧ cI c 905 s = 0 ∧ cI c 906 s = 0 ∧ cI c 907 s = 0 ∧ cP c 908 s = none ∧ ∀ j, cR c 900 s j = 0) ∧
  (∀ r, r < N → (cI c 1000 r = V ∧ cI c 1001 r = L ∧ cI c 1007 r = 0 ∧ cI c 1008 r = 0 ∧ cI c 1009 r = 0 ∧ (∀ j, cR c 1002 r j = 0) ∧ (∀ j, cR c 1003 r j = 0) ∧ (∀ j, cR c 1004 r j = 0) ∧ (∀ j, cR c 1005 r j = 0) ∧ ∀ j, cQ c 1006 r j = none) ∧
    (cI c 202 r = 0 ∧ cI c 203 r = 0 ∧ cI c 204 r = 0 ∧ cI c 205 r = -1 ∧ cI c 206 r = 0 ∧ cI c 207 r = 0 ∧ cI c 208 r = 1 ∧ cI c 209 r = 0 ∧ ∀ a, a < 32768 → jb (cJ c r (a / 8)) (a % 8) = plD (fun _ => 0) (headL 1 0) 512 1024 512 a) ∧
    (cI c 700 r = nI r ∧ cI c 701 r = nI N ∧ cI c 702 r = T ∧ cI c 711 r = 1 ∧ cI c 712 r = 0 ∧ cP c 713 r = none ∧ cI c 714 r = 0 ∧ cI c 715 r = 0 ∧ cI c 716 r = 0) ∧
    (cI c 601 r = 0 ∧ ∀ j, cQ c 600 r j = none) ∧ (cI c 501 r = -1 ∧ cI c 502 r = 0 ∧ cI c 503 r = 0 ∧ ∀ j, cR c 500 r j = 0) ∧
    (cI c 400 r = 0 ∧ cI c 401 r = 0 ∧ cI c 402 r = 0 ∧ cP c 403 r = none ∧ cP c 404 r = none ∧ cI c 405 r = 0)) ∧
  (∀ i, i < 202 → cI c 108 i = -1 ∧ cI c 109 i = -1 ∧ (∀ f, 100 ≤ f → f < 200 → f ≠ 108 → f ≠ 109 → cI c f i = 0) ∧ cP c 105 i = none ∧ cP c 107 i = none) ∧
  (cI c 303 0 = 0 ∧ cI c 304 0 = 0 ∧ cI c 305 0 = 0 ∧ cI c 306 0 = 0 ∧ cP c 301 0 = some 0 ∧ ∀ j, cQ c 300 0 j = some (2 + j)) ∧
  (cI c 1 0 = 0 ∧ cI c 2 0 = 0 ∧ cI c 1 1 = 0 ∧ cI c 2 1 = 0) ∧ ∀ a, cK c a = 0
set_option maxRecDepth 100000 in
set_option maxHeartbeats 4000000 in
theorem ci_init {S : vS} {z x N sz d0 : Nat} {V L T : Int32} (hC : CB S sz x z V L T) (hS : SEs S z 16) (hR : REs S sz x z N N V L T) : CI (c0 S z x d0) N V L T := by
  obtain ⟨⟨x1, x2, x3, x4, x5, x6, x7⟩, ⟨-, -, -, -, -, v6, v7, -⟩, ⟨n1, n2, n3, n4, n5, n6, n7, n8, n9⟩, c4, c5⟩ := hC
  obtain ⟨-, -, -, -, -, w6, w7, -⟩ := hR.2.2.2.1
  refine ⟨⟨x2, x3, x4⟩, fun s hs => ?_, fun r hr => ?_, fun i hi => ?_, ⟨n5.1, n5.2.1, n5.2.2.1, n5.2.2.2, rfl, fun _ => rfl⟩, ⟨v6, v7, w6, w7⟩, fun _ => rfl⟩
  · obtain ⟨-, -, q1, q2, q3, q4, q5, q6, q7, q8, -, -, q9⟩ := (hS s hs).2
    refine ⟨q1, q2, q3, q4, q5, q6, q7, q8, fun j => ?_⟩
    show vR S (z + 208 + 2 * s) j = 0
    rw [show z + 208 + 2 * s = z + 207 + 2 * s + 1 from by omega]
    exact q9 j
  · obtain ⟨⟨-, s2, s3, -, -, -, -, -, s9, s10, s11, -, -, t3, -, -, t6, -, -, t9, -, -, t12, -, -, t15⟩, -, ⟨-, -, -, k3⟩, ⟨j1, j2, j3, j4, j5, j6, j7, j8⟩, ⟨-, r2, r3, r4, -, -, -, -, -, -, -, -, r13, r14, r15, r16, r17, r18, -, -, p3, -, -, p6, -, -, p9, p10, p11, -, -, p14, -, p16, p17, p18, p19, p20, p21⟩⟩ := (hR.2.2.2.2.2 r hr).2
    have e2 : ad z x 2 r = z + 244 + 14 * r + 6 := by show z + 250 + 14 * r = _; omega
    have e4 : ad z x 4 r = z + 244 + 14 * r + 8 + 5 := by show z + 257 + 14 * r = _; omega
    have e5 : ad z x 5 r = z + 244 + 14 * r + 8 + 3 := by show z + 255 + 14 * r = _; omega
    have e6 : ad z x 6 r = z + 244 + 14 * r + 8 + 1 := by show z + 253 + 14 * r = _; omega
    have e7 : ad z x 7 r = z + 244 + 14 * r + 8 := by show z + 252 + 14 * r = _; omega
    exact ⟨⟨s2, s3, s9, s10, s11, (fun j => by show vR S (z + 245 + 14 * r) j = _; rw [show z + 245 + 14 * r = z + 244 + 14 * r + 1 from by omega]; exact t3 j), (fun j => by show vR S (z + 246 + 14 * r) j = _; rw [show z + 246 + 14 * r = z + 244 + 14 * r + 2 from by omega]; exact t6 j), (fun j => by show vR S (z + 247 + 14 * r) j = _; rw [show z + 247 + 14 * r = z + 244 + 14 * r + 3 from by omega]; exact t9 j), (fun j => by show vR S (z + 248 + 14 * r) j = _; rw [show z + 248 + 14 * r = z + 244 + 14 * r + 4 from by omega]; exact t12 j), (fun j => by show vQ S (z + 249 + 14 * r) j = _; rw [show z + 249 + 14 * r = z + 244 + 14 * r + 5 from by omega]; exact t15 j)⟩, ⟨(by show vI S 202 (ad z x 2 r) = _; rw [e2]; exact j1), (by show vI S 203 (ad z x 2 r) = _; rw [e2]; exact j2), (by show vI S 204 (ad z x 2 r) = _; rw [e2]; exact j3), (by show vI S 205 (ad z x 2 r) = _; rw [e2]; exact j4), (by show vI S 206 (ad z x 2 r) = _; rw [e2]; exact j5), (by show vI S 207 (ad z x 2 r) = _; rw [e2]; exact j6), (by show vI S 208 (ad z x 2 r) = _; rw [e2]; exact j7), (by show vI S 209 (ad z x 2 r) = _; rw [e2]; exact j8), (fun a ha => by show jb (vJ S (z + 251 + 14 * r) (a / 8)) (a % 8) = _; rw [show z + 251 + 14 * r = z + 244 + 14 * r + 7 from by omega]; exact k3 a ha)⟩, ⟨(by show vI S 700 (ad z x 7 r) = _; rw [e7]; exact r2), (by show vI S 701 (ad z x 7 r) = _; rw [e7]; exact r3), (by show vI S 702 (ad z x 7 r) = _; rw [e7]; exact r4), (by show vI S 711 (ad z x 7 r) = _; rw [e7]; exact r13), (by show vI S 712 (ad z x 7 r) = _; rw [e7]; exact r14), (by show vP S 713 (ad z x 7 r) = _; rw [e7]; exact r15), (by show vI S 714 (ad z x 7 r) = _; rw [e7]; exact r16), (by show vI S 715 (ad z x 7 r) = _; rw [e7]; exact r17), (by show vI S 716 (ad z x 7 r) = _; rw [e7]; exact r18)⟩, ⟨(by show vI S 601 (ad z x 6 r) = _; rw [e6]; exact p3), (fun j => by show vQ S (z + 254 + 14 * r) j = _; rw [show z + 254 + 14 * r = z + 244 + 14 * r + 8 + 2 from by omega]; exact p6 j)⟩, ⟨(by show vI S 501 (ad z x 5 r) = _; rw [e5]; exact p9), (by show vI S 502 (ad z x 5 r) = _; rw [e5]; exact p10), (by show vI S 503 (ad z x 5 r) = _; rw [e5]; exact p11), (fun j => by show vR S (z + 256 + 14 * r) j = _; rw [show z + 256 + 14 * r = z + 244 + 14 * r + 8 + 4 from by omega]; exact p14 j)⟩, ⟨(by show vI S 400 (ad z x 4 r) = _; rw [e4]; exact p16), (by show vI S 401 (ad z x 4 r) = _; rw [e4]; exact p17), (by show vI S 402 (ad z x 4 r) = _; rw [e4]; exact p18), (by show vP S 403 (ad z x 4 r) = _; rw [e4]; exact p19), (by show vP S 404 (ad z x 4 r) = _; rw [e4]; exact p20), (by show vI S 405 (ad z x 4 r) = _; rw [e4]; exact p21)⟩⟩
  · obtain ⟨-, f1, f2, f3, f4⟩ := n9 i (by omega)
    have e1 : ad z x 1 i = z + 3 + 1 + i := by show z + 4 + i = _; omega
    refine ⟨?_, ?_, fun f h1 h2 h3 h4 => ?_, ?_, ?_⟩
    · show vI S 108 (ad z x 1 i) = -1
      rw [e1]; exact f1
    · show vI S 109 (ad z x 1 i) = -1
      rw [e1]; exact f2
    · show vI S f (ad z x (f / 100) i) = 0
      rw [show f / 100 = 1 from by omega, e1]; exact f3 f h3 h4
    · show vP S 105 (ad z x 1 i) = none
      rw [e1]; exact f4 105
    · show vP S 107 (ad z x 1 i) = none
      rw [e1]; exact f4 107
/-- the reference's machine at its start, and its values -/
def m0 (S : vS) (m b : Nat) : vM := (fun f => vI S (1200 + f) m, fun j i => vR S (b + j) i)
def MIn (M : vM) (N : Nat) (V L T : Int32) : Prop :=
  (M.1 1 = nI N ∧ M.1 2 = V ∧ M.1 3 = L ∧ M.1 4 = 1 ∧ M.1 11 = T) ∧ (∀ f, f ≠ 1 → f ≠ 2 → f ≠ 3 → f ≠ 4 → f ≠ 11 → f ≠ 45 → M.1 f = 0) ∧
  (∀ j, M.2 49 j = if j < 16 then -1 else 0) ∧ (∀ r, M.2 6 r = if r < N then 1 else 0) ∧ (∀ r, M.2 35 r = if r < N then -1 else 0) ∧ (∀ r, M.2 32 r = if r < N then 1 else 0) ∧ (∀ r, M.2 34 r = 0) ∧
  (∀ p, M.2 36 p = if p / 32768 < N ∧ 512 ≤ p % 32768 ∧ p % 32768 < 1024 then sb_b (byA (headL 1 0) (p % 32768 - 512)) else 0) ∧
  ∀ j, j < 55 → j ≠ 6 → j ≠ 35 → j ≠ 32 → j ≠ 36 → j ≠ 38 → j ≠ 34 → j ≠ 49 → ∀ i, M.2 j i = 0
theorem mi_init {S : vS} {sz m b N : Nat} {V L T : Int32} (h : M0 S sz m b N V L T) : RM S sz m b (m0 S m b) ∧ MIn (m0 S m b) N V L T := by
  obtain ⟨h1, ⟨r1, r2, r3, r4, r5⟩, h3, h4, h5, h6⟩ := h
  refine ⟨⟨h1, fun _ => rfl, fun _ _ _ => rfl⟩, h3, fun f e1 e2 e3 e4 e5 e6 => h4 _ (by omega) (by omega) (by omega) (by omega) (by omega) (by omega), h5, r1, r2, r3, r4, r5, fun j hj e1 e2 e3 e4 e5 e6 e7 i => h6 _ (by omega) (by omega) (by omega) (by omega) (by omega) (by omega) (by omega) (by omega) (by omega) i⟩
