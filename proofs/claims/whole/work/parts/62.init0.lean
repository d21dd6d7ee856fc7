theorem srefc {z x f i t : Nat} (h : sref z x f i = some t) : f = 0 ∧ t = aa z x 0 i ∨ f = 200 ∧ t = aa z x 200 i ∨ f = 300 ∧ t = aa z x 300 i ∨ f = 500 ∧ t = aa z x 500 i ∨ f = 600 ∧ t = aa z x 600 i ∨ f = 900 ∧ t = aa z x 900 i ∨ f = 1002 ∧ t = aa z x 1002 i ∨ f = 1003 ∧ t = aa z x 1003 i ∨ f = 1004 ∧ t = aa z x 1004 i ∨ f = 1005 ∧ t = aa z x 1005 i ∨ f = 1006 ∧ t = aa z x 1006 i ∨ f = 201 ∧ t = ad z x 0 2 ∨ f = 302 ∧ t = ad z x 1 1 ∨ f = 703 ∧ t = ad z x 10 i ∨ f = 704 ∧ t = ad z x 2 i ∨ f = 705 ∧ t = ad z x 6 i ∨ f = 706 ∧ t = ad z x 5 i ∨ f = 707 ∧ t = ad z x 4 i ∨ f = 708 ∧ t = ad z x 3 0 ∨ f = 710 ∧ t = ad z x 0 1 ∨ f = 1105 ∧ t = ad z x 3 0 ∨ f = 1106 ∧ t = ad z x 0 0 ∨ f = 709 ∧ t = z + 206 ∨ f = 1104 ∧ t = z + 206 ∨ f = 1103 ∧ t = z + 243 := by
  unfold sref at h
  split at h <;> first | (obtain rfl := Option.some.inj h; simp) | cases h
/-- the class's machine at its start -/
def c0 (S : vS) (z x d0 : Nat) : vC := (fun f i => vI S f (ad z x (f / 100) i), fun f i => if f = 301 then some 0 else vP S f (ad z x (f / 100) i), fun f i => vR S (aa z x f i), fun i => vJ S (aa z x 200 i), fun f i => if f = 300 then (fun j => some (2 + j)) else vQ S (aa z x f i), fun _ => 0, fun _ => 0, fun _ _ => 0, d0)
set_option maxRecDepth 100000 in
set_option maxHeartbeats 4000000 in
theorem rc_init {S : vS} {z x N sz d0 : Nat} {V L T : Int32} (hC : CB S sz x z V L T) (hS : SEs S z 16) (hR : REs S sz x z N N V L T) (hx : x < z) (hd : z + 244 + 14 * N ≤ d0) : RC S z x N d0 (c0 S z x d0) := by
  obtain ⟨⟨x1, x2, x3, x4, x5, x6, x7⟩, ⟨⟨-, -, v1, v2⟩, v3, v4, -⟩, ⟨n1, n2, n3, n4, -, n6, n7, n8, n9⟩, c4, c5⟩ := hC
  have hP := hR.2.2.2.1
  obtain ⟨l2, y2, ⟨⟨-, -, i1, i2⟩, i3, i4, -⟩⟩ := hR.2.2.2.2.1
  obtain ⟨⟨-, -, w1, w2⟩, w3, w4, -⟩ := hP
  refine ⟨⟨hx, hd, Nat.le_refl _⟩, fun k i ho => ⟨?_, fun j hj => ?_⟩, fun k j i t ho hj ht => ?_, fun k j i ho hj hd' => ?_, ?_, fun f i ho => ?_, ⟨c4, c5, fun s hs => (hS s hs).1, hR.2.1, hR.2.2.1, fun r hr => ?_⟩, fun a ha => absurd rfl ha⟩
  · rcases okc ho with ⟨rfl, g⟩ | ⟨rfl, g⟩ | ⟨rfl, g⟩ | ⟨rfl, g⟩ | ⟨rfl, g⟩ | ⟨rfl, g⟩ | ⟨rfl, g⟩ | ⟨rfl, g⟩ | ⟨rfl, g⟩ | ⟨rfl, g⟩ | ⟨rfl, g⟩
    · rcases (show i = 0 ∨ i = 1 ∨ i = 2 by omega) with rfl | rfl | rfl
      · exact v1
      · exact w1
      · exact i1
    · have := (n9 i (by omega)).1
      rw [show ad z x 1 i = z + 3 + 1 + i from by show z + 4 + i = _; omega]
      exact this
    · obtain ⟨⟨s1, -, -, s4, s5, s6, s7, s8, -, -, -, t1, t2, -, t4, t5, -, t7, t8, -, t10, t11, -, t13, t14, -⟩, ⟨-, j1, j2, j3⟩, ⟨-, k1, k2, -⟩, -, ⟨r1, -, -, -, r5, r6, r7, r8, r9, r10, r11, r12, -, -, -, -, -, -, p1, p2, -, p4, p5, -, p7, p8, -, -, -, p12, p13, -, p15, -⟩⟩ := (hR.2.2.2.2.2 i g).2
      rw [show ad z x 2 i = z + 244 + 14 * i + 6 from by show z + 250 + 14 * i = _; omega]
      exact j1
    · exact n1
    · obtain ⟨⟨s1, -, -, s4, s5, s6, s7, s8, -, -, -, t1, t2, -, t4, t5, -, t7, t8, -, t10, t11, -, t13, t14, -⟩, ⟨-, j1, j2, j3⟩, ⟨-, k1, k2, -⟩, -, ⟨r1, -, -, -, r5, r6, r7, r8, r9, r10, r11, r12, -, -, -, -, -, -, p1, p2, -, p4, p5, -, p7, p8, -, -, -, p12, p13, -, p15, -⟩⟩ := (hR.2.2.2.2.2 i g).2
      rw [show ad z x 4 i = z + 244 + 14 * i + 8 + 5 from by show z + 257 + 14 * i = _; omega]
      exact p15
    · obtain ⟨⟨s1, -, -, s4, s5, s6, s7, s8, -, -, -, t1, t2, -, t4, t5, -, t7, t8, -, t10, t11, -, t13, t14, -⟩, ⟨-, j1, j2, j3⟩, ⟨-, k1, k2, -⟩, -, ⟨r1, -, -, -, r5, r6, r7, r8, r9, r10, r11, r12, -, -, -, -, -, -, p1, p2, -, p4, p5, -, p7, p8, -, -, -, p12, p13, -, p15, -⟩⟩ := (hR.2.2.2.2.2 i g).2
      rw [show ad z x 5 i = z + 244 + 14 * i + 8 + 3 from by show z + 255 + 14 * i = _; omega]
      exact p7
    · obtain ⟨⟨s1, -, -, s4, s5, s6, s7, s8, -, -, -, t1, t2, -, t4, t5, -, t7, t8, -, t10, t11, -, t13, t14, -⟩, ⟨-, j1, j2, j3⟩, ⟨-, k1, k2, -⟩, -, ⟨r1, -, -, -, r5, r6, r7, r8, r9, r10, r11, r12, -, -, -, -, -, -, p1, p2, -, p4, p5, -, p7, p8, -, -, -, p12, p13, -, p15, -⟩⟩ := (hR.2.2.2.2.2 i g).2
      rw [show ad z x 6 i = z + 244 + 14 * i + 8 + 1 from by show z + 253 + 14 * i = _; omega]
      exact p1
    · obtain ⟨⟨s1, -, -, s4, s5, s6, s7, s8, -, -, -, t1, t2, -, t4, t5, -, t7, t8, -, t10, t11, -, t13, t14, -⟩, ⟨-, j1, j2, j3⟩, ⟨-, k1, k2, -⟩, -, ⟨r1, -, -, -, r5, r6, r7, r8, r9, r10, r11, r12, -, -, -, -, -, -, p1, p2, -, p4, p5, -, p7, p8, -, -, -, p12, p13, -, p15, -⟩⟩ := (hR.2.2.2.2.2 i g).2
      rw [show ad z x 7 i = z + 244 + 14 * i + 8 from by show z + 252 + 14 * i = _; omega]
      exact r1
    · exact (hS i g).2.1
    · obtain ⟨⟨s1, -, -, s4, s5, s6, s7, s8, -, -, -, t1, t2, -, t4, t5, -, t7, t8, -, t10, t11, -, t13, t14, -⟩, ⟨-, j1, j2, j3⟩, ⟨-, k1, k2, -⟩, -, ⟨r1, -, -, -, r5, r6, r7, r8, r9, r10, r11, r12, -, -, -, -, -, -, p1, p2, -, p4, p5, -, p7, p8, -, -, -, p12, p13, -, p15, -⟩⟩ := (hR.2.2.2.2.2 i g).2
      exact s1
    · exact x1
  · show vI S (100 * k + j) (ad z x k i) = vI S (100 * k + j) (ad z x ((100 * k + j) / 100) i)
    rw [show (100 * k + j) / 100 = k from by omega]
  · rcases srefc ht with ⟨e, rfl⟩ | ⟨e, rfl⟩ | ⟨e, rfl⟩ | ⟨e, rfl⟩ | ⟨e, rfl⟩ | ⟨e, rfl⟩ | ⟨e, rfl⟩ | ⟨e, rfl⟩ | ⟨e, rfl⟩ | ⟨e, rfl⟩ | ⟨e, rfl⟩ | ⟨e, rfl⟩ | ⟨e, rfl⟩ | ⟨e, rfl⟩ | ⟨e, rfl⟩ | ⟨e, rfl⟩ | ⟨e, rfl⟩ | ⟨e, rfl⟩ | ⟨e, rfl⟩ | ⟨e, rfl⟩ | ⟨e, rfl⟩ | ⟨e, rfl⟩ | ⟨e, rfl⟩ | ⟨e, rfl⟩ | ⟨e, rfl⟩
    · obtain rfl : k = 0 := by omega
      obtain rfl : j = 0 := by omega
      rcases (show i = 0 ∨ i = 1 ∨ i = 2 from by have : i < 3 := ho; omega) with rfl | rfl | rfl
      · exact v3
      · exact w3
      · exact i3
    · obtain rfl : k = 2 := by omega
      obtain rfl : j = 0 := by omega
      have g : i < N := ho
      obtain ⟨⟨s1, -, -, s4, s5, s6, s7, s8, -, -, -, t1, t2, -, t4, t5, -, t7, t8, -, t10, t11, -, t13, t14, -⟩, ⟨-, j1, j2, j3⟩, ⟨-, k1, k2, -⟩, -, ⟨r1, -, -, -, r5, r6, r7, r8, r9, r10, r11, r12, -, -, -, -, -, -, p1, p2, -, p4, p5, -, p7, p8, -, -, -, p12, p13, -, p15, -⟩⟩ := (hR.2.2.2.2.2 i g).2
      rw [show ad z x 2 i = z + 244 + 14 * i + 6 from by show z + 250 + 14 * i = _; omega]
      rw [show aa z x 200 i = z + 244 + 14 * i + 7 from by show z + 251 + 14 * i = _; omega]
      exact j2
    · obtain rfl : k = 3 := by omega
      obtain rfl : j = 0 := by omega
      obtain rfl : i = 0 := ho
      exact n2
    · obtain rfl : k = 5 := by omega
      obtain rfl : j = 0 := by omega
      have g : i < N := ho
      obtain ⟨⟨s1, -, -, s4, s5, s6, s7, s8, -, -, -, t1, t2, -, t4, t5, -, t7, t8, -, t10, t11, -, t13, t14, -⟩, ⟨-, j1, j2, j3⟩, ⟨-, k1, k2, -⟩, -, ⟨r1, -, -, -, r5, r6, r7, r8, r9, r10, r11, r12, -, -, -, -, -, -, p1, p2, -, p4, p5, -, p7, p8, -, -, -, p12, p13, -, p15, -⟩⟩ := (hR.2.2.2.2.2 i g).2
      rw [show ad z x 5 i = z + 244 + 14 * i + 8 + 3 from by show z + 255 + 14 * i = _; omega]
      rw [show aa z x 500 i = z + 244 + 14 * i + 8 + 4 from by show z + 256 + 14 * i = _; omega]
      exact p8
    · obtain rfl : k = 6 := by omega
      obtain rfl : j = 0 := by omega
      have g : i < N := ho
      obtain ⟨⟨s1, -, -, s4, s5, s6, s7, s8, -, -, -, t1, t2, -, t4, t5, -, t7, t8, -, t10, t11, -, t13, t14, -⟩, ⟨-, j1, j2, j3⟩, ⟨-, k1, k2, -⟩, -, ⟨r1, -, -, -, r5, r6, r7, r8, r9, r10, r11, r12, -, -, -, -, -, -, p1, p2, -, p4, p5, -, p7, p8, -, -, -, p12, p13, -, p15, -⟩⟩ := (hR.2.2.2.2.2 i g).2
      rw [show ad z x 6 i = z + 244 + 14 * i + 8 + 1 from by show z + 253 + 14 * i = _; omega]
      rw [show aa z x 600 i = z + 244 + 14 * i + 8 + 2 from by show z + 254 + 14 * i = _; omega]
      exact p2
    · obtain rfl : k = 9 := by omega
      obtain rfl : j = 0 := by omega
      have g : i < 16 := ho
      rw [show aa z x 900 i = z + 207 + 2 * i + 1 from by show z + 208 + 2 * i = _; omega]
      exact (hS i g).2.2.1
    · obtain rfl : k = 10 := by omega
      obtain rfl : j = 2 := by omega
      have g : i < N := ho
      obtain ⟨⟨s1, -, -, s4, s5, s6, s7, s8, -, -, -, t1, t2, -, t4, t5, -, t7, t8, -, t10, t11, -, t13, t14, -⟩, ⟨-, j1, j2, j3⟩, ⟨-, k1, k2, -⟩, -, ⟨r1, -, -, -, r5, r6, r7, r8, r9, r10, r11, r12, -, -, -, -, -, -, p1, p2, -, p4, p5, -, p7, p8, -, -, -, p12, p13, -, p15, -⟩⟩ := (hR.2.2.2.2.2 i g).2
      have q := s4
      rw [show aa z x 1002 i = z + 244 + 14 * i + 1 from by show z + 245 + 14 * i = _; omega]
      exact q
    · obtain rfl : k = 10 := by omega
      obtain rfl : j = 3 := by omega
      have g : i < N := ho
      obtain ⟨⟨s1, -, -, s4, s5, s6, s7, s8, -, -, -, t1, t2, -, t4, t5, -, t7, t8, -, t10, t11, -, t13, t14, -⟩, ⟨-, j1, j2, j3⟩, ⟨-, k1, k2, -⟩, -, ⟨r1, -, -, -, r5, r6, r7, r8, r9, r10, r11, r12, -, -, -, -, -, -, p1, p2, -, p4, p5, -, p7, p8, -, -, -, p12, p13, -, p15, -⟩⟩ := (hR.2.2.2.2.2 i g).2
      have q := s5
      rw [show aa z x 1003 i = z + 244 + 14 * i + 2 from by show z + 246 + 14 * i = _; omega]
      exact q
    · obtain rfl : k = 10 := by omega
      obtain rfl : j = 4 := by omega
      have g : i < N := ho
      obtain ⟨⟨s1, -, -, s4, s5, s6, s7, s8, -, -, -, t1, t2, -, t4, t5, -, t7, t8, -, t10, t11, -, t13, t14, -⟩, ⟨-, j1, j2, j3⟩, ⟨-, k1, k2, -⟩, -, ⟨r1, -, -, -, r5, r6, r7, r8, r9, r10, r11, r12, -, -, -, -, -, -, p1, p2, -, p4, p5, -, p7, p8, -, -, -, p12, p13, -, p15, -⟩⟩ := (hR.2.2.2.2.2 i g).2
      have q := s6
      rw [show aa z x 1004 i = z + 244 + 14 * i + 3 from by show z + 247 + 14 * i = _; omega]
      exact q
    · obtain rfl : k = 10 := by omega
      obtain rfl : j = 5 := by omega
      have g : i < N := ho
      obtain ⟨⟨s1, -, -, s4, s5, s6, s7, s8, -, -, -, t1, t2, -, t4, t5, -, t7, t8, -, t10, t11, -, t13, t14, -⟩, ⟨-, j1, j2, j3⟩, ⟨-, k1, k2, -⟩, -, ⟨r1, -, -, -, r5, r6, r7, r8, r9, r10, r11, r12, -, -, -, -, -, -, p1, p2, -, p4, p5, -, p7, p8, -, -, -, p12, p13, -, p15, -⟩⟩ := (hR.2.2.2.2.2 i g).2
      have q := s7
      rw [show aa z x 1005 i = z + 244 + 14 * i + 4 from by show z + 248 + 14 * i = _; omega]
      exact q
    · obtain rfl : k = 10 := by omega
      obtain rfl : j = 6 := by omega
      have g : i < N := ho
      obtain ⟨⟨s1, -, -, s4, s5, s6, s7, s8, -, -, -, t1, t2, -, t4, t5, -, t7, t8, -, t10, t11, -, t13, t14, -⟩, ⟨-, j1, j2, j3⟩, ⟨-, k1, k2, -⟩, -, ⟨r1, -, -, -, r5, r6, r7, r8, r9, r10, r11, r12, -, -, -, -, -, -, p1, p2, -, p4, p5, -, p7, p8, -, -, -, p12, p13, -, p15, -⟩⟩ := (hR.2.2.2.2.2 i g).2
      have q := s8
      rw [show aa z x 1006 i = z + 244 + 14 * i + 5 from by show z + 249 + 14 * i = _; omega]
      exact q
    · obtain rfl : k = 2 := by omega
      obtain rfl : j = 1 := by omega
      have g : i < N := ho
      obtain ⟨⟨s1, -, -, s4, s5, s6, s7, s8, -, -, -, t1, t2, -, t4, t5, -, t7, t8, -, t10, t11, -, t13, t14, -⟩, ⟨-, j1, j2, j3⟩, ⟨-, k1, k2, -⟩, -, ⟨r1, -, -, -, r5, r6, r7, r8, r9, r10, r11, r12, -, -, -, -, -, -, p1, p2, -, p4, p5, -, p7, p8, -, -, -, p12, p13, -, p15, -⟩⟩ := (hR.2.2.2.2.2 i g).2
      rw [show ad z x 2 i = z + 244 + 14 * i + 6 from by show z + 250 + 14 * i = _; omega]
      exact j3
    · obtain rfl : k = 3 := by omega
      obtain rfl : j = 2 := by omega
      obtain rfl : i = 0 := ho
      exact n4
    · obtain rfl : k = 7 := by omega
      obtain rfl : j = 3 := by omega
      have g : i < N := ho
      obtain ⟨⟨s1, -, -, s4, s5, s6, s7, s8, -, -, -, t1, t2, -, t4, t5, -, t7, t8, -, t10, t11, -, t13, t14, -⟩, ⟨-, j1, j2, j3⟩, ⟨-, k1, k2, -⟩, -, ⟨r1, -, -, -, r5, r6, r7, r8, r9, r10, r11, r12, -, -, -, -, -, -, p1, p2, -, p4, p5, -, p7, p8, -, -, -, p12, p13, -, p15, -⟩⟩ := (hR.2.2.2.2.2 i g).2
      rw [show ad z x 7 i = z + 244 + 14 * i + 8 from by show z + 252 + 14 * i = _; omega]
      rw [show ad z x 10 i = z + 244 + 14 * i  from by show z + 244 + 14 * i = _; omega]
      exact r5
    · obtain rfl : k = 7 := by omega
      obtain rfl : j = 4 := by omega
      have g : i < N := ho
      obtain ⟨⟨s1, -, -, s4, s5, s6, s7, s8, -, -, -, t1, t2, -, t4, t5, -, t7, t8, -, t10, t11, -, t13, t14, -⟩, ⟨-, j1, j2, j3⟩, ⟨-, k1, k2, -⟩, -, ⟨r1, -, -, -, r5, r6, r7, r8, r9, r10, r11, r12, -, -, -, -, -, -, p1, p2, -, p4, p5, -, p7, p8, -, -, -, p12, p13, -, p15, -⟩⟩ := (hR.2.2.2.2.2 i g).2
      rw [show ad z x 7 i = z + 244 + 14 * i + 8 from by show z + 252 + 14 * i = _; omega]
      rw [show ad z x 2 i = z + 244 + 14 * i + 6 from by show z + 250 + 14 * i = _; omega]
      exact r6
    · obtain rfl : k = 7 := by omega
      obtain rfl : j = 5 := by omega
      have g : i < N := ho
      obtain ⟨⟨s1, -, -, s4, s5, s6, s7, s8, -, -, -, t1, t2, -, t4, t5, -, t7, t8, -, t10, t11, -, t13, t14, -⟩, ⟨-, j1, j2, j3⟩, ⟨-, k1, k2, -⟩, -, ⟨r1, -, -, -, r5, r6, r7, r8, r9, r10, r11, r12, -, -, -, -, -, -, p1, p2, -, p4, p5, -, p7, p8, -, -, -, p12, p13, -, p15, -⟩⟩ := (hR.2.2.2.2.2 i g).2
      rw [show ad z x 7 i = z + 244 + 14 * i + 8 from by show z + 252 + 14 * i = _; omega]
      rw [show ad z x 6 i = z + 244 + 14 * i + 8 + 1 from by show z + 253 + 14 * i = _; omega]
      exact r7
    · obtain rfl : k = 7 := by omega
      obtain rfl : j = 6 := by omega
      have g : i < N := ho
      obtain ⟨⟨s1, -, -, s4, s5, s6, s7, s8, -, -, -, t1, t2, -, t4, t5, -, t7, t8, -, t10, t11, -, t13, t14, -⟩, ⟨-, j1, j2, j3⟩, ⟨-, k1, k2, -⟩, -, ⟨r1, -, -, -, r5, r6, r7, r8, r9, r10, r11, r12, -, -, -, -, -, -, p1, p2, -, p4, p5, -, p7, p8, -, -, -, p12, p13, -, p15, -⟩⟩ := (hR.2.2.2.2.2 i g).2
      rw [show ad z x 7 i = z + 244 + 14 * i + 8 from by show z + 252 + 14 * i = _; omega]
      rw [show ad z x 5 i = z + 244 + 14 * i + 8 + 3 from by show z + 255 + 14 * i = _; omega]
      exact r8
    · obtain rfl : k = 7 := by omega
      obtain rfl : j = 7 := by omega
      have g : i < N := ho
      obtain ⟨⟨s1, -, -, s4, s5, s6, s7, s8, -, -, -, t1, t2, -, t4, t5, -, t7, t8, -, t10, t11, -, t13, t14, -⟩, ⟨-, j1, j2, j3⟩, ⟨-, k1, k2, -⟩, -, ⟨r1, -, -, -, r5, r6, r7, r8, r9, r10, r11, r12, -, -, -, -, -, -, p1, p2, -, p4, p5, -, p7, p8, -, -, -, p12, p13, -, p15, -⟩⟩ := (hR.2.2.2.2.2 i g).2
      rw [show ad z x 7 i = z + 244 + 14 * i + 8 from by show z + 252 + 14 * i = _; omega]
      rw [show ad z x 4 i = z + 244 + 14 * i + 8 + 5 from by show z + 257 + 14 * i = _; omega]
      exact r9
    · obtain rfl : k = 7 := by omega
      obtain rfl : j = 8 := by omega
      have g : i < N := ho
      obtain ⟨⟨s1, -, -, s4, s5, s6, s7, s8, -, -, -, t1, t2, -, t4, t5, -, t7, t8, -, t10, t11, -, t13, t14, -⟩, ⟨-, j1, j2, j3⟩, ⟨-, k1, k2, -⟩, -, ⟨r1, -, -, -, r5, r6, r7, r8, r9, r10, r11, r12, -, -, -, -, -, -, p1, p2, -, p4, p5, -, p7, p8, -, -, -, p12, p13, -, p15, -⟩⟩ := (hR.2.2.2.2.2 i g).2
      rw [show ad z x 7 i = z + 244 + 14 * i + 8 from by show z + 252 + 14 * i = _; omega]
      exact r10
    · obtain rfl : k = 7 := by omega
      obtain rfl : j = 10 := by omega
      have g : i < N := ho
      obtain ⟨⟨s1, -, -, s4, s5, s6, s7, s8, -, -, -, t1, t2, -, t4, t5, -, t7, t8, -, t10, t11, -, t13, t14, -⟩, ⟨-, j1, j2, j3⟩, ⟨-, k1, k2, -⟩, -, ⟨r1, -, -, -, r5, r6, r7, r8, r9, r10, r11, r12, -, -, -, -, -, -, p1, p2, -, p4, p5, -, p7, p8, -, -, -, p12, p13, -, p15, -⟩⟩ := (hR.2.2.2.2.2 i g).2
      rw [show ad z x 7 i = z + 244 + 14 * i + 8 from by show z + 252 + 14 * i = _; omega]
      exact r12
    · obtain rfl : k = 11 := by omega
      obtain rfl : j = 5 := by omega
      obtain rfl : i = 0 := ho
      exact x6
    · obtain rfl : k = 11 := by omega
      obtain rfl : j = 6 := by omega
      obtain rfl : i = 0 := ho
      exact x7
    · obtain rfl : k = 7 := by omega
      obtain rfl : j = 9 := by omega
      have g : i < N := ho
      obtain ⟨⟨s1, -, -, s4, s5, s6, s7, s8, -, -, -, t1, t2, -, t4, t5, -, t7, t8, -, t10, t11, -, t13, t14, -⟩, ⟨-, j1, j2, j3⟩, ⟨-, k1, k2, -⟩, -, ⟨r1, -, -, -, r5, r6, r7, r8, r9, r10, r11, r12, -, -, -, -, -, -, p1, p2, -, p4, p5, -, p7, p8, -, -, -, p12, p13, -, p15, -⟩⟩ := (hR.2.2.2.2.2 i g).2
      rw [show ad z x 7 i = z + 244 + 14 * i + 8 from by show z + 252 + 14 * i = _; omega]
      exact r11
    · obtain rfl : k = 11 := by omega
      obtain rfl : j = 4 := by omega
      obtain rfl : i = 0 := ho
      exact x5
    · obtain rfl : k = 11 := by omega
      obtain rfl : j = 3 := by omega
      obtain rfl : i = 0 := ho
      exact hR.1
  · show vP S (100 * k + j) (ad z x k i) = if 100 * k + j = 301 then some 0 else vP S (100 * k + j) (ad z x ((100 * k + j) / 100) i)
    rw [if_neg (fun e => by rw [e] at hd'; revert hd'; decide), show (100 * k + j) / 100 = k from by omega]
  · exact n3
  · rcases akc ho with ⟨rfl, g⟩ | ⟨rfl, g⟩ | ⟨rfl, g⟩ | ⟨rfl, g⟩ | ⟨rfl, g⟩ | ⟨rfl, g⟩ | ⟨rfl, g⟩ | ⟨rfl, g⟩ | ⟨rfl, g⟩ | ⟨rfl, g⟩ | ⟨rfl, g⟩
    · rcases (show i = 0 ∨ i = 1 ∨ i = 2 by omega) with rfl | rfl | rfl
      · exact ⟨v2, v4, fun _ => rfl, (fun e => absurd e (by decide)), (fun e => absurd e (by decide)), (fun e => absurd e (by decide))⟩
      · exact ⟨w2, w4, fun _ => rfl, (fun e => absurd e (by decide)), (fun e => absurd e (by decide)), (fun e => absurd e (by decide))⟩
      · exact ⟨i2, i4, fun _ => rfl, (fun e => absurd e (by decide)), (fun e => absurd e (by decide)), (fun e => absurd e (by decide))⟩
    · obtain ⟨⟨s1, -, -, s4, s5, s6, s7, s8, -, -, -, t1, t2, -, t4, t5, -, t7, t8, -, t10, t11, -, t13, t14, -⟩, ⟨-, j1, j2, j3⟩, ⟨-, k1, k2, -⟩, -, ⟨r1, -, -, -, r5, r6, r7, r8, r9, r10, r11, r12, -, -, -, -, -, -, p1, p2, -, p4, p5, -, p7, p8, -, -, -, p12, p13, -, p15, -⟩⟩ := (hR.2.2.2.2.2 i g).2
      have ea : aa z x 200 i = z + 244 + 14 * i + 7 := by
        show z + 251 + 14 * i = _
        omega
      refine ⟨by rw [ea]; exact k1, by rw [ea]; exact k2, fun _ => rfl, fun _ => rfl, (fun e => absurd e (by decide)), (fun e => absurd e (by decide))⟩
    · obtain rfl := g
      refine ⟨n6, n7, fun _ => rfl, (fun e => absurd e (by decide)), (fun e => absurd e (by decide)), (fun _ j hj => ?_)⟩
      show vQ S (z + 3) j = some (z + 4 + (2 + j))
      rw [n8 j hj]
      congr 1
      omega
    · obtain ⟨⟨s1, -, -, s4, s5, s6, s7, s8, -, -, -, t1, t2, -, t4, t5, -, t7, t8, -, t10, t11, -, t13, t14, -⟩, ⟨-, j1, j2, j3⟩, ⟨-, k1, k2, -⟩, -, ⟨r1, -, -, -, r5, r6, r7, r8, r9, r10, r11, r12, -, -, -, -, -, -, p1, p2, -, p4, p5, -, p7, p8, -, -, -, p12, p13, -, p15, -⟩⟩ := (hR.2.2.2.2.2 i g).2
      have ea : aa z x 500 i = z + 244 + 14 * i + 8 + 4 := by
        show z + 256 + 14 * i = _
        omega
      refine ⟨by rw [ea]; exact p12, by rw [ea]; exact p13, fun _ => rfl, (fun e => absurd e (by decide)), (fun e => absurd e (by decide)), (fun e => absurd e (by decide))⟩
    · obtain ⟨⟨s1, -, -, s4, s5, s6, s7, s8, -, -, -, t1, t2, -, t4, t5, -, t7, t8, -, t10, t11, -, t13, t14, -⟩, ⟨-, j1, j2, j3⟩, ⟨-, k1, k2, -⟩, -, ⟨r1, -, -, -, r5, r6, r7, r8, r9, r10, r11, r12, -, -, -, -, -, -, p1, p2, -, p4, p5, -, p7, p8, -, -, -, p12, p13, -, p15, -⟩⟩ := (hR.2.2.2.2.2 i g).2
      have ea : aa z x 600 i = z + 244 + 14 * i + 8 + 2 := by
        show z + 254 + 14 * i = _
        omega
      refine ⟨by rw [ea]; exact p4, by rw [ea]; exact p5, fun _ => rfl, (fun e => absurd e (by decide)), fun _ => rfl, (fun e => absurd e (by decide))⟩
    · obtain ⟨-, -, -, -, -, -, -, -, -, -, q11, q12, -⟩ := (hS i g).2
      rw [show aa z x 900 i = z + 207 + 2 * i + 1 from by show z + 208 + 2 * i = _; omega]
      exact ⟨q11, q12, fun _ => (by show _ = vR S (z + 208 + 2 * i); rw [show z + 208 + 2 * i = z + 207 + 2 * i + 1 from by omega]), (fun e => absurd e (by decide)), (fun e => absurd e (by decide)), (fun e => absurd e (by decide))⟩
    · obtain ⟨⟨s1, -, -, s4, s5, s6, s7, s8, -, -, -, t1, t2, -, t4, t5, -, t7, t8, -, t10, t11, -, t13, t14, -⟩, ⟨-, j1, j2, j3⟩, ⟨-, k1, k2, -⟩, -, ⟨r1, -, -, -, r5, r6, r7, r8, r9, r10, r11, r12, -, -, -, -, -, -, p1, p2, -, p4, p5, -, p7, p8, -, -, -, p12, p13, -, p15, -⟩⟩ := (hR.2.2.2.2.2 i g).2
      have ea : aa z x 1002 i = z + 244 + 14 * i + 1 := by
        show z + 245 + 14 * i = _
        omega
      refine ⟨by rw [ea]; exact t1, by rw [ea]; exact t2, fun _ => rfl, (fun e => absurd e (by decide)), (fun e => absurd e (by decide)), (fun e => absurd e (by decide))⟩
    · obtain ⟨⟨s1, -, -, s4, s5, s6, s7, s8, -, -, -, t1, t2, -, t4, t5, -, t7, t8, -, t10, t11, -, t13, t14, -⟩, ⟨-, j1, j2, j3⟩, ⟨-, k1, k2, -⟩, -, ⟨r1, -, -, -, r5, r6, r7, r8, r9, r10, r11, r12, -, -, -, -, -, -, p1, p2, -, p4, p5, -, p7, p8, -, -, -, p12, p13, -, p15, -⟩⟩ := (hR.2.2.2.2.2 i g).2
      have ea : aa z x 1003 i = z + 244 + 14 * i + 2 := by
        show z + 246 + 14 * i = _
        omega
      refine ⟨by rw [ea]; exact t4, by rw [ea]; exact t5, fun _ => rfl, (fun e => absurd e (by decide)), (fun e => absurd e (by decide)), (fun e => absurd e (by decide))⟩
    · obtain ⟨⟨s1, -, -, s4, s5, s6, s7, s8, -, -, -, t1, t2, -, t4, t5, -, t7, t8, -, t10, t11, -, t13, t14, -⟩, ⟨-, j1, j2, j3⟩, ⟨-, k1, k2, -⟩, -, ⟨r1, -, -, -, r5, r6, r7, r8, r9, r10, r11, r12, -, -, -, -, -, -, p1, p2, -, p4, p5, -, p7, p8, -, -, -, p12, p13, -, p15, -⟩⟩ := (hR.2.2.2.2.2 i g).2
      have ea : aa z x 1004 i = z + 244 + 14 * i + 3 := by
        show z + 247 + 14 * i = _
        omega
      refine ⟨by rw [ea]; exact t7, by rw [ea]; exact t8, fun _ => rfl, (fun e => absurd e (by decide)), (fun e => absurd e (by decide)), (fun e => absurd e (by decide))⟩
    · obtain ⟨⟨s1, -, -, s4, s5, s6, s7, s8, -, -, -, t1, t2, -, t4, t5, -, t7, t8, -, t10, t11, -, t13, t14, -⟩, ⟨-, j1, j2, j3⟩, ⟨-, k1, k2, -⟩, -, ⟨r1, -, -, -, r5, r6, r7, r8, r9, r10, r11, r12, -, -, -, -, -, -, p1, p2, -, p4, p5, -, p7, p8, -, -, -, p12, p13, -, p15, -⟩⟩ := (hR.2.2.2.2.2 i g).2
      have ea : aa z x 1005 i = z + 244 + 14 * i + 4 := by
        show z + 248 + 14 * i = _
        omega
      refine ⟨by rw [ea]; exact t10, by rw [ea]; exact t11, fun _ => rfl, (fun e => absurd e (by decide)), (fun e => absurd e (by decide)), (fun e => absurd e (by decide))⟩
    · obtain ⟨⟨s1, -, -, s4, s5, s6, s7, s8, -, -, -, t1, t2, -, t4, t5, -, t7, t8, -, t10, t11, -, t13, t14, -⟩, ⟨-, j1, j2, j3⟩, ⟨-, k1, k2, -⟩, -, ⟨r1, -, -, -, r5, r6, r7, r8, r9, r10, r11, r12, -, -, -, -, -, -, p1, p2, -, p4, p5, -, p7, p8, -, -, -, p12, p13, -, p15, -⟩⟩ := (hR.2.2.2.2.2 i g).2
      have ea : aa z x 1006 i = z + 244 + 14 * i + 5 := by
        show z + 249 + 14 * i = _
        omega
      refine ⟨by rw [ea]; exact t13, by rw [ea]; exact t14, fun _ => rfl, (fun e => absurd e (by decide)), fun _ => rfl, (fun e => absurd e (by decide))⟩
  · have g := hr
    rw [(hR.2.2.2.2.2 r hr).1]
    congr 1
    show _ = z + 252 + 14 * r
    omega

