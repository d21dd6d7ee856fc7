/-- the cluster's cell, its view, its network, its row of sessions -/
def CB (S : vS) (sz x z : Nat) (V L T : Int32) : Prop := CL0 S x z V L T ∧ BY S sz z (z + 1) 2048 [] 0 ∧ NI S (z + 2) (z + 3) 200 ∧ vK S (z + 206) = 27 ∧ vN S (z + 206) = 16
theorem CB.fr {S S1 : vS} {sz sz1 x z : Nat} {V L T : Int32} {A : Nat → Prop} (F : CB S sz x z V L T) (e : ag S sz S1 A) (hs : sz ≤ sz1) (hx : x < sz ∧ ¬ A x) (hz : z + 207 ≤ sz) (hA : ∀ d, d < 206 → ¬ A (z + d)) : CB S1 sz1 x z V L T := by
  obtain ⟨f1, f2, f3, f4, f5⟩ := F
  refine ⟨f1.fr e hx, f2.fr e hs (hA 0 (by omega)) (hA 1 (by omega)), f3.fr e (by omega) (by omega) (hA 2 (by omega)) (fun j hj => ?_), (e _ (by omega)).1.trans f4, (e _ (by omega)).2.1.trans f5⟩
  have := hA (3 + j) (by omega)
  rwa [← Nat.add_assoc] at this
/-- the first i sessions are new ones -/
def SEs (S : vS) (z i : Nat) : Prop := ∀ s, s < i → vQ S (z + 206) s = some (z + 207 + 2 * s) ∧ SE0 S (z + 207 + 2 * s)
theorem SEs.fr {S S1 : vS} {sz z i : Nat} {A : Nat → Prop} (F : SEs S z i) (e : ag S sz S1 A) (hz : z + 207 + 2 * i ≤ sz) (hA : ∀ d, d < 1 + 2 * i → ¬ A (z + 206 + d)) : SEs S1 z i := fun s hs => by
  obtain ⟨f1, f2⟩ := F s hs
  have a0 := hA 0 (by omega)
  have a1 := hA (1 + 2 * s) (by omega)
  have a2 := hA (1 + 2 * s + 1) (by omega)
  rw [show z + 206 + (1 + 2 * s) = z + 207 + 2 * s by omega] at a1
  rw [show z + 206 + (1 + 2 * s + 1) = z + 207 + 2 * s + 1 by omega] at a2
  obtain ⟨-, -, r⟩ := e (z + 206) (by omega)
  obtain ⟨-, -, -, -, q⟩ := r a0
  exact ⟨by rw [q]; exact f1, f2.fr e ⟨by omega, a1⟩ ⟨by omega, a2⟩⟩
/-- replica q with all that it has, new -/
def RE0 (S : vS) (sz z q n : Nat) (V L T : Int32) : Prop := ST0 S (z + 244 + 14 * q) V L ∧ JO S sz (z + 244 + 14 * q + 6) (z + 244 + 14 * q + 7) (z + 241) ∧ JD S sz (z + 244 + 14 * q + 7) (plD (fun _ => 0) (headL 1 0) 512 1024 512) ∧ JV S (z + 244 + 14 * q + 6) 0 0 0 (-1) 0 0 1 0 ∧ RP0 S (z + 244 + 14 * q + 8) (z + 244 + 14 * q) (z + 244 + 14 * q + 6) (z + 2) (z + 206) (z + 239) (nI q) (nI n) T
theorem RE0.fr {S S1 : vS} {sz sz1 z q n : Nat} {V L T : Int32} {A : Nat → Prop} (F : RE0 S sz z q n V L T) (e : ag S sz S1 A) (hs : sz ≤ sz1) (hz : z + 244 + 14 * q + 14 ≤ sz) (hA : ∀ d, d < 14 → ¬ A (z + 244 + 14 * q + d)) : RE0 S1 sz1 z q n V L T := by
  obtain ⟨f1, f2, f3, f4, f5⟩ := F
  exact ⟨f1.fr e ⟨by omega, hA 0 (by omega)⟩ ⟨by omega, hA 1 (by omega)⟩ ⟨by omega, hA 2 (by omega)⟩ ⟨by omega, hA 3 (by omega)⟩ ⟨by omega, hA 4 (by omega)⟩ ⟨by omega, hA 5 (by omega)⟩, f2.fr e hs (hA 6 (by omega)), f3.fr e hs (hA 7 (by omega)), f4.fr e (by omega) (hA 6 (by omega)), f5.fr e ⟨by omega, hA 8 (by omega)⟩ ⟨by omega, hA 9 (by omega)⟩ ⟨by omega, hA 10 (by omega)⟩ ⟨by omega, hA 11 (by omega)⟩ ⟨by omega, hA 12 (by omega)⟩ ⟨by omega, hA 13 (by omega)⟩⟩
/-- the first i replicas are new ones; the row of replicas; the two rows of bytes -/
def REs (S : vS) (sz x z n i : Nat) (V L T : Int32) : Prop := vP S 1103 x = some (z + 243) ∧ vK S (z + 243) = 25 ∧ vN S (z + 243) = n ∧ BY S sz (z + 239) (z + 240) 2048 [] 0 ∧ (∃ l y, BY S sz (z + 241) (z + 242) 2048 l y) ∧ ∀ q, q < i → vQ S (z + 243) q = some (z + 244 + 14 * q + 8) ∧ RE0 S sz z q n V L T
