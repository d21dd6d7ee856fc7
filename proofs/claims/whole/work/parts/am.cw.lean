/-! ===== the class opens its journal, forgets ===== -/
theorem e_gen {N : Nat} {c : vC} {r b g h : Nat} (hb : b ≤ 1) (hg0 : 0 < g) (hg : g < 2 ^ 31) (hh : h ≤ 1) (hd : Dk (cJ c r) (512 * b) (headL (nI g) (nI h))) : F_X2_generationIn N c r (nI b) = some (c, nI g) := by
  have b0 : dk (cJ c r) (512 * b) = 74 := hd 0 (show 0 < 12 by decide)
  have b1 : dk (cJ c r) (512 * b + 1) = 49 := hd 1 (show 1 < 12 by decide)
  have b2' : dk (cJ c r) (512 * b + 2) = by8 (nI h) := hd 2 (show 2 < 12 by decide)
  have b3 : dk (cJ c r) (512 * b + 3) = 0 := hd 3 (show 3 < 12 by decide)
  have b4 : dk (cJ c r) (512 * b + 4) = by8 (shr (nI g) 0) := hd 4 (show 4 < 12 by decide)
  have b5 : dk (cJ c r) (512 * b + 4 + 1) = by8 (shr (nI g) 8) := hd 5 (show 5 < 12 by decide)
  have b6 : dk (cJ c r) (512 * b + 4 + 2) = by8 (shr (nI g) 16) := hd 6 (show 6 < 12 by decide)
  have b7 : dk (cJ c r) (512 * b + 4 + 3) = by8 (shr (nI g) 24) := hd 7 (show 7 < 12 by decide)
  rw [by8_n (by omega)] at b2'
  have hck := e_dck (N := N) (c := c) (r := r) (a := 512 * b) (x := head8 (nI g) (nI h)) hd (by show _ + 8 + 4 < 32768; omega)
  unfold F_X2_generationIn
  rw [show nI b * (512 : Int32) = nI (512 * b) from by rw [Nat.mul_comm]; exact nI_mul _ 512, e_dByte (by omega), b2_, b0, jn_, if_pos (show nI 74 = (74 : Int32) from rfl), show nI (512 * b) + (1 : Int32) = nI (512 * b + 1) from nI_add _ 1, e_dByte (by omega), b2_, b1, if_pos (show nI 49 = (49 : Int32) from rfl), show nI (512 * b) + (2 : Int32) = nI (512 * b + 2) from nI_add _ 2, e_dByte (by omega), b2_, b2', if_neg (show ¬ (1 : Int32) < nI h from Int32.not_lt.mpr (nI_le (b := 1) hh (by decide))), show nI (512 * b) + (3 : Int32) = nI (512 * b + 3) from nI_add _ 3, e_dByte (by omega), b2_, b3, if_pos (show nI 0 = (0 : Int32) from rfl), show nI (512 * b) + (4 : Int32) = nI (512 * b + 4) from nI_add _ 4]
  dsimp only
  rw [e_dFour (by omega), b2_, b4, b5, b6, b7, le4_v, if_neg (show ¬ (1 : Int32) = 0 by decide), if_neg (show ¬ nI g ≤ (0 : Int32) from nI_ge (a := 0) hg0 hg), show (8 : Int32) = nI (head8 (nI g) (nI h)).length from rfl, hck, b2_, if_neg (show ¬ (1 : Int32) = 0 by decide)]
theorem e_gen0 {N : Nat} {c : vC} {r b : Nat} (hb : b ≤ 1) (h0 : dk (cJ c r) (512 * b) = 0) : F_X2_generationIn N c r (nI b) = some (c, 0) := by
  unfold F_X2_generationIn
  rw [show nI b * (512 : Int32) = nI (512 * b) from by rw [Nat.mul_comm]; exact nI_mul _ 512, e_dByte (by omega), b2_, h0, jn_, if_neg (show ¬ nI 0 = (74 : Int32) by decide), show nI (512 * b) + (4 : Int32) = nI (512 * b + 4) from nI_add _ 4]
  dsimp only
  rw [e_dFour (by omega), b2_, if_pos rfl]
/-- the heads on a disk -/
def HdJ (J : Nat → Int64) (g h : Nat) : Prop := Dk J (512 * (g % 2)) (headL (nI g) (nI h)) ∧ ((∃ h', h' ≤ 1 ∧ 2 ≤ g ∧ Dk J (512 * ((g + 1) % 2)) (headL (nI (g - 1)) (nI h'))) ∨ dk J (512 * ((g + 1) % 2)) = 0)
theorem e_open {N : Nat} {c : vC} {r g h : Nat} (hg0 : 0 < g) (hg : g < 2 ^ 30) (hh : h ≤ 1) (hd : HdJ (cJ c r) g h) : F_X2_open N c r = some (uI (uI (uI (uI c 208 r (nI g)) 209 r (nI h)) 206 r 0) 207 r 0) := by
  obtain ⟨d1, d2⟩ := hd
  have e1 := e_gen (N := N) (c := c) (r := r) (b := g % 2) (by omega) hg0 (by omega) hh d1
  have e2 : ∃ o, o < g ∧ F_X2_generationIn N c r (nI ((g + 1) % 2)) = some (c, nI o) := by
    rcases d2 with ⟨h', hh', h2, d⟩ | d
    · exact ⟨g - 1, by omega, e_gen (by omega) (by omega) (by omega) hh' d⟩
    · exact ⟨0, hg0, e_gen0 (by omega) d⟩
  obtain ⟨o, ho, e2⟩ := e2
  have bh : dk (cJ c r) (512 * (g % 2) + 2) = by8 (nI h) := d1 2 (show 2 < 12 by decide)
  rw [by8_n (by omega)] at bh
  have fin : ∀ b, b = g % 2 → (lt1 (uI c 208 r (nI g)) fun M7 => b2 (F_X2_byteAt N M7 r (((nI b * (512 : Int32)) + (2 : Int32)))) fun M8 v9 => lt1 (uI M8 209 r ((v9 &&& (1 : Int32)))) fun M10 => lt1 (uI M10 206 r ((0 : Int32))) fun M11 => lt1 (uI M11 207 r ((0 : Int32))) fun M12 => some M12) = some (uI (uI (uI (uI c 208 r (nI g)) 209 r (nI h)) 206 r 0) 207 r 0) := by
    intro b hb
    have ej : cJ (uI c 208 r (nI g)) r = cJ c r := rfl
    rw [l1_, show nI b * (512 : Int32) = nI (512 * b) from by rw [Nat.mul_comm]; exact nI_mul _ 512, show nI (512 * b) + (2 : Int32) = nI (512 * b + 2) from nI_add _ 2, e_dByte (by omega), b2_, ej, hb, bh, nI_odd, Nat.mod_eq_of_lt (show h < 2 by omega), l1_, l1_, l1_]
  unfold F_X2_open
  have hp : g % 2 = 0 ∨ g % 2 = 1 := by omega
  rcases hp with hp | hp
  · rw [hp] at e1
    rw [show (g + 1) % 2 = 1 by omega] at e2
    rw [show (0 : Int32) = nI 0 from rfl, e1, b2_, show (1 : Int32) = nI 1 from rfl, e2, b2_, jn_, if_neg (nI_ge ho (by omega)), mx_n (by omega) (by omega), Nat.max_eq_left (by omega)]
    exact fin 0 hp.symm
  · rw [hp] at e1
    rw [show (g + 1) % 2 = 0 by omega] at e2
    rw [show (0 : Int32) = nI 0 from rfl, e2, b2_, show (1 : Int32) = nI 1 from rfl, e1, b2_, jn_, if_pos (nI_le (by omega) (by omega)), mx_n (by omega) (by omega), Nat.max_eq_right (by omega)]
    exact fin 1 hp.symm
theorem tr_z16 {ρ : Type} {g : Nat → vC → Int32 → Option ρ} {Q : ρ → Prop} {kx : vC → Option ρ} (P : Nat → vC → Prop) (hexit : ∀ f c, g (f + 1) c (nI 16) = kx c) (hstep : ∀ f k c, k < 16 → P k c → ∃ c', g (f + 1) c (nI k) = g f c' (nI (k + 1)) ∧ P (k + 1) c') (c : vC) (h : P 0 c) (K : ∀ c', P 16 c' → tr (kx c') Q) : tr (g fu c 0) Q :=
  tr_up0 (g := g) P 16 (by decide) (fun f c' hp => by rw [hexit]; exact K c' hp) (fun f k c' hk hp ih => by
    obtain ⟨c2, e, hp2⟩ := hstep f k c' hk hp
    rw [e]; exact ih c2 hp2) c h
/-- the store forgets -/
theorem c_forgetS {N : Nat} {c : vC} {S : Sx} {r : Nat} {R : Rp} (h7 : R.1 7 = 0) (h8 : R.1 8 = 0) (h9 : R.1 9 = 0) (hV : S.V ≤ 16) : tr (F_X10_forget N c r) (fun c' => sk r c' c ∧ StA c' S r R) := by
  unfold F_X10_forget
  refine tr_l1 (tr_l1 (tr_l1 ?_))
  have z0 : sk r (uI (uI (uI c 1007 r 0) 1008 r 0) 1009 r 0) c := (sk_I (by decide)).tr ((sk_I (by decide)).tr (sk_I (by decide)))
  have i7 : cI (uI (uI (uI c 1007 r 0) 1008 r 0) 1009 r 0) 1007 r = 0 := by rw [uI_f _ _ _ (by decide), uI_f _ _ _ (by decide), uI_s]
  have i8 : cI (uI (uI (uI c 1007 r 0) 1008 r 0) 1009 r 0) 1008 r = 0 := by rw [uI_f _ _ _ (by decide), uI_s]
  have i9 : cI (uI (uI (uI c 1007 r 0) 1008 r 0) 1009 r 0) 1009 r = 0 := uI_s _ _ _ _
  generalize uI (uI (uI c 1007 r 0) 1008 r 0) 1009 r 0 = c1 at z0 i7 i8 i9 ⊢
  refine tr_z16 (g := L_X10_forget_17 N r _) (fun k c' => kpS r c' c1 (fun f => f = 1002 ∨ f = 1003) ∧ (∀ j, j < k → cR c' 1002 r j = 0) ∧ ∀ j, j < k → cR c' 1003 r j = 0) (fun f c' => by rw [L_X10_forget_17]; exact if_pos (nI_le (Nat.le_refl 16) (by decide))) (fun f k c' hk hp => ?_) c1 ⟨kpS.refl, fun j hj => absurd hj (Nat.not_lt_zero _), fun j hj => absurd hj (Nat.not_lt_zero _)⟩ fun c2 hp2 => ?_
  · obtain ⟨p1, p2, p3⟩ := hp
    refine ⟨_, by rw [L_X10_forget_17, if_neg (show ¬ (16 : Int32) ≤ nI k from nI_ge (b := 16) hk (by decide)), cSv (show k < 16 from hk) (by omega), Option.bind_some, cSv (show k < 16 from hk) (by omega), Option.bind_some, nI_add1], (p1.R (by decide) (Or.inl rfl)).R (by decide) (Or.inr rfl), fun j hj => ?_, fun j hj => ?_⟩
    · rw [uR_f _ _ _ _ (by decide)]
      by_cases e : j = k
      · subst e; rw [uR_s]
      · rw [uR_j _ _ _ _ e]; exact p2 j (by omega)
    · by_cases e : j = k
      · subst e; rw [uR_s]
      · rw [uR_j _ _ _ _ e, uR_f _ _ _ _ (by decide)]; exact p3 j (by omega)
  · obtain ⟨p1, p2, p3⟩ := hp2
    refine tr_z16 (g := L_X10_forget_45 N r _) (fun k c' => kpS r c' c2 (fun f => f = 1004) ∧ ∀ j, j < k → cR c' 1004 r j = 0) (fun f c' => by rw [L_X10_forget_45]; exact if_pos (nI_le (Nat.le_refl 16) (by decide))) (fun f k c' hk hp => ?_) c2 ⟨kpS.refl, fun j hj => absurd hj (Nat.not_lt_zero _)⟩ fun c3 hp3 => ?_
    · obtain ⟨q1, q2⟩ := hp
      refine ⟨_, by rw [L_X10_forget_45, if_neg (show ¬ (16 : Int32) ≤ nI k from nI_ge (b := 16) hk (by decide)), cSv (show k < 16 from hk) (by omega), Option.bind_some, nI_add1], q1.R (by decide) rfl, fun j hj => ?_⟩
      by_cases e : j = k
      · subst e; rw [uR_s]
      · rw [uR_j _ _ _ _ e]; exact q2 j (by omega)
    · obtain ⟨q1, q2⟩ := hp3
      refine tr_z16 (g := L_X10_forget_66 N r _) (fun k c' => kpS r c' c3 (fun f => f = 1005) ∧ ∀ j, j < k → cR c' 1005 r j = 0) (fun f c' => by rw [L_X10_forget_66]; exact if_pos (nI_le (Nat.le_refl 16) (by decide))) (fun f k c' hk hp => ?_) c3 ⟨kpS.refl, fun j hj => absurd hj (Nat.not_lt_zero _)⟩ fun c4 hp4 => ?_
      · obtain ⟨s1, s2⟩ := hp
        refine ⟨_, by rw [L_X10_forget_66, if_neg (show ¬ (16 : Int32) ≤ nI k from nI_ge (b := 16) hk (by decide)), cSv (show k < 272 by omega) (by omega), Option.bind_some, nI_add1], s1.R (by decide) rfl, fun j hj => ?_⟩
        by_cases e : j = k
        · subst e; rw [uR_s]
        · rw [uR_j _ _ _ _ e]; exact s2 j (by omega)
      · obtain ⟨s1, s2⟩ := hp4
        have fI : ∀ f, 100 ≤ f → ¬ (800 ≤ f ∧ f < 900) → cI c4 f r = cI c1 f r := fun f a b => (s1.2.1 f a b).trans ((q1.2.1 f a b).trans (p1.2.1 f a b))
        refine tr_some ⟨s1.1.tr (q1.1.tr (p1.1.tr z0)), ?_, ?_, ?_, fun s hs => ?_, fun s hs => ?_, fun v hv => ?_, fun i k b1 b2 b3 => ?_, fun i b1 b2 => by omega⟩
        · rw [fI 1007 (by decide) (by decide), i7, h7]; rfl
        · rw [fI 1008 (by decide) (by decide), i8, h8]; rfl
        · rw [fI 1009 (by decide) (by decide), i9, h7, h9]; rfl
        · rw [s1.2.2.1 1002 (by decide) (by decide), q1.2.2.1 1002 (by decide) (by decide), p2 s hs, h7]; rfl
        · rw [s1.2.2.1 1003 (by decide) (by decide), q1.2.2.1 1003 (by decide) (by decide), p3 s hs, h7]; rfl
        · rw [s1.2.2.1 1004 (by decide) (by decide), q2 v (by omega), h7]
          unfold y_wn
          rw [if_pos (Nat.zero_le _)]
        · obtain rfl : i = 0 := by omega
          rw [show 16 * (0 % 17) + k = k by omega, s2 k b3]; rfl
