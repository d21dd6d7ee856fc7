/-! ===== the start ===== -/
def y_dk0 : Nat → Nat := fun a => if 512 ≤ a ∧ a < 1024 then byA (headL 1 0) (a - 512) else 0
def y_rp0 (N r : Nat) : Rp := if r < N then (fun f => match f with
  | 6 => 1
  | 32 => 1
  | 35 => y_no
  | _ => 0, [], [], y_dk0) else (fun _ => 0, [], [], fun _ => 0)
def y_se0 : Se := (fun f => if f = 49 then y_no else 0, fun _ => 0, fun _ => 0)
def y_s0 (N V L T : Nat) : Sx := (fun f => match f with
  | 1 => N
  | 2 => V
  | 3 => L
  | 4 => 1
  | 11 => T
  | _ => 0, fun _ => (fun _ => 0, fun _ => 0, fun _ => 0), fun _ => 0, y_rp0 N, fun _ => y_se0, [])
theorem rp0_u {N r : Nat} (h : r < N) : y_rp0 N r = (fun f => match f with
  | 6 => 1
  | 32 => 1
  | 35 => y_no
  | _ => 0, [], [], y_dk0) := if_pos h
theorem rp0_d {N r : Nat} (h : ¬ r < N) : y_rp0 N r = (fun _ => 0, [], [], fun _ => 0) := if_neg h
theorem rp0_f {N r : Nat} (h : r < N) {f : Nat} (h6 : f ≠ 6) (h32 : f ≠ 32) (h35 : f ≠ 35) : (y_rp0 N r).1 f = 0 := by
  rw [rp0_u h]
  show (match f with
    | 6 => 1
    | 32 => 1
    | 35 => y_no
    | _ => 0) = 0
  split <;> first | exact absurd rfl h6 | exact absurd rfl h32 | exact absurd rfl h35 | rfl
theorem rp0_o {N r : Nat} (h : r < N) : (y_rp0 N r).1 6 = 1 ∧ (y_rp0 N r).1 32 = 1 ∧ (y_rp0 N r).1 35 = y_no ∧ (y_rp0 N r).2.1 = [] ∧ (y_rp0 N r).2.2.1 = [] ∧ (y_rp0 N r).2.2.2 = y_dk0 := by
  rw [rp0_u h]
  exact ⟨rfl, rfl, rfl, rfl, rfl, rfl⟩
theorem iv_0 {N V L T : Nat} (hN : 3 ≤ N ∧ N ≤ 9) (hV : 1 ≤ V ∧ V ≤ 16) (hL : 1 ≤ L ∧ L ≤ 32) (hT : 2 ≤ T ∧ T ≤ 40) : IvS 0 (y_s0 N V L T) := by
  refine ⟨(fun _ _ => 0, fun _ _ _ => False), ⟨hN.1, hN.2, hV.1, hV.2, hL.1, hL.2, hT.1, hT.2, fun q => ⟨show 0 < 16 by decide, show 0 < 2 ^ 30 by decide, show 0 < 2 ^ 30 by decide⟩, show 1 ≤ 4200 by decide, fun s _ => ⟨show 0 < 2 ^ 31 by decide, show 0 < 2 ^ 31 by decide, show 0 < 2 ^ 31 by decide⟩⟩, show 0 ≤ 200 by decide, Nat.le_refl 0, Nat.le_refl 1, Nat.one_pos, ⟨fun q => ⟨W16.z, W16.z⟩, rfl, fun q a b => ?_, fun q q' a b _ _ => ?_, fun i a b => ?_⟩, fun s hs => ?_, ⟨fun s b r _ q => q.elim, fun s b q => absurd q (Nat.lt_irrefl 0), fun s b q => absurd q (Nat.lt_irrefl 0)⟩, fun m hm => (by cases hm), fun i a b => ?_, fun k hk _ => ?_, fun k hk => ?_⟩
  · have b' : q < 1 := b
    omega
  · have a' : q < 1 := a
    have b' : q' < 1 := b
    omega
  · have b' : i ≤ 0 := b
    omega
  · exact ⟨show 0 ≤ 4 by decide, show 0 ≤ 1 by decide, Nat.le_refl 0, fun q => absurd (show (0 : Nat) = 1 from q) (by decide), W16.z, W16.z, fun q => absurd (show (0 : Nat) = 1 from q) (by decide), fun q => absurd (show (0 : Nat) = 2 from q) (by decide)⟩
  · have b' : i ≤ 0 := b
    omega
  · have hk' : k < N := hk
    obtain ⟨o6, o32, o35, oq, on, od⟩ := rp0_o hk'
    have of := fun {f : Nat} => rp0_f hk' (f := f)
    show RpI 0 (1 + 4 * 0) (fun _ _ => 0, fun _ _ _ => False) (pmS (y_s0 N V L T)) (y_s0 N V L T) k (y_rp0 N k)
    generalize y_rp0 N k = R at o6 o32 o35 oq on od of
    have of7 : R.1 7 = 0 := of (by decide) (by decide) (by decide)
    have of8 : R.1 8 = 0 := of (by decide) (by decide) (by decide)
    have of9 : R.1 9 = 0 := of (by decide) (by decide) (by decide)
    have of10 : R.1 10 = 0 := of (by decide) (by decide) (by decide)
    have of11 : R.1 11 = 0 := of (by decide) (by decide) (by decide)
    have of12 : R.1 12 = 0 := of (by decide) (by decide) (by decide)
    have of19 : R.1 19 = 0 := of (by decide) (by decide) (by decide)
    have of31 : R.1 31 = 0 := of (by decide) (by decide) (by decide)
    have of33 : R.1 33 = 0 := of (by decide) (by decide) (by decide)
    refine ⟨⟨⟨fun q => by omega, fun _ b w => w⟩, fun q => by omega, fun q => by omega, fun q => absurd of19 q⟩, ⟨fun f => ?_, ⟨by omega, by omega, by omega, by omega⟩, ⟨by rw [oq]; exact Nat.zero_le _, fun q hq => (by rw [oq] at hq; cases hq)⟩, fun _ => ⟨of (by decide) (by decide) (by decide), of (by decide) (by decide) (by decide), of (by decide) (by decide) (by decide), of (by decide) (by decide) (by decide), of (by decide) (by decide) (by decide)⟩, ⟨fun _ => of11, fun q => by omega⟩, fun _ => of (by decide) (by decide) (by decide)⟩, ⟨⟨?_, fun j hj => ?_, fun j hj => ?_, Or.inr ?_⟩, by omega, fun n hn => (by rw [on] at hn; cases hn), by rw [on]; exact True.intro, ?_, by rw [on]; exact Nat.zero_le _, by omega, Or.inr o35⟩, fun _ => by rw [on]; exact (show 0 < 48 by decide), fun q => by omega⟩
    · by_cases c : f = 6 ∨ f = 32 ∨ f = 35
      · rcases c with rfl | rfl | rfl
        · rw [o6]; exact Nat.le_refl 1
        · rw [o32]; exact Nat.le_refl 1
        · exact True.intro
      · rw [of (f := f) (by omega) (by omega) (by omega)]
        unfold okK
        split <;> first | exact Nat.zero_le _ | exact Nat.one_pos | exact Nat.two_pow_pos _ | decide | exact True.intro
    · rw [on, of31]; rfl
    · rw [on] at hj ⊢
      have hj' : j < 2 := hj
      rw [od, of33]
      show (if 512 ≤ 1024 + j ∧ 1024 + j < 1024 then byA (headL 1 0) (1024 + j - 512) else 0) = byA [] j
      rw [if_neg (by omega)]
      exact (byA_ge (Nat.zero_le _)).symm
    · rw [od, o32, of33]
      show (if 512 ≤ 512 + j ∧ 512 + j < 1024 then byA (headL 1 0) (512 + j - 512) else 0) = byA (headL (nI 1) (nI 0)) j
      rw [if_pos (by omega), show 512 + j - 512 = j by omega]
      rfl
    · rw [od, o32]
      show (if 512 ≤ 0 ∧ 0 < 1024 then byA (headL 1 0) (0 - 512) else 0) = 0
      exact if_neg (by decide)
    · unfold y_up0
      rw [on]
      exact ⟨of7.symm, of8.symm, of10.symm, of11.symm, of12.symm⟩
  · have hk' : ¬ k < N := Nat.not_lt.mpr hk
    show (y_rp0 N k).1 7 = 0 ∧ (y_rp0 N k).1 43 = 0 ∧ (y_rp0 N k).2.2.1 = []
    rw [rp0_d hk']
    exact ⟨rfl, rfl, rfl⟩
