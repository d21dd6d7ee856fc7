/-! ===== blocks of the class's disks ===== -/
def sJc (c : vC) (r : Nat) (J : Nat → Int64) : vC := (cI c, cP c, cR c, fun i => if i = r then J else cJ c i, cQ c, cK c, cN c, cD c, cz c)
theorem sJc_J (c : vC) (r : Nat) (J : Nat → Int64) : cJ (sJc c r J) r = J := by
  show (if r = r then J else cJ c r) = J
  exact if_pos rfl
theorem sJc_Jo (c : vC) {r i : Nat} (J : Nat → Int64) (h : i ≠ r) : cJ (sJc c r J) i = cJ c i := if_neg h
theorem sJc_sJc (c : vC) (r : Nat) (J J' : Nat → Int64) : sJc (sJc c r J) r J' = sJc c r J' := by
  refine vC_ext (fun _ _ => rfl) rfl (fun _ _ _ => rfl) (funext fun i => ?_) rfl rfl rfl rfl rfl
  show (if i = r then J' else if i = r then J else cJ c i) = if i = r then J' else cJ c i
  by_cases e : i = r
  · rw [if_pos e, if_pos e]
  · rw [if_neg e, if_neg e, if_neg e]
theorem sJc_id (c : vC) (r : Nat) : sJc c r (cJ c r) = c := by
  refine vC_ext (fun _ _ => rfl) rfl (fun _ _ _ => rfl) (funext fun i => ?_) rfl rfl rfl rfl rfl
  show (if i = r then cJ c r else cJ c i) = cJ c i
  by_cases e : i = r
  · rw [if_pos e, e]
  · rw [if_neg e]
theorem inB_J {c : vC} {r i : Nat} {J : Nat → Int64} {l : List Nat} (h : inB c i l) : inB (sJc c r J) i l := h
/-- a byte of a disk -/
def dk (J : Nat → Int64) (a : Nat) : Nat := jb (J (a / 8)) (a % 8)
theorem e_byteAt' {N : Nat} {c : vC} {i : Nat} {l : List Nat} (h : inB c i l) {k : Nat} (hk : k < 2 ^ 31) : F_X0_byteAt N c i (nI k) = some (c, nI (byA l k)) := by
  obtain ⟨h1, h2, h3, h4⟩ := h
  unfold F_X0_byteAt
  rw [if_neg (nIn hk), h1]
  by_cases e : k < l.length
  · rw [if_neg (show ¬ nI l.length ≤ nI k from nI_ge e (by omega)), cGv (show k < al 0 by show k < 2048; omega) hk, Option.bind_some, h4 k e, (sb_byte _ (byA_lt h3 k)).1]
  · rw [if_pos (show nI l.length ≤ nI k from nI_le (by omega) hk)]
    congr 2
    unfold byA
    rw [List.getD_eq_getElem?_getD, List.getElem?_eq_none (by omega)]; rfl
theorem e_setByte {N : Nat} {c : vC} {r a v : Nat} (ha : a < 32768) (hv : v < 256) : ∃ J, F_X2_setByte N c r (nI a) (nI v) = some (sJc c r J) ∧ ∀ b, b < 32768 → dk J b = if b = a then v else dk (cJ c r) b := by
  have e3 : nI a >>> ((3 : Int32) &&& 31) = nI (a / 8) := pk_shrN (n := a) (by omega) _ 3 (by decide)
  have e5 : (56 : Int32) - 8 * (nI a &&& 7) = nI (56 - 8 * (a % 8)) := by rw [pk_andN (n := a) (by omega) 3 rfl, show (8 : Int32) = nI 8 from rfl, pk_mul, show (56 : Int32) = nI 56 from rfl, pk_sub (by omega)]
  refine ⟨fun w => if w = a / 8 then ((cJ c r (a / 8) &&& ((255 <<< ((nI (56 - 8 * (a % 8))).toInt64 &&& 63)) ^^^ (-1))) ||| ((nI v).toInt64 <<< ((nI (56 - 8 * (a % 8))).toInt64 &&& 63))) else cJ c r w, ?_, fun b hb => ?_⟩
  · unfold F_X2_setByte
    rw [e3, if_neg (nIn (by omega)), if_neg (show ¬ Int32.ofNat (al 200) ≤ nI (a / 8) from nI_ge (b := 4096) (by omega) (by decide)), e5]
    have g1 : cGJ c r (nI (a / 8)) = some (cJ c r (a / 8)) := by
      unfold cGJ
      rw [nIt (by omega), if_neg (fun q => q.elim (nIn (by omega)) (fun q => by omega))]
    have g2 : ∀ w, cSJ c r (nI (a / 8)) w = some (uJ c r (a / 8) w) := fun w => by
      unfold cSJ
      rw [nIt (by omega), if_neg (fun q => q.elim (nIn (by omega)) (fun q => by omega))]
    rw [g1, Option.bind_some, g2, Option.bind_some]
    congr 1
    refine vC_ext (fun _ _ => rfl) rfl (fun _ _ _ => rfl) (funext fun i => funext fun w => ?_) rfl rfl rfl rfl rfl
    show vi_u2 (cJ c) r (a / 8) _ i w = (if i = r then (fun w => if w = a / 8 then _ else cJ c r w) else cJ c i) w
    by_cases e : i = r
    · subst e
      rw [if_pos rfl]
      by_cases e2 : w = a / 8
      · subst e2; rw [vi_u2s]; exact (if_pos rfl).symm
      · rw [vi_u2a _ _ e2]; exact (if_neg e2).symm
    · rw [if_neg e, vi_u2i _ _ e]
  · unfold dk
    show jb (if b / 8 = a / 8 then _ else cJ c r (b / 8)) (b % 8) = _
    by_cases e : b / 8 = a / 8
    · rw [if_pos e, jb_set _ hv (by omega) (by omega)]
      by_cases e2 : b = a
      · rw [if_pos e2, if_pos (by rw [e2])]
      · rw [if_neg e2, if_neg (by omega), e]
    · rw [if_neg e, if_neg (by intro q; exact e (by rw [q]))]
theorem e_place_l {N : Nat} {c : vC} {r s e : Nat} {l : List Nat} (hi : inB c 2 l) (he : e ≤ 32768) (hs : s ≤ 32768) : ∀ (d a f : Nat) (J : Nat → Int64), a + d = e → s ≤ a → d < f → ∃ J', L_X2_place_19 N r (nI s) (nI e) (fun M5 => some M5) f (sJc c r J) (nI a) = some (sJc c r J') ∧ ∀ b, b < 32768 → dk J' b = if a ≤ b ∧ b < e then byA l (b - s) else dk J b := by
  intro d
  induction d with
  | zero =>
    intro a f J h1 h2 h3
    obtain ⟨f, rfl⟩ : ∃ f', f = f' + 1 := ⟨f - 1, by omega⟩
    obtain rfl : a = e := by omega
    exact ⟨J, by rw [L_X2_place_19, if_pos (Int32.le_refl _)], fun b hb => by rw [if_neg (by omega)]⟩
  | succ d ih =>
    intro a f J h1 h2 h3
    obtain ⟨f, rfl⟩ : ∃ f', f = f' + 1 := ⟨f - 1, by omega⟩
    obtain ⟨J1, g1, g2⟩ := e_setByte (N := N) (c := sJc c r J) (r := r) (a := a) (v := byA l (a - s)) (by omega) (byA_lt hi.2.2.1 _)
    rw [sJc_sJc] at g1
    rw [sJc_J] at g2
    obtain ⟨J2, k1, k2⟩ := ih (a + 1) f J1 (by omega) (by omega) (by omega)
    refine ⟨J2, ?_, fun b hb => ?_⟩
    · rw [L_X2_place_19, if_neg (nI_ge (by omega) (by omega)), nI_sub h2, e_byteAt' (inB_J hi) (by omega), b2_, g1, Option.bind_some, show nI a + (1 : Int32) = nI (a + 1) from nI_add a 1]
      exact k1
    · rw [k2 b hb]
      by_cases e1 : a + 1 ≤ b ∧ b < e
      · rw [if_pos e1, if_pos (by omega)]
      · rw [if_neg e1, g2 b hb]
        by_cases e2 : b = a
        · rw [if_pos e2, if_pos (by omega), e2]
        · rw [if_neg e2, if_neg (by omega)]
theorem mx_n {a b : Nat} (ha : a < 2 ^ 31) (hb : b < 2 ^ 31) : mxI (nI a) (nI b) = nI (max a b) := by
  unfold mxI
  by_cases e : a < b
  · rw [if_pos ((nI_ltI ha hb).mpr e), Nat.max_eq_right (by omega)]
  · rw [if_neg (fun q => e ((nI_ltI ha hb).mp q)), Nat.max_eq_left (by omega)]
/-- a block of the image that begins at byte s of the disk -/
theorem e_place {N : Nat} {c : vC} {r b s : Nat} {l : List Nat} (hi : inB c 2 l) (hb : b < 64) (hs : s ≤ 512 * (b + 1)) : ∃ J, F_X2_place N c r (nI b) (nI s) = some (sJc c r J) ∧ ∀ a, a < 32768 → dk J a = if max s (512 * b) ≤ a ∧ a < 512 * (b + 1) then byA l (a - s) else dk (cJ c r) a := by
  unfold F_X2_place
  rw [show nI b + (1 : Int32) = nI (b + 1) from nI_add b 1, show nI (b + 1) * (512 : Int32) = nI (512 * (b + 1)) from by rw [show nI (b + 1) * (512 : Int32) = nI ((b + 1) * 512) from nI_mul _ 512, Nat.mul_comm], show nI b * (512 : Int32) = nI (512 * b) from by rw [show nI b * (512 : Int32) = nI (b * 512) from nI_mul _ 512, Nat.mul_comm], mx_n (by omega) (by omega)]
  have h := e_place_l (N := N) (c := c) (r := r) (s := s) (e := 512 * (b + 1)) hi (by omega) (by omega) (512 * (b + 1) - max s (512 * b)) (max s (512 * b)) fu (cJ c r) (by omega) (by omega) (by show _ < 32768; omega)
  rw [sJc_id] at h
  exact h
/-! ===== crashes ===== -/
/-- the crash that is due, once one write more is done -/
def dueN' (d : Int32) : Int32 := if d ≤ 0 then d else d - 1
theorem e_crash0 {N : Nat} {c : vC} {r : Nat} (h : cI c 205 r = 0) : F_X2_crashes N c r = some (uI c 205 r (-1), 1) := by
  unfold F_X2_crashes
  rw [if_pos h, l1_, zb1]
theorem uI_id {c : vC} {f i : Nat} : uI c f i (cI c f i) = c := by
  refine vC_ext (fun g k => ?_) rfl (fun _ _ _ => rfl) rfl rfl rfl rfl rfl rfl
  show vi_u2 (cI c) f i (cI c f i) g k = cI c g k
  by_cases e : g = f ∧ k = i
  · obtain ⟨rfl, rfl⟩ := e; rw [vi_u2s]
  · rw [vi_u2v _ _ _ _ e]
theorem e_crash1 {N : Nat} {c : vC} {r : Nat} (h : ¬ cI c 205 r = 0) : F_X2_crashes N c r = some (uI (uI c 205 r (dueN' (cI c 205 r))) 204 r (cI c 204 r + 1), 0) := by
  unfold F_X2_crashes dueN'
  rw [if_neg h, jn_]
  by_cases e : cI c 205 r ≤ 0
  · rw [if_pos e, if_pos e, uI_id]; rfl
  · rw [if_neg e, if_neg e, l1_]; rfl
