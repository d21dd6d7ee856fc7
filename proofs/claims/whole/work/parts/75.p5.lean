/-! ===== heads and records as bytes, on both sides ===== -/
theorem e_layHead {M : vM} {hf gn : Int32} : F_X12_layHead M hf gn = some (sl M (headL gn hf)) := by
  unfold F_X12_layHead
  rw [l1_, sl_0, e_lay _ (Nat.le_of_ble_eq_true rfl), Option.bind_some, e_lay _ (Nat.le_of_ble_eq_true rfl), Option.bind_some, e_lay _ (Nat.le_of_ble_eq_true rfl), Option.bind_some, e_lay _ (Nat.le_of_ble_eq_true rfl), Option.bind_some]
  have st : ∀ f (l' : List Nat) (s : Int32) (kx : vM → Option vM), ¬ (4 : Int32) ≤ s → l'.length < 2400 → L_X12_layHead_29 gn kx (f + 1) (sl M l') s = L_X12_layHead_29 gn kx f (sl M (l' ++ [by8 (shr gn (8 * s))])) (s + 1) := by
    intro f l' s kx hs hl
    rw [L_X12_layHead_29, if_neg hs, e_lay _ hl, Option.bind_some]
    rfl
  rw [show fu = 32763 + 1 + 1 + 1 + 1 + 1 from rfl, st _ _ _ _ (by decide) (Nat.le_of_ble_eq_true rfl), st _ _ _ _ (by decide) (Nat.le_of_ble_eq_true rfl), st _ _ _ _ (by decide) (Nat.le_of_ble_eq_true rfl), st _ _ _ _ (by decide) (Nat.le_of_ble_eq_true rfl)]
  rw [L_X12_layHead_29, if_pos (by decide)]
  have e8 : [] ++ [by8 74] ++ [by8 49] ++ [by8 hf] ++ [by8 0] ++ [by8 (shr gn (8 * 0))] ++ [by8 (shr gn (8 * (0 + 1)))] ++ [by8 (shr gn (8 * (0 + 1 + 1)))] ++ [by8 (shr gn (8 * (0 + 1 + 1 + 1)))] = head8 gn hf := rfl
  rw [e8, show (0 : Int32) = nI 0 from rfl, e_layCheck (Nat.zero_le _) (Nat.le_of_ble_eq_true rfl), Option.bind_some, List.drop_zero]
  rfl
theorem Bts.head8 (gn hf : Int32) : Bts (head8 gn hf) := Bts.cons (by decide) (Bts.cons (by decide) (Bts.cons (by8_lt _) (Bts.cons (by decide) (Bts.le4 _))))
theorem Bts.headL (gn hf : Int32) : Bts (headL gn hf) := (Bts.head8 gn hf).app (Bts.le4 _)
theorem e_makeHead {N : Nat} {c : vC} {r : Nat} {hf gn : Int32} : F_X2_makeHead N c r gn hf = some (sB (uI c 2 2 0) 2 (headL gn hf)) := by
  unfold F_X2_makeHead
  rw [e_clear, Option.bind_some, e_put _ (Nat.le_of_ble_eq_true rfl), Option.bind_some, e_put _ (Nat.le_of_ble_eq_true rfl), Option.bind_some, e_put _ (Nat.le_of_ble_eq_true rfl), Option.bind_some, e_put _ (Nat.le_of_ble_eq_true rfl), Option.bind_some]
  have st : ∀ f (l' : List Nat) (s : Int32) (kx : vC → Option vC), ¬ (32 : Int32) ≤ s → l'.length < 2048 → L_X2_makeHead_43 N r gn kx (f + 1) (sB (uI c 2 2 0) 2 l') s = L_X2_makeHead_43 N r gn kx f (sB (uI c 2 2 0) 2 (l' ++ [by8 (shr gn s)])) (s + 8) := by
    intro f l' s kx hs hl
    rw [L_X2_makeHead_43, if_neg hs, e_put _ hl, Option.bind_some]
    rfl
  rw [show fu = 32763 + 1 + 1 + 1 + 1 + 1 from rfl, st _ _ _ _ (by decide) (Nat.le_of_ble_eq_true rfl), st _ _ _ _ (by decide) (Nat.le_of_ble_eq_true rfl), st _ _ _ _ (by decide) (Nat.le_of_ble_eq_true rfl), st _ _ _ _ (by decide) (Nat.le_of_ble_eq_true rfl)]
  rw [L_X2_makeHead_43, if_pos (by decide)]
  have e8 : [] ++ [by8 74] ++ [by8 49] ++ [by8 hf] ++ [by8 0] ++ [by8 (shr gn 0)] ++ [by8 (shr gn (0 + 8))] ++ [by8 (shr gn (0 + 8 + 8))] ++ [by8 (shr gn (0 + 8 + 8 + 8))] = head8 gn hf := rfl
  rw [e8, show (0 : Int32) = nI 0 from rfl, e_putCheck (Bts.head8 gn hf) (Nat.zero_le _) (Nat.le_of_ble_eq_true rfl), Option.bind_some, List.drop_zero]
  rfl
/-- a record around some bytes -/
def recZ (x : List Nat) : List Nat := (x.length % 256) :: (x.length / 256) :: x
def recL (x : List Nat) : List Nat := recZ x ++ (le4 (chk (recZ x)) ++ (if x.length % 2 = 1 then [0] else []))
theorem recL_len (x : List Nat) : (recL x).length = 6 + x.length + x.length % 2 := by
  unfold recL recZ
  rw [List.length_append, List.length_append]
  have e4 : ∀ v : Int32, (le4 v).length = 4 := fun _ => rfl
  rw [e4]
  by_cases e : x.length % 2 = 1
  · rw [if_pos e]; simp only [List.length_cons, List.length_nil]; omega
  · rw [if_neg e]; simp only [List.length_cons, List.length_nil]; omega
theorem Bts.recZ {x : List Nat} (h : Bts x) (hl : x.length < 65536) : Bts (recZ x) := Bts.cons (by omega) (Bts.cons (by omega) h)
theorem Bts.recL {x : List Nat} (h : Bts x) (hl : x.length < 65536) : Bts (recL x) := (Bts.recZ h hl).app ((Bts.le4 _).app (by split <;> first | exact Bts.cons (by decide) Bts.nil | exact Bts.nil))
theorem sarN {s : Nat} (h : s < 2 ^ 31) : nI s >>> ((8 : Int32) &&& 31) = nI (s / 256) := by
  apply Int32.toBitVec_inj.mp
  rw [Int32.toBitVec_shiftRight, BitVec.sshiftRight_eq', show (((8 : Int32) &&& 31).toBitVec.smod 32).toNat = 8 from by decide]
  have e1 : ∀ m, m < 2 ^ 31 → (nI m).toBitVec.toNat = m := fun m hm => by
    show (BitVec.ofNat 32 m).toNat = m
    rw [BitVec.toNat_ofNat]
    exact Nat.mod_eq_of_lt (by omega)
  have hm : (nI s).toBitVec.msb = false := by
    rw [BitVec.msb_eq_decide, e1 s h]
    simp; omega
  rw [BitVec.sshiftRight_eq_of_msb_false hm]
  apply BitVec.eq_of_toNat_eq
  rw [BitVec.toNat_ushiftRight, e1 s h, e1 (s / 256) (by omega), Nat.shiftRight_eq_div_pow]
/-- laid bytes by a function -/
def sg (M : vM) (n : Nat) (g : Nat → Int32) : vM := (fun f => if f = 45 then nI n else M.1 f, fun j i => if j = 38 then g i else M.2 j i)
theorem sg_45 (M : vM) (n : Nat) (g : Nat → Int32) : (sg M n g).1 45 = nI n := by
  show (if 45 = 45 then nI n else M.1 45) = _
  exact if_pos rfl
theorem sg_38 (M : vM) (n : Nat) (g : Nat → Int32) (i : Nat) : (sg M n g).2 38 i = g i := by
  show (if 38 = 38 then g i else M.2 38 i) = _
  exact if_pos rfl
theorem sg_sl {M : vM} {l : List Nat} {g : Nat → Int32} (h1 : ∀ i, i < l.length → g i = nI (byA l i)) (h2 : ∀ i, l.length ≤ i → g i = M.2 38 i) : sg M l.length g = sl M l := by
  refine Prod.ext (funext fun f => rfl) (funext fun j => funext fun i => ?_)
  show (if j = 38 then g i else M.2 j i) = if j = 38 ∧ i < l.length then nI (byA l i) else M.2 j i
  by_cases e : j = 38
  · subst e
    by_cases e2 : i < l.length
    · rw [if_pos rfl, if_pos ⟨rfl, e2⟩, h1 i e2]
    · rw [if_pos rfl, if_neg (fun q => e2 q.2), h2 i (by omega)]
  · rw [if_neg e, if_neg (fun q => e q.1)]
theorem sg_set (M : vM) (n : Nat) (g : Nat → Int32) {i : Nat} (h : i < 2400) (v : Int32) : mS (sg M n g) 38 (nI i) v = some (sg M n (va_up g i v)) := by
  rw [mSv (show i < mL 38 from h) (by omega)]
  congr 1
  refine Prod.ext rfl (funext fun j => funext fun k => ?_)
  show vi_u2 (sg M n g).2 38 i v j k = if j = 38 then va_up g i v k else M.2 j k
  by_cases e : j = 38
  · subst e
    by_cases e2 : k = i
    · subst e2; rw [vi_u2s, if_pos rfl, va_up_self]
    · rw [vi_u2a _ _ e2, if_pos rfl, va_up_ne _ _ e2, sg_38]
  · rw [vi_u2i _ _ e, if_neg e]
    exact if_neg e
theorem nI_p1 (t : Nat) : nI (t + 1) - 1 = nI t := nI_pred t
theorem nI_m1 (t : Nat) : nI t + (-1) = nI t - 1 := by
  rw [Int32.sub_eq_add_neg]
theorem q_shift {ρ : Type} {M : vM} {p n : Nat} {l2 : Int32} {kx : vM → Option ρ} {g : Nat → Int32} (hn : n + 2 ≤ 2400) : ∀ (d t f : Nat), p + d = t → t ≤ n → d < f → L_X12_asRecord_14 (nI p) l2 kx f (sg M n (fun i => if t + 2 ≤ i ∧ i < n + 2 then g (i - 2) else g i)) (nI t - 1) = kx (sg M n (fun i => if p + 2 ≤ i ∧ i < n + 2 then g (i - 2) else g i)) := by
  intro d
  induction d with
  | zero =>
    intro t f h1 h2 h3
    obtain ⟨f, rfl⟩ : ∃ f', f = f' + 1 := ⟨f - 1, by omega⟩
    obtain rfl : p = t := by omega
    have hlt : nI p - 1 < nI p := by
      cases p with
      | zero => decide
      | succ p => rw [nI_p1]; exact nI_lt (by omega) (by omega)
    rw [L_X12_asRecord_14, if_pos hlt]
  | succ d ih =>
    intro t f h1 h2 h3
    obtain ⟨f, rfl⟩ : ∃ f', f = f' + 1 := ⟨f - 1, by omega⟩
    obtain ⟨t, rfl⟩ : ∃ t', t = t' + 1 := ⟨t - 1, by omega⟩
    rw [nI_p1, L_X12_asRecord_14, if_neg (nI_nlt (by omega) (by omega)), mGv (show t < mL 38 by show t < 2400; omega) (by omega), Option.bind_some, sg_38, if_neg (by omega), show nI t + (2 : Int32) = nI (t + 2) from nI_add t 2, sg_set _ _ _ (by omega), Option.bind_some, nI_m1]
    have e : (va_up (fun i => if t + 1 + 2 ≤ i ∧ i < n + 2 then g (i - 2) else g i) (t + 2) (g t)) = fun i => if t + 2 ≤ i ∧ i < n + 2 then g (i - 2) else g i := by
      funext i
      by_cases e2 : i = t + 2
      · subst e2
        rw [va_up_self, if_pos (by omega)]
        congr 1
      · rw [va_up_ne _ _ e2]
        by_cases e3 : t + 1 + 2 ≤ i ∧ i < n + 2
        · rw [if_pos e3, if_pos (by omega)]
        · rw [if_neg e3, if_neg (by omega)]
    rw [e]
    exact ih t f (by omega) (by omega) (by omega)
theorem e_asRecord {M : vM} {p x : List Nat} (hl : p.length + x.length + 8 ≤ 2400) : F_X12_asRecord (sl M (p ++ x)) (nI p.length) = some (sl M (p ++ recL x)) := by
  have hsl : sl M (p ++ x) = sg M (p.length + x.length) (fun i => if p.length + x.length + 2 ≤ i ∧ i < p.length + x.length + 2 then (sl M (p ++ x)).2 38 (i - 2) else (sl M (p ++ x)).2 38 i) := by
    refine Prod.ext (funext fun f => ?_) (funext fun j => funext fun i => ?_)
    · show (if f = 45 then nI (p ++ x).length else M.1 f) = if f = 45 then nI (p.length + x.length) else M.1 f
      rw [List.length_append]
    · show (sl M (p ++ x)).2 j i = if j = 38 then _ else M.2 j i
      by_cases e : j = 38
      · subst e
        rw [if_pos rfl, if_neg (by omega)]
      · rw [if_neg e, sl_2 _ _ _ e]
  unfold F_X12_asRecord
  have e45 : (sl M (p ++ x)).1 45 = nI (p.length + x.length) := by rw [sl_45, List.length_append]
  rw [e45, nI_sub (Nat.le_add_right _ _), Nat.add_sub_cancel_left]
  generalize hg : (sl M (p ++ x)).2 38 = g at hsl
  rw [hsl, q_shift (by omega) x.length (p.length + x.length) fu rfl (Nat.le_refl _) (by show x.length < 32768; omega)]
  rw [sg_set _ _ _ (by omega), Option.bind_some, show nI p.length + (1 : Int32) = nI (p.length + 1) from nI_add _ 1, sg_set _ _ _ (by omega), Option.bind_some, l1_, sarN (by omega)]
  have e2 : mW (sg M (p.length + x.length) (va_up (va_up (fun i => if p.length + 2 ≤ i ∧ i < p.length + x.length + 2 then g (i - 2) else g i) p.length (nI x.length &&& 255)) (p.length + 1) (nI (x.length / 256)))) 45 ((sg M (p.length + x.length) (va_up (va_up (fun i => if p.length + 2 ≤ i ∧ i < p.length + x.length + 2 then g (i - 2) else g i) p.length (nI x.length &&& 255)) (p.length + 1) (nI (x.length / 256)))).1 45 + 2) = sl M (p ++ recZ x) := by
    have hlen : (p ++ recZ x).length = p.length + x.length + 2 := by unfold recZ; simp; omega
    rw [← sg_sl (l := p ++ recZ x) (M := M) (g := va_up (va_up (fun i => if p.length + 2 ≤ i ∧ i < p.length + x.length + 2 then g (i - 2) else g i) p.length (nI x.length &&& 255)) (p.length + 1) (nI (x.length / 256))) ?_ ?_]
    · refine Prod.ext (funext fun f => ?_) rfl
      show (if f = 45 then (sg M (p.length + x.length) _).1 45 + nI 2 else (if f = 45 then _ else M.1 f)) = if f = 45 then nI (p ++ recZ x).length else M.1 f
      by_cases e : f = 45
      · rw [if_pos e, if_pos e, sg_45, nI_add, hlen]
      · rw [if_neg e, if_neg e, if_neg e]
    · intro i hi
      rw [hlen] at hi
      have gi : ∀ i, i < p.length + x.length → g i = nI (byA (p ++ x) i) := fun i hi => by
        rw [← hg]; exact sl_38 _ _ (by rw [List.length_append]; exact hi)
      by_cases e1 : i = p.length + 1
      · subst e1
        rw [va_up_self, byA_r (by omega), show p.length + 1 - p.length = 1 by omega]; rfl
      · rw [va_up_ne _ _ e1]
        by_cases e2 : i = p.length
        · subst e2
          rw [va_up_self, byA_r (Nat.le_refl _), Nat.sub_self, a255]
          congr 1
          unfold by8
          show (BitVec.ofNat 32 x.length).toNat % 256 = x.length % 256
          rw [BitVec.toNat_ofNat, Nat.mod_eq_of_lt (show x.length < 2 ^ 32 by omega)]
        · rw [va_up_ne _ _ e2]
          by_cases e3 : i < p.length
          · rw [if_neg (by omega), gi i (by omega), byA_l e3, byA_l e3]
          · rw [if_pos (by omega), gi (i - 2) (by omega), byA_r (l := p) (m := x) (by omega), byA_r (l := p) (m := recZ x) (by omega)]
            obtain ⟨t, rfl⟩ : ∃ t, i = p.length + t + 2 := ⟨i - p.length - 2, by omega⟩
            rw [show p.length + t + 2 - 2 - p.length = t by omega, show p.length + t + 2 - p.length = t + 2 by omega]
            rfl
    · intro i hi
      rw [hlen] at hi
      rw [va_up_ne _ _ (by omega), va_up_ne _ _ (by omega), if_neg (by omega), ← hg]
      exact if_neg (fun q => by have := q.2; rw [List.length_append] at this; omega)
  rw [e2, e_layCheck (by rw [List.length_append]; omega) (by unfold recZ; simp; omega), Option.bind_some, List.drop_left]
  have hm : nI x.length - nI x.length / (2 : Int32) * (2 : Int32) = nI (x.length % 2) := nI_rem (b := 2) (by omega) (by decide)
  rw [hm]
  unfold recL
  by_cases e : x.length % 2 = 1
  · rw [if_pos (show nI (x.length % 2) = (1 : Int32) by rw [e]; rfl), if_pos e, e_lay _ (by unfold recZ; simp only [List.length_append, List.length_cons]; show p.length + (x.length + 1 + 1) + 4 < 2400; omega), Option.bind_some]
    congr 2
    simp only [List.append_assoc]
    rfl
  · rw [if_neg (show ¬ nI (x.length % 2) = (1 : Int32) from fun q => e ((nI_eq (b := 1) (by omega) (by decide)).mp q)), if_neg e]
    congr 2
    simp only [List.append_assoc, List.append_nil]
