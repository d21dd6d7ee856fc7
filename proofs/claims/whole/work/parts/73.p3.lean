/-! ===== CHECKs on both sides ===== -/
def Bts (l : List Nat) : Prop := ∀ b ∈ l, b < 256
theorem Bts.app {l m : List Nat} (h : Bts l) (g : Bts m) : Bts (l ++ m) := fun b hb => (List.mem_append.mp hb).elim (h b) (g b)
theorem Bts.one (v : Int32) : Bts [by8 v] := fun b hb => by rw [List.mem_singleton.mp hb]; exact by8_lt v
theorem Bts.nil : Bts [] := fun b hb => by cases hb
theorem Bts.cons {b : Nat} {l : List Nat} (h : b < 256) (g : Bts l) : Bts (b :: l) := fun x hx => (List.mem_cons.mp hx).elim (fun e => by rw [e]; exact h) (g x)
theorem Bts.be2 (v : Int32) : Bts (be2 v) := Bts.cons (by8_lt _) (Bts.cons (by8_lt _) Bts.nil)
theorem Bts.be4 (v : Int32) : Bts (be4 v) := Bts.cons (by8_lt _) (Bts.cons (by8_lt _) (Bts.cons (by8_lt _) (Bts.cons (by8_lt _) Bts.nil)))
theorem Bts.le4 (v : Int32) : Bts (le4 v) := Bts.cons (by8_lt _) (Bts.cons (by8_lt _) (Bts.cons (by8_lt _) (Bts.cons (by8_lt _) Bts.nil)))
theorem Bts.encU (n : Nat) : Bts (encU n) := by
  induction n using Nat.strongRecOn with
  | _ n ih =>
    by_cases e : n ≤ 127
    · rw [encU_s e]; exact Bts.cons (by omega) Bts.nil
    · rw [encU_b e]; exact Bts.cons (by omega) (ih _ (by omega))
theorem Bts.flatMap {enc : Nat → List Nat} (h : ∀ k, Bts (enc k)) (ks : List Nat) : Bts (ks.flatMap enc) := fun b hb => by
  obtain ⟨k, -, hk⟩ := List.mem_flatMap.mp hb
  exact h k b hk
theorem Bts.encV (w : Int32) (vs : Nat → Int32) (k : Nat) : Bts (encV w vs k) := by
  unfold Jvm.Pilot.CSnapClusterLaw_law_r2689_c735d7.encV
  split
  · exact Bts.be4 _
  · exact Bts.nil
theorem Bts.encR (s : Int32) (sq sn : Nat) (rd wr : Int32) (vs : Nat → Int32) : Bts (encR s sq sn rd wr vs) :=
  Bts.cons (by8_lt _) ((Bts.encU _).app ((Bts.encU _).app ((Bts.be2 _).app ((Bts.be2 _).app (Bts.flatMap (Bts.encV wr vs) _)))))
theorem drop_byA {l : List Nat} {k : Nat} (h : k < l.length) : l.drop k = byA l k :: l.drop (k + 1) := by
  rw [List.drop_eq_getElem_cons h]
  congr 1
  unfold byA
  rw [List.getD_eq_getElem?_getD, List.getElem?_eq_getElem h]; rfl
theorem crc_ref {ρ : Type} {l3 : Int32} {kx : vM → Int32 → Option ρ} {M : vM} : ∀ (d j f : Nat) (c : Int32), j + d = 8 → d < f → L_X12_layCheck_24 l3 kx f M c (nI j) = kx M (crcN d c) := by
  intro d
  induction d with
  | zero =>
    intro j f c h1 h2
    obtain ⟨f, rfl⟩ : ∃ f', f = f' + 1 := ⟨f - 1, by omega⟩
    obtain rfl : j = 8 := by omega
    rw [L_X12_layCheck_24, if_pos (show (8 : Int32) ≤ nI 8 from nI_le (Nat.le_refl 8) (by decide))]; rfl
  | succ d ih =>
    intro j f c h1 h2
    obtain ⟨f, rfl⟩ : ∃ f', f = f' + 1 := ⟨f - 1, by omega⟩
    rw [L_X12_layCheck_24, if_neg (show ¬ (8 : Int32) ≤ nI j from nI_ge (b := 8) (by omega) (by decide)), show nI j + (1 : Int32) = nI (j + 1) from nI_add j 1, crcN]
    unfold crc1
    by_cases e : (c &&& (1 : Int32)) = (1 : Int32)
    · rw [if_pos e, if_pos e, ih _ _ _ (by omega) (by omega)]
    · rw [if_neg e, if_neg e, ih _ _ _ (by omega) (by omega), Int32.xor_zero]
theorem crc_cls {ρ : Type} {N : Nat} {kx : vC → Int32 → Option ρ} {M : vC} : ∀ (d j f : Nat) (c : Int32), j + d = 8 → d < f → L_X0_checkStep_6 N kx f M c (nI j) = kx M (crcN d c) := by
  intro d
  induction d with
  | zero =>
    intro j f c h1 h2
    obtain ⟨f, rfl⟩ : ∃ f', f = f' + 1 := ⟨f - 1, by omega⟩
    obtain rfl : j = 8 := by omega
    rw [L_X0_checkStep_6, if_pos (show (8 : Int32) ≤ nI 8 from nI_le (Nat.le_refl 8) (by decide))]; rfl
  | succ d ih =>
    intro j f c h1 h2
    obtain ⟨f, rfl⟩ : ∃ f', f = f' + 1 := ⟨f - 1, by omega⟩
    rw [L_X0_checkStep_6, if_neg (show ¬ (8 : Int32) ≤ nI j from nI_ge (b := 8) (by omega) (by decide)), show nI j + (1 : Int32) = nI (j + 1) from nI_add j 1, crcN]
    unfold crc1
    by_cases e : (c &&& (1 : Int32)) = (1 : Int32)
    · rw [if_pos e, if_pos e, ih _ _ _ (by omega) (by omega)]
    · rw [if_neg e, if_neg e, ih _ _ _ (by omega) (by omega)]
theorem e_checkStep {N : Nat} {c : vC} (a b : Int32) : F_X0_checkStep N c a b = some (c, crcN 8 (a ^^^ b)) := by
  have := crc_cls (N := N) (kx := fun (M3 : vC) (l4 : Int32) => some (M3, l4)) (M := c) 8 0 fu (a ^^^ b) rfl (by decide)
  rw [nI_0] at this
  unfold F_X0_checkStep
  exact this
theorem e_byteAt {N : Nat} {c : vC} {i : Nat} {l : List Nat} (hb : Bts l) (hl : l.length ≤ 2048) {k : Nat} (hk : k < 2 ^ 31) : F_X0_byteAt N (sB c i l) i (nI k) = some (sB c i l, nI (byA l k)) := by
  unfold F_X0_byteAt
  rw [if_neg (nIn hk), sB_1]
  by_cases e : k < l.length
  · rw [if_neg (show ¬ nI l.length ≤ nI k from nI_ge e (by omega)), cGv (show k < al 0 by show k < 2048; omega) hk, Option.bind_some, sB_0 _ _ _ e, (sb_byte _ (byA_lt hb k)).1]
  · rw [if_pos (show nI l.length ≤ nI k from nI_le (by omega) hk)]
    congr 2
    unfold byA
    rw [List.getD_eq_getElem?_getD, List.getElem?_eq_none (by omega)]; rfl
theorem e_pc_l {ρ : Type} {N : Nat} {c : vC} {i : Nat} {l : List Nat} (hb : Bts l) (hl : l.length ≤ 2048) {kx : vC → Int32 → Option ρ} : ∀ (d k f : Nat) (ck : Int32), k + d = l.length → d < f → L_X0_putCheck_4 N i kx f (sB c i l) ck (nI k) = kx (sB c i l) (crcL ck (l.drop k)) := by
  intro d
  induction d with
  | zero =>
    intro k f ck h1 h2
    obtain ⟨f, rfl⟩ : ∃ f', f = f' + 1 := ⟨f - 1, by omega⟩
    obtain rfl : k = l.length := by omega
    rw [L_X0_putCheck_4, sB_1, if_pos (Int32.le_refl _), List.drop_length]; rfl
  | succ d ih =>
    intro k f ck h1 h2
    obtain ⟨f, rfl⟩ : ∃ f', f = f' + 1 := ⟨f - 1, by omega⟩
    rw [L_X0_putCheck_4, sB_1, if_neg (show ¬ nI l.length ≤ nI k from nI_ge (by omega) (by omega)), e_byteAt hb hl (by omega), b2_, e_checkStep, b2_, show nI k + (1 : Int32) = nI (k + 1) from nI_add k 1, ih _ _ _ (by omega) (by omega), drop_byA (l := l) (k := k) (by omega), crcL]
theorem e_putCheck {N : Nat} {c : vC} {i k : Nat} {l : List Nat} (hb : Bts l) (hk : k ≤ l.length) (hl : l.length + 4 ≤ 2048) : F_X0_putCheck N (sB c i l) i (nI k) = some (sB c i (l ++ le4 (chk (l.drop k)))) := by
  unfold F_X0_putCheck
  rw [e_pc_l hb (by omega) (l.length - k) k fu _ (by omega) (by show l.length - k < 32768; omega)]
  have st : ∀ f (l' : List Nat) (s : Int32), ¬ (32 : Int32) ≤ s → l'.length < 2048 → L_X0_putCheck_30 N i (crcL (-1) (l.drop k)) (fun M10 => some M10) (f + 1) (sB c i l') s = L_X0_putCheck_30 N i (crcL (-1) (l.drop k)) (fun M10 => some M10) f (sB c i (l' ++ [by8 (shr (chk (l.drop k)) s)])) (s + 8) := by
    intro f l' s hs hl
    rw [L_X0_putCheck_30, if_neg hs, e_put _ hl, Option.bind_some]
    rfl
  rw [show fu = 32763 + 1 + 1 + 1 + 1 + 1 from rfl, st _ _ _ (by decide) (by omega), st _ _ _ (by decide) (by simp only [List.length_append, List.length_cons, List.length_nil]; omega), st _ _ _ (by decide) (by simp only [List.length_append, List.length_cons, List.length_nil]; omega), st _ _ _ (by decide) (by simp only [List.length_append, List.length_cons, List.length_nil]; omega)]
  rw [L_X0_putCheck_30, if_pos (by decide)]
  congr 2
  simp only [List.append_assoc]
  rfl
theorem e_lc_l {ρ : Type} {M : vM} {l : List Nat} (hl : l.length ≤ 2400) {kx : vM → Int32 → Option ρ} : ∀ (d k f : Nat) (ck : Int32), k + d = l.length → d < f → L_X12_layCheck_4 kx f (sl M l) ck (nI k) = kx (sl M l) (crcL ck (l.drop k)) := by
  intro d
  induction d with
  | zero =>
    intro k f ck h1 h2
    obtain ⟨f, rfl⟩ : ∃ f', f = f' + 1 := ⟨f - 1, by omega⟩
    obtain rfl : k = l.length := by omega
    rw [L_X12_layCheck_4, sl_45, if_pos (Int32.le_refl _), List.drop_length]; rfl
  | succ d ih =>
    intro k f ck h1 h2
    obtain ⟨f, rfl⟩ : ∃ f', f = f' + 1 := ⟨f - 1, by omega⟩
    have e8 := crc_ref (l3 := nI k) (kx := fun (M4 : vM) (l5 : Int32) => L_X12_layCheck_4 kx f M4 l5 (nI k + 1)) (M := sl M l) 8 0 fu (ck ^^^ nI (byA l k)) rfl (by decide)
    rw [nI_0] at e8
    rw [L_X12_layCheck_4, sl_45, if_neg (show ¬ nI l.length ≤ nI k from nI_ge (by omega) (by omega)), mGv (show k < mL 38 by show k < 2400; omega) (by omega), Option.bind_some, sl_38 _ _ (by omega), e8, show nI k + (1 : Int32) = nI (k + 1) from nI_add k 1, ih _ _ _ (by omega) (by omega), drop_byA (l := l) (k := k) (by omega), crcL]
theorem e_layCheck {M : vM} {k : Nat} {l : List Nat} (hk : k ≤ l.length) (hl : l.length + 4 ≤ 2400) : F_X12_layCheck (sl M l) (nI k) = some (sl M (l ++ le4 (chk (l.drop k)))) := by
  unfold F_X12_layCheck
  rw [e_lc_l (by omega) (l.length - k) k fu _ (by omega) (by show l.length - k < 32768; omega)]
  have st : ∀ f (l' : List Nat) (s : Int32), ¬ (4 : Int32) ≤ s → l'.length < 2400 → L_X12_layCheck_73 (crcL (-1) (l.drop k) ^^^ (-1)) (fun M11 => some M11) (f + 1) (sl M l') s = L_X12_layCheck_73 (crcL (-1) (l.drop k) ^^^ (-1)) (fun M11 => some M11) f (sl M (l' ++ [by8 (shr (chk (l.drop k)) (8 * s))])) (s + 1) := by
    intro f l' s hs hl
    rw [L_X12_layCheck_73, if_neg hs, e_lay _ hl, Option.bind_some]
    rfl
  rw [show fu = 32763 + 1 + 1 + 1 + 1 + 1 from rfl, st _ _ _ (by decide) (by omega), st _ _ _ (by decide) (by simp only [List.length_append, List.length_cons, List.length_nil]; omega), st _ _ _ (by decide) (by simp only [List.length_append, List.length_cons, List.length_nil]; omega), st _ _ _ (by decide) (by simp only [List.length_append, List.length_cons, List.length_nil]; omega)]
  rw [L_X12_layCheck_73, if_pos (by decide)]
  congr 2
  simp only [List.append_assoc]
  rfl
