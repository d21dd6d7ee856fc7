/-! ===== the bytes of a frame: the reference lays them ===== -/
def frA (m : Mg) : List Nat := 165 :: m 0 :: (16 * m 1 + m 2) :: (encU (m 3) ++ encU (m 4))
def frT (m : Mg) : List Nat := if m 0 = 2 then (if m 5 = 0 then [0] else 1 :: encU (m 6)) else []
def frT1 (m : Mg) : List Nat := if m 0 = 2 then (if m 5 = 0 then [0] else [1]) else []
def frT2 (m : Mg) : List Nat := if m 0 = 2 then (if m 5 = 0 then [] else encU (m 6)) else []
def frQ (S : Sx) (m : Mg) : List Nat := if m 5 = 0 then [] else encQ (S.tb (m 5))
def frP (S : Sx) (m : Mg) : List Nat := if m 0 = 8 then m 8 :: y_many S (m 4) :: (y_pcs S m).length :: y_pcs S m else []
theorem frB_eq (S : Sx) (m : Mg) : y_frB S m = frA m ++ frT m ++ frQ S m ++ frP S m := by
  unfold y_frB frA frT frQ frP
  simp only [List.append_assoc, List.cons_append]
theorem frT_eq (m : Mg) : frT m = frT1 m ++ frT2 m := by
  unfold frT frT1 frT2
  split
  · split <;> rfl
  · rfl
theorem frm_len {K : Nat} {S : Sx} {m : Mg} (hC : Cx S) (hK : K < 600) (hl : S.ll ≤ K) (hb : MgB K S m) : (frA m).length ≤ 13 ∧ (frT1 m).length ≤ 1 ∧ (frT2 m).length ≤ 5 ∧ (frQ S m).length ≤ 79 ∧ (frP S m).length ≤ 67 := by
  obtain ⟨m1, m2, m3, m4, m5, m6, m7, m8, m9, m10, m11, m12⟩ := hb
  have e3 := encU_len (n := m 3) (by omega)
  have e6 := encU_len (n := m 6) (by omega)
  have et := hC.tb (m 5)
  have eq := encQ_len et.2.1 et.2.2
  refine ⟨?_, ?_, ?_, ?_, ?_⟩
  · unfold frA
    have e4 := encU_len (n := m 4) (by omega)
    rw [List.length_cons, List.length_cons, List.length_cons, List.length_append]; omega
  · unfold frT1
    split
    · split <;> exact Nat.le_refl _
    · exact Nat.zero_le _
  · unfold frT2
    split
    · split
      · exact Nat.zero_le _
      · exact e6
    · exact Nat.zero_le _
  · unfold frQ
    split
    · exact Nat.zero_le _
    · exact eq
  · unfold frP
    split
    · have : (y_pcs S m).length ≤ 64 := by
        unfold y_pcs
        rw [List.length_take]; omega
      rw [List.length_cons, List.length_cons, List.length_cons]; omega
    · exact Nat.zero_le _
theorem pcs_get {S : Sx} {m : Mg} (h : 64 * m 8 < (S.enc (m 4)).length) : (y_pcs S m).length = min 64 ((S.enc (m 4)).length - 64 * m 8) ∧ (List.range' 0 (y_pcs S m).length).map (fun x => byA (S.enc (m 4)) (64 * m 8 + x)) = y_pcs S m := by
  have hl : (y_pcs S m).length = min 64 ((S.enc (m 4)).length - 64 * m 8) := by
    unfold y_pcs
    rw [List.length_take, List.length_drop]
  refine ⟨hl, ?_⟩
  apply List.ext_getElem?
  intro k
  rw [List.getElem?_map]
  by_cases hk : k < (y_pcs S m).length
  · rw [List.getElem?_range' hk]
    have e : (y_pcs S m)[k]? = (S.enc (m 4))[64 * m 8 + k]? := by
      unfold y_pcs
      rw [List.getElem?_take, if_pos (by omega), List.getElem?_drop]
    rw [e, Option.map_some, show 0 + 1 * k = k by omega, List.getElem?_eq_getElem (by omega)]
    unfold byA
    rw [List.getD_eq_getElem?_getD, List.getElem?_eq_getElem (by omega), Option.getD_some]
  · rw [List.getElem?_eq_none (by rw [List.length_range']; omega), List.getElem?_eq_none (by omega), Option.map_none]
theorem q_fp {ρ : Type} {i pc n : Nat} {l2 : Int32} {kx : vM → Option ρ} {Q : ρ → Prop} {X : vM} {e : List Nat} (hi : i < 200) (hpc : pc < 4) (hn : n ≤ 64) (he : Bts e) (h41 : X.2 41 i = nI pc) (h42 : ∀ x, x < n → X.2 42 (64 * pc + x) = nI (byA e (64 * pc + x))) : ∀ (d k fl : Nat) (l : List Nat), k + d = n → d < fl → l.length + d ≤ 2400 → tr (kx (sl X (l ++ (List.range' k d).map (fun x => byA e (64 * pc + x))))) Q → tr (L_X12_layFrame_251 (nI i) l2 (nI n) kx fl (sl X l) (nI k)) Q := by
  intro d
  induction d with
  | zero =>
    intro k fl l h1 h2 h3 g
    obtain ⟨fl, rfl⟩ : ∃ f', fl = f' + 1 := ⟨fl - 1, by omega⟩
    rw [L_X12_layFrame_251, if_pos (nI_le (by omega) (by omega))]
    have : l ++ (List.range' k 0).map (fun x => byA e (64 * pc + x)) = l := List.append_nil l
    rw [this] at g
    exact g
  | succ d ih =>
    intro k fl l h1 h2 h3 g
    obtain ⟨fl, rfl⟩ : ∃ f', fl = f' + 1 := ⟨fl - 1, by omega⟩
    rw [L_X12_layFrame_251, if_neg (nI_ge (by omega) (by omega))]
    refine tr_G (show i < 201 by omega) (by omega) ?_
    rw [sl_2 _ _ _ (by decide), h41, show (64 : Int32) * nI pc + nI k = nI (64 * pc + k) by rw [show (64 : Int32) = nI 64 from rfl, nI_mul, nI_add]]
    refine tr_G (show 64 * pc + k < 400 by omega) (by omega) ?_
    rw [sl_2 _ _ _ (by decide), h42 k (by omega), e_lay _ (by omega), Option.bind_some, nI_add1]
    have hb : byA e (64 * pc + k) < 256 := byA_lt he _
    rw [by8_n hb]
    refine ih (k + 1) fl (l ++ [byA e (64 * pc + k)]) (by omega) (by omega) (by rw [List.length_append]; show l.length + 1 + d ≤ 2400; omega) ?_
    rw [List.range'_succ, List.map_cons] at g
    rw [List.append_assoc]
    exact g
theorem r_frame {K : Nat} {M : vM} {S : Sx} {i : Nat} {m : Mg} (hC : Cx S) (h : WM M S) (hfl : S.fl.length ≤ 200) (hi : i < S.fl.length) (em : S.fl.getD i mgD = m) (hK : K < 600) (hll : S.ll ≤ K) (hb : MgB K S m) : tr (F_X12_layFrame M (nI i)) (fun M' => WM M' S ∧ M'.1 45 = nI (y_frm S m).length ∧ ∀ x, x < (y_frm S m).length → M'.2 38 x = nI (byA (y_frm S m) x) ^^^ (if 0 < m 7 ∧ x = (m 7 - 1) / 8 then (1 : Int32) <<< (nI ((m 7 - 1) % 8) &&& 31) else 0)) := by
  have hR := h.2.2.2.2.2 i hi
  rw [em] at hR
  obtain ⟨p1, p2, p3⟩ := hR
  obtain ⟨L1, L2, L3, L4, L5⟩ := frm_len hC hK hll hb
  obtain ⟨m1, m2, m3, m4, m5, m6, m7, m8, ⟨m9, m9'⟩, m10, m11, m12⟩ := hb
  have hN : S.N ≤ 9 := hC.2.1
  have p0 := p1 0 (by decide)
  rw [Nat.add_zero] at p0
  unfold F_X12_layFrame
  rw [show (8 : Int32) * nI i = nI (8 * i) from nI_mul 8 i, show (100 : Int32) * nI i = nI (100 * i) from nI_mul 100 i]
  refine tr_G (show 8 * i < 1608 by omega) (by omega) ?_
  rw [p0]
  refine tr_jnK2 (fun M6 s0 => WM M6 S ∧ M6.2 39 = M.2 39 ∧ M6.2 41 = M.2 41 ∧ (m 0 = 8 → s0 = nI (S.enc (m 4)).length ∧ ∀ x, x < (S.enc (m 4)).length → M6.2 42 x = nI (byA (S.enc (m 4)) x))) (fun M6 s0 q6 => ?_) (fun kk hkk => ?_)
  · obtain ⟨w6, e39, e41, h8⟩ := q6
    have g39 : ∀ f, f < 8 → M6.2 39 (8 * i + f) = nI (m f) := fun f hf => by rw [e39]; exact p1 f hf
    rw [l1_, sl_0, e_lay _ (show ([] : List Nat).length < 2400 by decide), Option.bind_some, e_lay _ (Nat.le_of_ble_eq_true rfl), Option.bind_some, show nI (8 * i) + (1 : Int32) = nI (8 * i + 1) from nI_add _ 1, show nI (8 * i) + (2 : Int32) = nI (8 * i + 2) from nI_add _ 2, show nI (8 * i) + (3 : Int32) = nI (8 * i + 3) from nI_add _ 3, show nI (8 * i) + (4 : Int32) = nI (8 * i + 4) from nI_add _ 4, show nI (8 * i) + (5 : Int32) = nI (8 * i + 5) from nI_add _ 5, show nI (8 * i) + (6 : Int32) = nI (8 * i + 6) from nI_add _ 6, show nI (8 * i) + (7 : Int32) = nI (8 * i + 7) from nI_add _ 7]
    refine tr_G (show 8 * i + 1 < 1608 by omega) (by omega) ?_
    refine tr_G (show 8 * i + 2 < 1608 by omega) (by omega) ?_
    rw [sl_2 _ _ _ (by decide), sl_2 _ _ _ (by decide), g39 1 (by decide), g39 2 (by decide), show (16 : Int32) * nI (m 1) + nI (m 2) = nI (16 * m 1 + m 2) by rw [show (16 : Int32) = nI 16 from rfl, nI_mul, nI_add], e_lay _ (Nat.le_of_ble_eq_true rfl), Option.bind_some]
    refine tr_G (show 8 * i + 3 < 1608 by omega) (by omega) ?_
    rw [sl_2 _ _ _ (by decide), g39 3 (by decide), e_layU (show m 3 < 2 ^ 31 by omega) (Nat.le_of_ble_eq_true rfl), Option.bind_some]
    refine tr_G (show 8 * i + 4 < 1608 by omega) (by omega) ?_
    have eA : ([] : List Nat) ++ [by8 165] ++ [by8 (nI (m 0))] ++ [by8 (nI (16 * m 1 + m 2))] ++ encU (m 3) ++ encU (m 4) = frA m := by
      rw [show by8 (165 : Int32) = 165 by decide, by8_n (show m 0 < 256 by omega), by8_n (show 16 * m 1 + m 2 < 256 by omega)]
      unfold frA
      simp only [List.append_assoc, List.nil_append, List.cons_append]
    have l3 := encU_len (n := m 3) (by omega)
    rw [sl_2 _ _ _ (by decide), g39 4 (by decide), e_layU (show m 4 < 2 ^ 31 by omega) (by
      rw [List.length_append]
      show 3 + (encU (m 3)).length + 5 ≤ 2400
      omega), Option.bind_some, eA]
    -- told or not
    refine tr_jnK (fun X => X = sl M6 (frA m ++ frT1 m)) (fun X eX => ?_) (fun kk hkk => ?_)
    · subst eX
      refine tr_jnK (fun X => X = sl M6 (frA m ++ frT m)) (fun X eX => ?_) (fun kk hkk => ?_)
      · subst eX
        refine tr_G (show 8 * i + 5 < 1608 by omega) (by omega) ?_
        rw [sl_2 _ _ _ (by decide), g39 5 (by decide)]
        have LT : (frT m).length ≤ 6 := by rw [frT_eq, List.length_append]; omega
        refine tr_jnK (fun X => X = sl M6 (frA m ++ frT m ++ frQ S m)) (fun X eX => ?_) (fun kk hkk => ?_)
        · subst eX
          refine tr_jnK (fun X => X = sl M6 (y_frB S m)) (fun X eX => ?_) (fun kk hkk => ?_)
          · subst eX
            have LB : (y_frB S m).length ≤ 165 := by
              rw [frB_eq, List.length_append, List.length_append, List.length_append]; omega
            have ec : F_X12_layCheck (sl M6 (y_frB S m)) 0 = some (sl M6 (y_frm S m)) := (e_layCheck (k := 0) (Nat.zero_le _) (by omega)).trans (by rw [List.drop_zero]; rfl)
            rw [ec, Option.bind_some]
            refine tr_G (show 8 * i + 7 < 1608 by omega) (by omega) ?_
            rw [sl_2 _ _ _ (by decide), g39 7 (by decide)]
            have LF : (y_frm S m).length ≤ 169 := by
              unfold y_frm
              rw [List.length_append]
              show (y_frB S m).length + 4 ≤ 169
              omega
            by_cases c7 : m 7 = 0
            · rw [if_pos (show nI (m 7) ≤ (0 : Int32) from nI_le (b := 0) (by omega) (by decide))]
              refine tr_some ⟨WM_sl w6, sl_45 _ _, fun x hx => ?_⟩
              rw [sl_38 _ _ hx, if_neg (fun q => by omega), Int32.xor_zero]
            · rw [if_neg (show ¬ nI (m 7) ≤ (0 : Int32) from nI_ge (a := 0) (by omega) (by omega))]
              have hsp := m9' (by omega)
              refine tr_G (show 8 * i + 7 < 1608 by omega) (by omega) ?_
              rw [sl_2 _ _ _ (by decide), g39 7 (by decide), show nI (m 7) - (1 : Int32) = nI (m 7 - 1) from nI_sub (b := 1) (by omega), show (8 : Int32) = nI 8 from rfl, nI_rem (show m 7 - 1 < 2 ^ 31 by omega) (by decide), nI_div (show m 7 - 1 < 2 ^ 31 by omega) (by decide)]
              refine tr_G (show (m 7 - 1) / 8 < 2400 by omega) (by omega) ?_
              refine tr_S (show (m 7 - 1) / 8 < 2400 by omega) (by omega) ?_
              rw [sl_38 _ _ hsp]
              have wF : WM (sl M6 (y_frm S m)) S := WM_sl w6
              refine tr_some ⟨WM_c wF (fun _ _ => rfl) rfl (fun j hj => ?_), sl_45 M6 (y_frm S m), fun x hx => ?_⟩
              · funext x
                exact uE_j _ _ _ (fun e => by rw [e] at hj; exact absurd hj (by decide))
              · by_cases e : x = (m 7 - 1) / 8
                · rw [if_pos ⟨by omega, e⟩, e, uE_s]
                · rw [if_neg (fun q => e q.2), uE_i _ _ e, sl_38 _ _ hx, Int32.xor_zero]
          · have hfin : m 0 ≠ 8 → frA m ++ frT m ++ frQ S m = y_frB S m := fun c => by
              rw [frB_eq]
              unfold frP
              rw [if_neg c, List.append_nil]
            show tr (if nI (m 0) = nI 8 then _ else _) _
            refine tr_eq (by omega) (by decide) (fun c8 => ?_) (fun c8 => hkk _ (by rw [hfin c8]))
            obtain ⟨es0, h42⟩ := h8 c8
            obtain ⟨k1, k2⟩ := m12 c8
            have len97 : (S.enc (m 4)).length ≤ 197 := enc_len hC (by omega)
            have hpc : m 8 < 4 ∧ 64 * m 8 < (S.enc (m 4)).length := by
              have k2' : m 8 < ((S.enc (m 4)).length + 63) / 64 := k2
              omega
            obtain ⟨pl, pg⟩ := pcs_get hpc.2
            have g41 : M6.2 41 i = nI (m 8) := by rw [e41, p2, if_pos c8]
            refine tr_G (show i < 201 by omega) (by omega) ?_
            rw [sl_2 _ _ _ (by decide), g41, es0, show (64 : Int32) * nI (m 8) = nI (64 * m 8) from nI_mul 64 _, nI_sub (by omega), show nI (S.enc (m 4)).length + (63 : Int32) = nI ((S.enc (m 4)).length + 63) from nI_add _ 63, show (64 : Int32) = nI 64 from rfl, nI_div (by omega) (by decide)]
            have LQ : (frA m ++ frT m ++ frQ S m).length ≤ 98 := by rw [List.length_append, List.length_append]; omega
            refine tr_jnK (fun v => v = nI (y_pcs S m).length) (fun v ev => ?_) (fun k2' hk2' => ?_)
            · subst ev
              refine tr_G (show i < 201 by omega) (by omega) ?_
              rw [sl_2 _ _ _ (by decide), g41, e_lay _ (by omega), Option.bind_some, e_lay _ (by rw [List.length_append]; show _ + 1 < 2400; omega), Option.bind_some, e_lay _ (by rw [List.length_append, List.length_append]; show _ + 1 + 1 < 2400; omega), Option.bind_some]
              refine q_fp (i := i) (pc := m 8) (n := (y_pcs S m).length) (e := S.enc (m 4)) (by omega) hpc.1 (by omega) (Bts.encSt _ _ _) g41 (fun x hx => h42 _ (by omega)) (y_pcs S m).length 0 fu _ (by omega) (show _ < 32768 by omega) (by rw [List.length_append, List.length_append, List.length_append]; show _ + 1 + 1 + 1 + _ ≤ 2400; omega) ?_
              rw [pg]
              refine hkk _ ?_
              rw [frB_eq]
              unfold frP
              rw [if_pos c8, by8_n (show m 8 < 256 by omega), by8_n (show ((S.enc (m 4)).length + 63) / 64 < 256 by omega), by8_n (show (y_pcs S m).length < 256 by omega)]
              have em : y_many S (m 4) = ((S.enc (m 4)).length + 63) / 64 := rfl
              rw [em]
              simp only [List.append_assoc, List.cons_append, List.nil_append]
            · refine tr_le (by decide) (by omega) (fun c => ?_) (fun c => ?_)
              · exact hk2' _ (by rw [pl, show min 64 ((S.enc (m 4)).length - 64 * m 8) = 64 by omega])
              · refine tr_G (show i < 201 by omega) (by omega) ?_
                rw [sl_2 _ _ _ (by decide), g41, nI_mul, nI_sub (by omega)]
                exact hk2' _ (by rw [pl, show min 64 ((S.enc (m 4)).length - 64 * m 8) = (S.enc (m 4)).length - 64 * m 8 by omega])
        · by_cases c5 : m 5 = 0
          · rw [c5, if_pos (show nI 0 ≤ (0 : Int32) from Int32.le_refl _)]
            refine hkk _ ?_
            unfold frQ
            rw [if_pos c5, List.append_nil]
          · rw [if_neg (show ¬ nI (m 5) ≤ (0 : Int32) from nI_ge (a := 0) (by omega) (by have := hC.nr; omega))]
            refine tr_G (show 8 * i + 5 < 1608 by omega) (by omega) ?_
            rw [sl_2 _ _ _ (by decide), g39 5 (by decide), r_layQ hC w6 (by omega) m7 (by rw [List.length_append]; omega), Option.bind_some]
            refine hkk _ ?_
            unfold frQ
            rw [if_neg c5]
      · show tr (if nI (m 0) = nI 2 then _ else _) _
        refine tr_eq (by omega) (by decide) (fun c2 => ?_) (fun c2 => hkk _ (by
          rw [frT_eq]
          unfold frT2
          rw [if_neg c2, List.append_nil]))
        refine tr_G (show 8 * i + 5 < 1608 by omega) (by omega) ?_
        rw [sl_2 _ _ _ (by decide), g39 5 (by decide)]
        by_cases c5 : m 5 = 0
        · rw [c5, if_pos (show nI 0 ≤ (0 : Int32) from Int32.le_refl _)]
          refine hkk _ ?_
          rw [frT_eq]
          unfold frT2
          rw [if_pos c2, if_pos c5, List.append_nil]
        · rw [if_neg (show ¬ nI (m 5) ≤ (0 : Int32) from nI_ge (a := 0) (by omega) (by have := hC.nr; omega))]
          refine tr_G (show 8 * i + 6 < 1608 by omega) (by omega) ?_
          rw [sl_2 _ _ _ (by decide), g39 6 (by decide), e_layU (show m 6 < 2 ^ 31 by omega) (by rw [List.length_append]; omega), Option.bind_some]
          refine hkk _ ?_
          rw [frT_eq]
          unfold frT2
          rw [if_pos c2, if_neg c5, List.append_assoc]
    · show tr (if nI (m 0) = nI 2 then _ else _) _
      refine tr_eq (by omega) (by decide) (fun c2 => ?_) (fun c2 => hkk _ (by
        unfold frT1
        rw [if_neg c2, List.append_nil]))
      refine tr_G (show 8 * i + 5 < 1608 by omega) (by omega) ?_
      rw [sl_2 _ _ _ (by decide), g39 5 (by decide)]
      by_cases c5 : m 5 = 0
      · rw [c5, if_pos (show nI 0 ≤ (0 : Int32) from Int32.le_refl _), e_lay _ (by omega), Option.bind_some]
        refine hkk _ ?_
        unfold frT1
        rw [if_pos c2, if_pos c5]; rfl
      · rw [if_neg (show ¬ nI (m 5) ≤ (0 : Int32) from nI_ge (a := 0) (by omega) (by have := hC.nr; omega)), e_lay _ (by omega), Option.bind_some]
        refine hkk _ ?_
        unfold frT1
        rw [if_pos c2, if_neg c5]; rfl
  · show tr (if nI (m 0) = nI 8 then _ else _) _
    refine tr_eq (by omega) (by decide) (fun c8 => ?_) (fun c8 => hkk _ _ ⟨h, rfl, rfl, fun q => absurd q c8⟩)
    have k1 := (m12 c8).1
    refine tr_b2 (r_layWhole (j := 40) (a := 100 * i) (V := S.V) (i := m 4) (s := S.sta (m 4)) (by decide) (by decide) rfl (show 100 * i + 66 ≤ 20100 by omega) (show 20100 < 2 ^ 31 by decide) (h.1 2 rfl) hC.V (by omega) (fun k => sta_b hC _ k) (p3 c8)) fun M3 v4 q => ?_
    obtain ⟨e1, M', e2, f1, f2, f3⟩ := q
    have e2' : M3 = sl M' (encSt S.V (S.sta (m 4)) (m 4)) := e2
    have e1' : v4 = nI (encSt S.V (S.sta (m 4)) (m 4)).length := e1
    refine hkk _ _ ⟨?_, ?_, ?_, fun _ => ⟨e1', fun x hx => ?_⟩⟩
    · rw [e2']
      exact WM_sl (WM_c h (fun f _ => by rw [f1]) (by rw [f1]) (fun j hj => f2 j (fun e => by rw [e] at hj; exact absurd hj (by decide))))
    · rw [e2']
      funext x
      rw [sl_2 _ _ _ (by decide), f2 39 (by decide)]
    · rw [e2']
      funext x
      rw [sl_2 _ _ _ (by decide), f2 41 (by decide)]
    · rw [e2', sl_2 _ _ _ (by decide)]
      exact f3 x hx
