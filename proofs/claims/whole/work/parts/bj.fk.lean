/-! ===== the class writes them ===== -/
theorem fm_one {g : Nat → Nat} : ∀ (n s : Nat), (List.range' s n).flatMap (fun j => [g j]) = (List.range' 0 n).map (fun x => g (s + x)) := by
  intro n
  induction n with
  | zero => intro s; rfl
  | succ n ih =>
    intro s
    rw [List.range'_succ, List.flatMap_cons, ih (s + 1), List.range'_succ, List.map_cons, List.range'_eq_map_range, List.range'_eq_map_range, List.map_map, List.map_map]
    show g s :: _ = g (s + 0) :: _
    congr 1
    apply List.map_congr_left
    intro x _
    show g (s + 1 + (0 + x)) = g (s + (0 + 1 + x))
    congr 1
    omega
theorem c_frame {K N : Nat} {c : vC} {S : Sx} {k : Nat} {m : Mg} (hC : Cx S) (h : WC K0 c S) (hF : FrA c S.V S.sta S.tb k m) (hK : K < 600) (hll : S.ll ≤ K) (hb : MgB K S m) : tr (F_X1_writeTo N c k 0) (fun c' => c' = sB (uI c 2 0 0) 0 (y_frm S m)) := by
  obtain ⟨L1, L2, L3, L4, L5⟩ := frm_len hC hK hll hb
  obtain ⟨m1, m2, m3, m4, m5, m6, m7, m8, m9, m10, m11, m12⟩ := hb
  have hN : S.N ≤ 9 := hC.2.1
  obtain ⟨f1, f2, f3, f4, f5, f6, f7⟩ := hF
  have z2 : ze (uI c 2 0 0) c := (zc_2 (r := 0) (by decide)).1
  have gI : ∀ l f, f ≠ 1 → f ≠ 2 → cI (sB (uI c 2 0 0) 0 l) f k = cI c f k := fun l f a b => by rw [sB_I _ _ _ _ a, uI_f _ _ _ b]
  have gP : ∀ l f, cP (sB (uI c 2 0 0) 0 l) f k = cP c f k := fun l f => by rw [(sB_re _ _ _).1, uI_P]
  have f100 : cI c 100 k = nI (m 0) := f1 0 (by decide)
  have f101 : cI c 101 k = nI (m 1) := f1 1 (by decide)
  have f102 : cI c 102 k = nI (m 2) := f1 2 (by decide)
  have f103 : cI c 103 k = nI (m 3) := f1 3 (by decide)
  have f104 : cI c 104 k = nI (m 4) := f1 4 (by decide)
  have rqA : ∀ a, RqA c a (S.tb (m 5)) → RqA (uI c 2 0 0) a (S.tb (m 5)) := fun a q => q.c z2
  have btA : ∀ a l, BtA c a l → BtA (uI c 2 0 0) a l := fun a l q => q.c z2
  unfold F_X1_writeTo
  rw [e_clear, Option.bind_some]
  generalize uI c 2 0 0 = c0 at gI gP rqA btA ⊢
  have eA : ([] : List Nat) ++ [by8 165] ++ [by8 (nI (m 0))] ++ [by8 (nI (16 * m 1 + m 2))] ++ encU (m 3) ++ encU (m 4) = frA m := by
    rw [show by8 (165 : Int32) = 165 by decide, by8_n (show m 0 < 256 by omega), by8_n (show 16 * m 1 + m 2 < 256 by omega)]
    unfold frA
    simp only [List.append_assoc, List.nil_append, List.cons_append]
  have l3 := encU_len (n := m 3) (by omega)
  rw [e_put _ (Nat.le_of_ble_eq_true rfl), Option.bind_some, gI _ 100 (by decide) (by decide), f100, e_put _ (Nat.le_of_ble_eq_true rfl), Option.bind_some, gI _ 101 (by decide) (by decide), gI _ 102 (by decide) (by decide), f101, f102, show (16 : Int32) * nI (m 1) + nI (m 2) = nI (16 * m 1 + m 2) by rw [show (16 : Int32) = nI 16 from rfl, nI_mul, nI_add], e_put _ (Nat.le_of_ble_eq_true rfl), Option.bind_some, gI _ 103 (by decide) (by decide), f103, e_putU (show m 3 < 2 ^ 31 by omega) (Nat.le_of_ble_eq_true rfl), Option.bind_some, gI _ 104 (by decide) (by decide), f104, e_putU (show m 4 < 2 ^ 31 by omega) (by
    rw [List.length_append]
    show 3 + (encU (m 3)).length + 5 ≤ 2048
    omega), Option.bind_some, eA]
  have LT : (frT m).length ≤ 6 := by rw [frT_eq, List.length_append]; omega
  refine tr_jnK (fun X => X = sB c0 0 (frA m ++ frT m)) (fun X eX => ?_) (fun kk hkk => ?_)
  · subst eX
    rw [l1_, gP]
    refine tr_jnK (fun X => X = sB c0 0 (frA m ++ frT m ++ frQ S m)) (fun X eX => ?_) (fun kk hkk => ?_)
    · subst eX
      have LQ : (frA m ++ frT m ++ frQ S m).length ≤ 98 := by rw [List.length_append, List.length_append]; omega
      have hBts : Bts (y_frB S m) := by
        rw [frB_eq]
        refine Bts.app (Bts.app (Bts.app ?_ ?_) ?_) ?_
        · exact Bts.cons (by decide) (Bts.cons (by omega) (Bts.cons (by omega) ((Bts.encU _).app (Bts.encU _))))
        · unfold frT
          split
          · split
            · exact Bts.cons (by decide) Bts.nil
            · exact Bts.cons (by decide) (Bts.encU _)
          · exact Bts.nil
        · unfold frQ
          split
          · exact Bts.nil
          · exact Bts.encQ _
        · unfold frP
          split
          · rename_i c8
            have len97 : (S.enc (m 4)).length ≤ 197 := enc_len hC (by omega)
            have k2' : m 8 < ((S.enc (m 4)).length + 63) / 64 := (m12 c8).2
            have em : y_many S (m 4) = ((S.enc (m 4)).length + 63) / 64 := rfl
            have pl := (pcs_get (S := S) (m := m) (by omega)).1
            refine Bts.cons (by omega) (Bts.cons (by omega) (Bts.cons (by omega) (fun b hb => ?_)))
            exact Bts.encSt S.V (S.sta (m 4)) (m 4) b (List.mem_of_mem_drop (List.mem_of_mem_take hb))
          · exact Bts.nil
      have LB : (y_frB S m).length ≤ 165 := by
        rw [frB_eq, List.length_append]; omega
      have ec : F_X0_putCheck N (sB c0 0 (y_frB S m)) 0 0 = some (sB c0 0 (y_frm S m)) := (e_putCheck (k := 0) hBts (Nat.zero_le _) (by omega)).trans (by rw [List.drop_zero]; rfl)
      rw [l1_, gP]
      by_cases c8 : m 0 = 8
      · obtain ⟨g108, a, g107, ba⟩ := f5 c8
        have len97 : (S.enc (m 4)).length ≤ 197 := enc_len hC (by omega)
        have k2' : m 8 < ((S.enc (m 4)).length + 63) / 64 := (m12 c8).2
        have hpc : m 8 < 4 ∧ 64 * m 8 < (S.enc (m 4)).length := by omega
        obtain ⟨pl, pg⟩ := pcs_get hpc.2
        obtain ⟨b1, b2, b3, b4⟩ := btA a _ ba
        have b3' : cN c0 a = (S.enc (m 4)).length := b3
        have kK : ∀ l, cK (sB c0 0 l) a = 20 := fun l => by rw [(sB_re _ _ _).2.2.2.1]; exact b2
        have kN : ∀ l, cN (sB c0 0 l) a = (S.enc (m 4)).length := fun l => by rw [(sB_re _ _ _).2.2.2.2.1]; exact b3'
        have kD : ∀ l, cD (sB c0 0 l) a = cD c0 a := fun l => by rw [(sB_re _ _ _).2.2.2.2.2.1]
        rw [g107, oc_s, gI _ 108 (by decide) (by decide), g108, e_put _ (by omega), Option.bind_some, l1_, gP, g107]
        unfold F_X1_piecesOf
        rw [Option.bind_some, gd_ (kK _), b2_, kN, show Int32.ofNat (S.enc (m 4)).length = nI (S.enc (m 4)).length from rfl, show nI (S.enc (m 4)).length + (64 : Int32) = nI ((S.enc (m 4)).length + 64) from nI_add _ 64, show nI ((S.enc (m 4)).length + 64) - (1 : Int32) = nI ((S.enc (m 4)).length + 63) from nI_sub (b := 1) (by omega), show (64 : Int32) = nI 64 from rfl, nI_div (by omega) (by decide), e_put _ (by rw [List.length_append]; show _ + 1 < 2048; omega), Option.bind_some]
        have ePS : ∀ l, F_X1_pieceStart N (sB c0 0 l) k = some (sB c0 0 l, nI (64 * m 8)) := fun l => by
          unfold F_X1_pieceStart
          rw [gI _ 108 (by decide) (by decide), g108, show (64 : Int32) = nI 64 from rfl, nI_mul, Nat.mul_comm (m 8) 64]
        have ePE : ∀ l, F_X1_pieceEnd N (sB c0 0 l) k = some (sB c0 0 l, nI (min (S.enc (m 4)).length (64 * m 8 + 64))) := fun l => by
          unfold F_X1_pieceEnd
          rw [l1_, gP, g107, oc_s, l1_, Option.bind_some, gd_ (kK _), ePS, b2_, kN, show Int32.ofNat (S.enc (m 4)).length = nI (S.enc (m 4)).length from rfl, show nI (64 * m 8) + (64 : Int32) = nI (64 * m 8 + 64) from nI_add _ 64, mn_nI (by omega) (by omega)]
        rw [ePE, b2_, ePS, b2_, nI_sub (by omega), e_put _ (by rw [List.length_append, List.length_append]; show _ + 1 + 1 < 2048; omega), Option.bind_some, l1_, gP, g107, ePS, b2_, ePE, b2_, Option.bind_some]
        rw [e_putAll (c := c0) (i := 0) (f := 1) (k := a) (s := 64 * m 8) (e := min (S.enc (m 4)).length (64 * m 8 + 64)) (L := (S.enc (m 4)).length) (rd := cD c0 a) (fun l' => by
            unfold hL
            rw [if_pos rfl, if_pos (kK _), kN]; rfl) (fun l' j j1 j2 => by
            unfold hG
            rw [if_pos rfl, dGv (kK _) (by rw [kN]; omega) (by omega), kD]) (by omega) (by omega) (by omega) (by rw [List.length_append, List.length_append, List.length_append]; show _ + 1 + 1 + 1 + _ ≤ 2048; omega), Option.bind_some]
        have ep : (List.range' (64 * m 8) (min (S.enc (m 4)).length (64 * m 8 + 64) - 64 * m 8)).flatMap (fun j => [by8 (cD c0 a j)]) = y_pcs S m := by
          have e1 : (List.range' (64 * m 8) (min (S.enc (m 4)).length (64 * m 8 + 64) - 64 * m 8)).flatMap (fun j => [by8 (cD c0 a j)]) = (List.range' (64 * m 8) (min (S.enc (m 4)).length (64 * m 8 + 64) - 64 * m 8)).flatMap (fun j => [byA (S.enc (m 4)) j]) := by
            rw [List.flatMap_def, List.flatMap_def]
            congr 1
            apply List.map_congr_left
            intro j hj
            rw [List.mem_range'_1] at hj
            have e4 : cD c0 a j = sb_b (byA (S.enc (m 4)) j) := b4 j (show j < (S.enc (m 4)).length by omega)
            rw [e4, by8_sbb (show byA (S.enc (m 4)) j < 256 from byA_lt (Bts.encSt S.V (S.sta (m 4)) (m 4)) j)]
          rw [e1, fm_one, show min (S.enc (m 4)).length (64 * m 8 + 64) - 64 * m 8 = (y_pcs S m).length by omega]
          exact pg
        rw [ep]
        have eB : frA m ++ frT m ++ frQ S m ++ [by8 (nI (m 8))] ++ [by8 (nI (((S.enc (m 4)).length + 63) / 64))] ++ [by8 (nI (min (S.enc (m 4)).length (64 * m 8 + 64) - 64 * m 8))] ++ y_pcs S m = y_frB S m := by
          rw [frB_eq]
          unfold frP
          rw [if_pos c8, by8_n (show m 8 < 256 by omega), by8_n (show ((S.enc (m 4)).length + 63) / 64 < 256 by omega), show min (S.enc (m 4)).length (64 * m 8 + 64) - 64 * m 8 = (y_pcs S m).length by omega, by8_n (show (y_pcs S m).length < 256 by omega), show y_many S (m 4) = ((S.enc (m 4)).length + 63) / 64 from rfl]
          simp only [List.append_assoc, List.cons_append, List.nil_append]
        rw [eB, ec, Option.bind_some]
        exact tr_some rfl
      · have eB : frA m ++ frT m ++ frQ S m = y_frB S m := by
          rw [frB_eq]
          unfold frP
          rw [if_neg c8, List.append_nil]
        rw [(f4 c8).1, oc_n, eB, ec, Option.bind_some]
        exact tr_some rfl
    · by_cases c5 : m 5 = 0
      · rw [f2.1 c5, oc_n]
        refine hkk _ ?_
        unfold frQ
        rw [if_pos c5, List.append_nil]
      · obtain ⟨a, ea, ra⟩ := f2.2 (by omega)
        have ra0 := rqA a ra
        rw [ea, oc_s, l1_, Option.bind_some, gd_ (show cK (sB c0 0 (frA m ++ frT m)) a = 9 by rw [(sB_re _ _ _).2.2.2.1]; exact ra0.2.1), c_writeReq hC ra0 (by rw [List.length_append]; omega), Option.bind_some]
        refine hkk _ ?_
        unfold frQ
        rw [if_neg c5]
  · rw [gI _ 100 (by decide) (by decide), f100]
    show tr (if nI (m 0) = nI 2 then _ else _) _
    refine tr_eq (by omega) (by decide) (fun c2 => ?_) (fun c2 => hkk _ (by
      unfold frT
      rw [if_neg c2, List.append_nil]))
    rw [l1_, gP]
    by_cases c5 : m 5 = 0
    · rw [f2.1 c5]
      refine tr_jnK (fun v => v = 0) (fun v ev => ?_) (fun kk' hkk' => by rw [oc_n]; exact hkk' _ rfl)
      subst ev
      rw [e_put _ (by omega), Option.bind_some, l1_, gP, f2.1 c5, oc_n]
      refine hkk _ ?_
      unfold frT
      rw [if_pos c2, if_pos c5]; rfl
    · obtain ⟨a, ea, ra⟩ := f2.2 (by omega)
      rw [ea]
      refine tr_jnK (fun v => v = 1) (fun v ev => ?_) (fun kk' hkk' => by rw [oc_s]; exact hkk' _ rfl)
      subst ev
      rw [e_put _ (by omega), Option.bind_some, l1_, gP, ea, oc_s, gI _ 106 (by decide) (by decide), f3, e_putU (show m 6 < 2 ^ 31 by omega) (by rw [List.length_append]; show _ + 1 + 5 ≤ 2048; omega), Option.bind_some]
      refine hkk _ ?_
      unfold frT
      rw [if_pos c2, if_neg c5, List.append_assoc]; rfl
