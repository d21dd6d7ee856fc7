/-! ===== the reference proposes, tells, counts ===== -/
theorem set_sets (S : Sx) (g : Nat → Se) (r : Nat) (R : Rp) : (S.sets g).set r R = (S.set r R).sets g := rfl
theorem sark {a k : Nat} (h : a < 2 ^ 31) (hk : k < 9) : nI a >>> (nI k &&& 31) = nI (a / 2 ^ k) := by
  have hs : ∀ k : Fin 9, ((nI k.1 &&& 31).toBitVec.smod 32).toNat = k.1 := by decide
  apply Int32.toBitVec_inj.mp
  rw [Int32.toBitVec_shiftRight, BitVec.sshiftRight_eq', hs ⟨k, hk⟩]
  have hm : (nI a).toBitVec.msb = false := by
    rw [BitVec.msb_eq_decide, nI_tn (by omega)]
    simp; omega
  rw [BitVec.sshiftRight_eq_of_msb_false hm]
  apply BitVec.eq_of_toNat_eq
  have : a / 2 ^ k ≤ a := Nat.div_le_self _ _
  rw [BitVec.toNat_ushiftRight, nI_tn (by omega), nI_tn (by omega), Nat.shiftRight_eq_div_pow]
theorem bitk {a k : Nat} (h : a < 2 ^ 31) (hk : k < 9) : (nI a >>> (nI k &&& 31)) &&& (1 : Int32) = nI (if a.testBit k then 1 else 0) := by
  rw [sark h hk, nI_odd, Nat.testBit_eq_decide_div_mod_eq]
  congr 1
  by_cases e : a / 2 ^ k % 2 = 1
  · rw [e]; rfl
  · rw [show a / 2 ^ k % 2 = 0 by omega]; rfl
theorem r_count {M : vM} {S : Sx} {a : Nat} (hC : Cx S) (h : WM M S) (ha : a < 2 ^ 31) : F_X12_count M (nI a) = some (M, nI (y_count S.N a)) := by
  have hN := hC.N
  have e1 : M.1 1 = nI S.N := h.1 1 rfl
  unfold F_X12_count
  have loop : ∀ d k fl c, k + d = S.N → d < fl → L_X12_count_4 (nI a) (fun (M2 : vM) (l3 : Int32) => some (M2, l3)) fl M (nI c) (nI k) = some (M, nI (c + (List.range' k d).countP (fun k => a.testBit k))) := by
    intro d
    induction d with
    | zero =>
      intro k fl c h1 h2
      obtain ⟨fl, rfl⟩ : ∃ f', fl = f' + 1 := ⟨fl - 1, by omega⟩
      obtain rfl : k = S.N := by omega
      rw [L_X12_count_4, e1, if_pos (Int32.le_refl _)]
      rfl
    | succ d ih =>
      intro k fl c h1 h2
      obtain ⟨fl, rfl⟩ : ∃ f', fl = f' + 1 := ⟨fl - 1, by omega⟩
      rw [L_X12_count_4, e1, if_neg (nI_ge (by omega) (by omega)), bitk ha (by omega), nI_add, nI_add1, ih (k + 1) fl _ (by omega) (by omega), List.range'_succ, List.countP_cons]
      congr 3
      omega
  have := loop S.N 0 fu 0 (by omega) (by show _ < 32768; omega)
  rw [nI_0, Nat.zero_add] at this
  exact this
theorem orb {a t : Nat} (ht : t < 9) : nI a ||| ((1 : Int32) <<< (nI t &&& 31)) = nI (a ||| 2 ^ t) := by
  rw [shl1 ht]
  apply Int32.toBitVec_inj.mp
  apply BitVec.eq_of_getLsbD_eq
  intro i hi
  rw [Int32.toBitVec_or, BitVec.getLsbD_or]
  show ((BitVec.ofNat 32 a).getLsbD i || (BitVec.ofNat 32 (2 ^ t)).getLsbD i) = (BitVec.ofNat 32 (a ||| 2 ^ t)).getLsbD i
  rw [BitVec.getLsbD_ofNat, BitVec.getLsbD_ofNat, BitVec.getLsbD_ofNat, Nat.testBit_or]
  cases decide (i < 32) <;> simp
theorem q_p2 {ρ : Type} {kx : vM → Int32 → Option ρ} {Q : ρ → Prop} {M : vM} {S : Sx} {r : Nat} (hC : Cx S) (h : WM M S) (hr : r < 9) (hQ : QOk S (S.rp r)) (g : ∀ n, n ≤ (S.rp r).2.1.length → (∀ k, k < n → y_known S r ((S.rp r).2.1.getD k 0) = true) → (n = (S.rp r).2.1.length ∨ y_known S r ((S.rp r).2.1.getD n 0) = false) → tr (kx M (nI n)) Q) : tr (L_X12_propose_2 (nI r) kx fu M 0) Q := by
  obtain ⟨q8, qi⟩ := hQ
  have w : WM M (S.set r (S.rp r)) := by rw [set_id]; exact h
  have loop : ∀ d k fl, k + d = (S.rp r).2.1.length → d < fl → (∀ x, x < k → y_known S r ((S.rp r).2.1.getD x 0) = true) → tr (L_X12_propose_2 (nI r) kx fl M (nI k)) Q := by
    intro d
    induction d with
    | zero =>
      intro k fl h1 h2 h3
      obtain ⟨fl, rfl⟩ : ∃ f', fl = f' + 1 := ⟨fl - 1, by omega⟩
      rw [L_X12_propose_2]
      refine tr_G (show r < 9 from hr) (by omega) ?_
      rw [WM_ql' w hr, if_pos (nI_le (by omega) (by omega))]
      exact g k (by omega) h3 (Or.inl (by omega))
    | succ d ih =>
      intro k fl h1 h2 h3
      obtain ⟨fl, rfl⟩ : ∃ f', fl = f' + 1 := ⟨fl - 1, by omega⟩
      rw [L_X12_propose_2]
      refine tr_G (show r < 9 from hr) (by omega) ?_
      rw [WM_ql' w hr, if_neg (nI_ge (by omega) (by omega)), nI_add1, show (8 : Int32) * nI r = nI (8 * r) from nI_mul 8 r, nI_add]
      refine tr_G (show _ < 72 by omega) (by omega) ?_
      have hm := qi _ (getD_mem (l := (S.rp r).2.1) (k := k) (by omega))
      rw [WM_qg w hr q8 (by omega), r_known hC h hr hm.1 hm.2, b2_]
      refine tr_if (fun c => ?_) (fun c => ?_)
      · exact g k (by omega) h3 (Or.inr c)
      · refine ih (k + 1) fl (by omega) (by omega) fun x hx => ?_
        by_cases e : x = k
        · subst e; exact c
        · exact h3 x (by omega)
  have := loop (S.rp r).2.1.length 0 fu (by omega) (by show _ < 32768; omega) (fun x hx => absurd hx (Nat.not_lt_zero _))
  rw [nI_0] at this
  exact this
theorem r_propose {M : vM} {S : Sx} {r : Nat} (hC : Cx S) (h : WM M S) (hr : r < 9) (hfl : S.fl.length ≤ 200) (hJ : JR (S.rp r)) (hl : (S.rp r).2.2.1.length < 48) (hB : BR S (S.rp r)) (hg : (S.rp r).1 32 < 2 ^ 30) (hb : (S.rp r).1 20 < 2 ^ 30) (hQ : QOk S (S.rp r)) : tr (F_X12_propose M (nI r)) (fun p => p.2 = (if (y_propose S r).2 = true then (1 : Int32) else 0) ∧ WM p.1 (y_propose S r).1) := by
  have w : WM M (S.set r (S.rp r)) := by rw [set_id]; exact h
  have hQ' := hQ
  obtain ⟨q8, qi⟩ := hQ
  unfold F_X12_propose
  refine q_p2 hC h hr hQ' fun n h1 h2 h3 => ?_
  have ed := dW_drop (fun q => y_known S r q) (S.rp r).2.1 n h2 h1 h3
  refine tr_G (show r < 9 from hr) (by omega) ?_
  rw [WM_ql' w hr]
  refine tr_eq (by omega) (by omega) (fun c => ?_) (fun c => ?_)
  · have e : y_propose S r = (S, false) := by
      unfold y_propose
      rw [ed, c, List.drop_length]
    rw [e]
    exact tr_z0 (tr_some ⟨rfl, h⟩)
  · have hn : n < (S.rp r).2.1.length := by omega
    refine q_p51 w hr q8 h1 fun M1 w1 => ?_
    have ec : (S.rp r).2.1.drop n = (S.rp r).2.1.getD n 0 :: (S.rp r).2.1.drop (n + 1) := by
      rw [List.drop_eq_getElem_cons hn, List.getD_eq_getElem?_getD, List.getElem?_eq_getElem hn]; rfl
    have e : y_propose S r = (y_proposeIt (S.set r ((S.rp r).q ((S.rp r).2.1.drop n))) r ((S.rp r).2.1.getD n 0), true) := by
      unfold y_propose
      rw [ed, ec]
    rw [e]
    have hm := qi _ (getD_mem (l := (S.rp r).2.1) (k := n) hn)
    rw [show (8 : Int32) * nI r = nI (8 * r + 0) from nI_mul 8 r]
    refine tr_G (show _ < 72 by omega) (by omega) ?_
    have hlen : ((S.rp r).2.1.drop n).length = (S.rp r).2.1.length - n := List.length_drop
    have h26 := WM_qg (k := 0) w1 hr (by show ((S.rp r).2.1.drop n).length ≤ 8; omega) (by show 0 < ((S.rp r).2.1.drop n).length; omega)
    have h26' : ((S.rp r).q ((S.rp r).2.1.drop n)).2.1.getD 0 0 = (S.rp r).2.1.getD n 0 := by
      show ((S.rp r).2.1.drop n).getD 0 0 = _
      rw [ec]; rfl
    rw [h26, h26']
    refine tr_bind (r_proposeIt (R := (S.rp r).q ((S.rp r).2.1.drop n)) hC w1 hr hfl hJ hl hB hg hm.1 hm.2 hb) fun M2 w2 => ?_
    exact tr_z1 (tr_some ⟨rfl, w2⟩)
/-- the sessions that hear of their verdicts -/
def y_sesT (S : Sx) (r : Nat) : Nat → Se := fun s => if s < 16 ∧ (S.se s).1 46 = 2 ∧ (S.se s).1 48 = r ∧ (S.sta ((S.rp r).1 7)).2.1 s = (S.se s).1 47 then (va_up (S.se s).1 46 (2 + (S.sta ((S.rp r).1 7)).2.2.1 s), (S.se s).2) else S.se s
theorem q_t31 {ρ : Type} {kx : vM → Option ρ} {Q : ρ → Prop} {M : vM} {S : Sx} {r : Nat} (hC : Cx S) (h : WM M S) (hr : r < 9) (g : ∀ M', WM M' (S.sets (y_sesT S r)) → tr (kx M') Q) : tr (L_X12_tell_31 (nI r) kx fu M 0) Q := by
  have hs := hC.s
  refine tr_up0 (g := L_X12_tell_31 (nI r) kx) (fun k M' => WM M' (S.sets (fun s => if s < k then y_sesT S r s else S.se s))) 16 (by decide) (fun f M1 hP => ?_) (fun f k M1 hk hP ih => ?_) M ?_
  · rw [L_X12_tell_31, if_pos (show (16 : Int32) ≤ nI 16 from nI_le (Nat.le_refl 16) (by decide))]
    refine g M1 ?_
    obtain ⟨a1, a2, a3, a4, a5, a6⟩ := hP
    refine ⟨a1, a2, a3, a4, fun s hs' => ?_, a6⟩
    have := a5 s hs'
    rw [show (S.sets (fun s => if s < 16 then y_sesT S r s else S.se s)).se s = y_sesT S r s from if_pos hs'] at this
    exact this
  · rw [L_X12_tell_31, if_neg (show ¬ (16 : Int32) ≤ nI k from nI_ge (b := 16) (by omega) (by decide)), nI_add1]
    have ek : (S.sets (fun s => if s < k then y_sesT S r s else S.se s)).se k = S.se k := if_neg (Nat.lt_irrefl _)
    have wr : WM M1 ((S.sets (fun s => if s < k then y_sesT S r s else S.se s)).set r (S.rp r)) := by
      rw [show (S.sets (fun s => if s < k then y_sesT S r s else S.se s)).set r (S.rp r) = (S.sets (fun s => if s < k then y_sesT S r s else S.se s)) from set_id _ _]
      exact hP
    obtain ⟨s46, s48, s47⟩ := hs k hk
    have sb := st_b (V := S.V) (g := S.lg) hC.tb ((S.rp r).1 7) k
    have keep : ¬ (k < 16 ∧ (S.se k).1 46 = 2 ∧ (S.se k).1 48 = r ∧ (S.sta ((S.rp r).1 7)).2.1 k = (S.se k).1 47) → WM M1 (S.sets (fun s => if s < k + 1 then y_sesT S r s else S.se s)) := fun c => by
      have e : (fun s => if s < k + 1 then y_sesT S r s else S.se s) = (fun s => if s < k then y_sesT S r s else S.se s) := by
        funext s
        by_cases e : s = k
        · subst e
          rw [if_pos (by omega), if_neg (by omega)]
          unfold y_sesT
          rw [if_neg c]
        · by_cases e2 : s < k
          · rw [if_pos (by omega), if_pos e2]
          · rw [if_neg (by omega), if_neg e2]
      rw [e]; exact hP
    refine tr_Gs hP hk rfl ?_
    rw [ek]
    refine tr_eq (b := 2) (by omega) (by decide) (fun c1 => ?_) (fun c1 => ih M1 (keep (by omega)))
    refine tr_Gs hP hk rfl ?_
    rw [ek]
    refine tr_eq (by omega) (by omega) (fun c2 => ?_) (fun c2 => ih M1 (keep (by omega)))
    rw [show (16 : Int32) * nI r = nI (16 * r) from nI_mul 16 r, nI_add]
    refine tr_G (show _ < 144 by omega) (by omega) ?_
    rw [WM_sq wr hr hk]
    refine tr_Gs hP hk rfl ?_
    rw [ek]
    have sb1 : ((S.sets (fun s => if s < k then y_sesT S r s else S.se s)).sta ((S.rp r).1 7)).2.1 k < 2 ^ 30 := sb.1
    refine tr_eq (by omega) (by omega) (fun c3 => ?_) (fun c3 => ih M1 (keep (fun q => c3 q.2.2.2)))
    refine tr_G (show _ < 144 by omega) (by omega) ?_
    rw [WM_vd wr hr hk, show (2 : Int32) + nI (((S.sets (fun s => if s < k then y_sesT S r s else S.se s)).sta ((S.rp r).1 7)).2.2.1 k) = nI (2 + (S.sta ((S.rp r).1 7)).2.2.1 k) from nI_add 2 _]
    refine tr_S (show _ < 16 from hk) (by omega) ?_
    refine ih _ ?_
    have := WM_s (s := k) (f := 46) (v := 2 + (S.sta ((S.rp r).1 7)).2.2.1 k) (g := fun s => if s < k + 1 then y_sesT S r s else S.se s) hP rfl (fun x hx => ?_)
    · exact this
    · by_cases e : x = k
      · subst e
        rw [if_pos rfl, ek]
        show (if x < x + 1 then y_sesT S r x else S.se x) = _
        rw [if_pos (by omega)]
        unfold y_sesT
        rw [if_pos ⟨hk, c1, c2, c3⟩]
      · rw [if_neg e]
        show _ = if x < k then y_sesT S r x else S.se x
        by_cases e2 : x < k
        · rw [if_pos e2, if_pos (by omega)]
        · rw [if_neg e2, if_neg (by omega)]
  · have e : S.sets (fun s => if s < 0 then y_sesT S r s else S.se s) = S := by
      have : (fun s => if s < 0 then y_sesT S r s else S.se s) = S.se := funext fun s => if_neg (Nat.not_lt_zero _)
      rw [this]; rfl
    rw [e]; exact h
theorem Cx.sesT {S : Sx} (h : Cx S) (r : Nat) : Cx (S.sets (y_sesT S r)) := by
  obtain ⟨a1, a2, a3, a4, a5, a6, a7, a8, a9, a10, a11⟩ := h
  refine ⟨a1, a2, a3, a4, a5, a6, a7, a8, a9, a10, fun s hs => ?_⟩
  obtain ⟨s46, s48, s47⟩ := a11 s hs
  have sb := (st_b (V := S.V) (g := S.lg) a9 ((S.rp r).1 7) s).2
  show (y_sesT S r s).1 46 < _ ∧ (y_sesT S r s).1 48 < _ ∧ (y_sesT S r s).1 47 < _
  unfold y_sesT
  split
  · refine ⟨?_, s48, s47⟩
    show 2 + (stN S.V S.tb S.lg ((S.rp r).1 7)).2.2.1 s < 2 ^ 31
    omega
  · exact ⟨s46, s48, s47⟩
theorem r_tell {M : vM} {S : Sx} {r : Nat} (hC : Cx S) (h : WM M S) (hr : r < 9) (h7 : (S.rp r).1 7 < 2 ^ 30) (h43 : (S.rp r).1 43 < 2 ^ 30) (hQ : QOk S (S.rp r)) : tr (F_X12_tell M (nI r)) (fun M' => WM M' (y_tell S r)) := by
  have w : WM M (S.set r (S.rp r)) := by rw [set_id]; exact h
  unfold F_X12_tell
  refine tr_Gr w hr rfl ?_
  refine tr_Gr w hr rfl ?_
  refine tr_jnK (fun M' => WM M' (S.set r (if (S.rp r).1 43 ≤ (S.rp r).1 7 then ((S.rp r).u 43 0).u 44 0 else S.rp r))) (fun M1 w1 => ?_) (fun k hk => ?_)
  · have e7 : (if (S.rp r).1 43 ≤ (S.rp r).1 7 then ((S.rp r).u 43 0).u 44 0 else S.rp r).1 7 = (S.rp r).1 7 := by split <;> rfl
    have eq : (if (S.rp r).1 43 ≤ (S.rp r).1 7 then ((S.rp r).u 43 0).u 44 0 else S.rp r).2.1 = (S.rp r).2.1 := by split <;> rfl
    unfold y_tell
    dsimp only
    generalize (if (S.rp r).1 43 ≤ (S.rp r).1 7 then ((S.rp r).u 43 0).u 44 0 else S.rp r) = R1 at e7 eq w1 ⊢
    refine q_t31 (hC.set r R1) w1 hr fun M2 w2 => ?_
    have w2' : WM M2 (((S.set r R1).sets (y_sesT (S.set r R1) r)).set r R1) := by
      rw [show ((S.set r R1).sets (y_sesT (S.set r R1) r)).set r R1 = ((S.set r R1).set r R1).sets (y_sesT (S.set r R1) r) from rfl, set_set]; exact w2
    refine tr_G (show r < 9 from hr) (by omega) ?_
    rw [WM_ql' w2' hr]
    have hrp : ((S.set r R1).sets (y_sesT (S.set r R1) r)).rp r = R1 := set_rp _ _ _
    have := q_t111 (r := r) ((hC.set r R1).sesT r) w2 hr (by rw [hrp]; exact ⟨by rw [eq]; exact hQ.1, fun q hq => hQ.2 q (by rw [← eq]; exact hq)⟩)
    rw [hrp] at this
    refine tr_imp this fun M3 w3 => ?_
    have ek : ∀ q, y_known ((S.set r R1).sets (y_sesT (S.set r R1) r)) r q = y_known S r q := fun q => by
      unfold y_known
      rw [hrp, e7]; rfl
    have ef : (R1.2.1.filter (fun q => !y_known ((S.set r R1).sets (y_sesT (S.set r R1) r)) r q)) = (S.rp r).2.1.filter (fun q => !y_known S r q) := by
      rw [eq]
      congr 1
      funext q
      rw [ek]
    rw [ef] at w3
    have es : y_sesT (S.set r R1) r = (fun s => if s < 16 ∧ (S.se s).1 46 = 2 ∧ (S.se s).1 48 = r ∧ (S.sta ((S.rp r).1 7)).2.1 s = (S.se s).1 47 then (va_up (S.se s).1 46 (2 + (S.sta ((S.rp r).1 7)).2.2.1 s), (S.se s).2) else S.se s) := by
      unfold y_sesT
      rw [set_rp, e7]; rfl
    rw [es] at w3
    have e2 : ((S.set r R1).sets (fun s => if s < 16 ∧ (S.se s).1 46 = 2 ∧ (S.se s).1 48 = r ∧ (S.sta ((S.rp r).1 7)).2.1 s = (S.se s).1 47 then (va_up (S.se s).1 46 (2 + (S.sta ((S.rp r).1 7)).2.2.1 s), (S.se s).2) else S.se s)).set r (R1.q ((S.rp r).2.1.filter (fun q => !y_known S r q))) = (S.set r (R1.q ((S.rp r).2.1.filter (fun q => !y_known S r q)))).sets (fun s => if s < 16 ∧ (S.se s).1 46 = 2 ∧ (S.se s).1 48 = r ∧ (S.sta ((S.rp r).1 7)).2.1 s = (S.se s).1 47 then (va_up (S.se s).1 46 (2 + (S.sta ((S.rp r).1 7)).2.2.1 s), (S.se s).2) else S.se s) := by
      rw [set_sets, set_set]
    rw [e2] at w3
    exact w3
  · refine tr_lt (by omega) (by omega) (fun c => ?_) (fun c => ?_)
    · refine hk _ ?_
      rw [if_neg (by omega)]; exact w
    · refine tr_Sr 0 w hr rfl (by decide) (by decide) (by decide) fun M2 w2 => ?_
      refine tr_Sr 0 w2 hr rfl (by decide) (by decide) (by decide) fun M3 w3 => ?_
      refine hk _ ?_
      rw [if_pos c]; exact w3
