/-! ===== requests, states, heads as bytes, on both sides ===== -/
theorem isInT {N : Nat} {c : vC} {k : Nat} {w : Int32} (h : ((w >>> (nI k &&& 31)) &&& (1 : Int32)) = (1 : Int32)) : F_X11_isIn N c (nI k) w = some (c, 1) := by
  unfold F_X11_isIn
  rw [if_pos h, zb1]
theorem isInF {N : Nat} {c : vC} {k : Nat} {w : Int32} (h : ¬ ((w >>> (nI k &&& 31)) &&& (1 : Int32)) = (1 : Int32)) : F_X11_isIn N c (nI k) w = some (c, 0) := by
  unfold F_X11_isIn
  rw [if_neg h, zb0]
theorem dGv {c : vC} {k a j : Nat} (h1 : cK c a = k) (h2 : j < cN c a) (hj : j < 2 ^ 31) : dG c k a (nI j) = some (cD c a j) := by
  unfold dG
  rw [nIt hj, if_neg (fun q => q.elim (fun q => q h1) (fun q => q.elim (nIn hj) (fun q => by omega)))]
theorem e_writeReq {N : Nat} {c : vC} {i a v sq sn : Nat} {l : List Nat} (hk : cK c a = 9) (h1 : cI c 801 a = nI sq) (h2 : cI c 802 a = nI sn) (b1 : sq < 2 ^ 31) (b2' : sn < 2 ^ 31) (hv : cP c 805 a = some v) (hv1 : cK c v = 21) (hv2 : cN c v = 16) (hl : l.length + 80 ≤ 2048) : F_X8_writeTo N (sB c i l) a i = some (sB c i (l ++ encR (cI c 800 a) sq sn (cI c 803 a) (cI c 804 a) (cD c v))) := by
  have a1 := encU_len b1
  have a2 := encU_len b2'
  have c1 : ∀ w : Int32, (be2 w).length = 2 := fun _ => rfl
  have kk : ∀ l', cK (sB c i l') a = 9 := fun _ => hk
  unfold F_X8_writeTo
  rw [gd_ (kk _), sB_I _ _ _ _ (by decide), e_put _ (by omega), Option.bind_some, gd_ (kk _), sB_I _ _ _ _ (by decide), h1, e_putU b1 (by simp only [List.length_append, List.length_cons, List.length_nil]; omega), Option.bind_some, gd_ (kk _), sB_I _ _ _ _ (by decide), h2, e_putU b2' (by simp only [List.length_append, List.length_cons, List.length_nil]; omega), Option.bind_some, gd_ (kk _), sB_I _ _ _ _ (by decide), e_putTwo _ (by simp only [List.length_append, List.length_cons, List.length_nil]; omega), Option.bind_some, gd_ (kk _), sB_I _ _ _ _ (by decide), e_putTwo _ (by simp only [List.length_append, List.length_cons, List.length_nil, c1]; omega), Option.bind_some, ← nI_0]
  rw [loopC_app (L_X8_writeTo_42 N a i (fun M21 => some M21)) (fun M21 => some M21) c i 16 4 (encV (cI c 804 a) (cD c v)) (encV_len _ _) ?_ ?_ 16 0 fu _ rfl (by decide) (by simp only [List.length_append, List.length_cons, List.length_nil, c1]; omega)]
  · unfold encR
    congr 2
    simp [List.append_assoc]
  · intro f l'
    rw [L_X8_writeTo_42]
    exact if_pos (nI_le (Nat.le_refl 16) (by decide))
  · intro f k l' hk' hl'
    rw [L_X8_writeTo_42, if_neg (show ¬ (16 : Int32) ≤ nI k from nI_ge (b := 16) hk' (by decide)), gd_ (kk _), sB_I _ _ _ _ (by decide)]
    unfold encV
    by_cases e : ((cI c 804 a >>> (nI k &&& 31)) &&& (1 : Int32)) = (1 : Int32)
    · rw [isInT e, b2_, if_neg (by decide), if_pos e, gd_ (kk _), l1_, show cP (sB c i l') 805 a = some v from hv, Option.bind_some, dGv (show cK (sB c i l') v = 21 from hv1) (show k < cN (sB c i l') v by rw [show cN (sB c i l') v = 16 from hv2]; exact hk') (by omega), Option.bind_some, e_putFour _ (by omega), Option.bind_some, show nI k + (1 : Int32) = nI (k + 1) from nI_add k 1]
      rfl
    · rw [isInF e, b2_, if_pos rfl, if_neg e, List.append_nil, show nI k + (1 : Int32) = nI (k + 1) from nI_add k 1]
/-- a STATE's bytes: index, values, seqs and verdicts, what was written -/
def encS (ix : Nat) (hv : Nat → Int32) (sq : Nat → Nat) (vd wr : Nat → Int32) (V : Nat) : List Nat := encU ix ++ ((List.range' 0 16).flatMap (fun k => be4 (hv k)) ++ ((List.range' 0 16).flatMap (fun s => encU (sq s) ++ [by8 (vd s)]) ++ (List.range' 0 V).flatMap (fun v => be2 (wr v))))
theorem us_len {sq : Nat → Nat} {vd : Nat → Int32} (h : ∀ s, sq s < 2 ^ 31) (s : Nat) : (encU (sq s) ++ [by8 (vd s)]).length ≤ 6 := by
  have := encU_len (h s)
  rw [List.length_append]
  simp
  omega
theorem encS_len {ix : Nat} {hv : Nat → Int32} {sq : Nat → Nat} {vd wr : Nat → Int32} {V : Nat} (h1 : ix < 2 ^ 31) (h2 : ∀ s, sq s < 2 ^ 31) (hV : V ≤ 16) : (encS ix hv sq vd wr V).length ≤ 197 := by
  have a1 := encU_len h1
  have a2 := flatMap_len (B := 4) (fun k => be4 (hv k)) (fun _ => Nat.le_refl 4) 16 0
  have a3 := flatMap_len (B := 6) (fun s => encU (sq s) ++ [by8 (vd s)]) (us_len h2) 16 0
  have a4 := flatMap_len (B := 2) (fun v => be2 (wr v)) (fun _ => Nat.le_refl 2) V 0
  unfold encS
  rw [List.length_append, List.length_append, List.length_append]
  omega
theorem Bts.encS (ix : Nat) (hv : Nat → Int32) (sq : Nat → Nat) (vd wr : Nat → Int32) (V : Nat) : Bts (encS ix hv sq vd wr V) :=
  (Bts.encU _).app ((Bts.flatMap (fun k => Bts.be4 _) _).app ((Bts.flatMap (fun s => (Bts.encU _).app (Bts.one _)) _).app (Bts.flatMap (fun v => Bts.be2 _) _)))
theorem q_St9 {ρ : Type} {kx : vM → Option ρ} {M : vM} {j a : Nat} {hv : Nat → Int32} (hj : j ≠ 38) (hk : mKd j = 21) (ha : a + 66 ≤ mL j) (hL : mL j < 2 ^ 31) (h1 : ∀ k, k < 16 → M.2 j (a + 1 + k) = hv k) {l : List Nat} (hl : l.length + 64 ≤ 2400) : L_X12_layState_9 j (nI a) kx fu (sl M l) 0 = kx (sl M (l ++ (List.range' 0 16).flatMap (fun k => be4 (hv k)))) := by
  rw [← nI_0]
  refine loop_app (L_X12_layState_9 j (nI a) kx) kx M 16 4 (fun k => be4 (hv k)) (fun _ => Nat.le_refl 4) (fun f l' => ?_) (fun f k l' hk' hl' => ?_) 16 0 fu l rfl (by decide) (by omega)
  · rw [L_X12_layState_9]; exact if_pos (nI_le (Nat.le_refl 16) (by decide))
  · rw [L_X12_layState_9, if_neg (show ¬ (16 : Int32) ≤ nI k from nI_ge (b := 16) hk' (by decide)), gd_ hk, show nI a + (1 : Int32) + nI k = nI (a + 1 + k) from by rw [show nI a + (1 : Int32) = nI (a + 1) from nI_add a 1, nI_add], mGv (show a + 1 + k < mL j by omega) (by omega), Option.bind_some, sl_2 _ _ _ hj, h1 k hk', e_layFour _ (by omega), Option.bind_some, show nI k + (1 : Int32) = nI (k + 1) from nI_add k 1]
theorem q_St34 {ρ : Type} {kx : vM → Option ρ} {M : vM} {j a : Nat} {sq : Nat → Nat} {vd : Nat → Int32} (hj : j ≠ 38) (hk : mKd j = 21) (ha : a + 66 ≤ mL j) (hL : mL j < 2 ^ 31) (h2 : ∀ s, s < 16 → M.2 j (a + 17 + s) = nI (sq s)) (b2' : ∀ s, sq s < 2 ^ 31) (h3 : ∀ s, s < 16 → M.2 j (a + 33 + s) = vd s) {l : List Nat} (hl : l.length + 96 ≤ 2400) : L_X12_layState_34 j (nI a) kx fu (sl M l) 0 = kx (sl M (l ++ (List.range' 0 16).flatMap (fun s => encU (sq s) ++ [by8 (vd s)]))) := by
  rw [← nI_0]
  refine loop_app (L_X12_layState_34 j (nI a) kx) kx M 16 6 (fun s => encU (sq s) ++ [by8 (vd s)]) (us_len b2') (fun f l' => ?_) (fun f k l' hk' hl' => ?_) 16 0 fu l rfl (by decide) (by omega)
  · rw [L_X12_layState_34]; exact if_pos (nI_le (Nat.le_refl 16) (by decide))
  · have := encU_len (b2' k)
    rw [L_X12_layState_34, if_neg (show ¬ (16 : Int32) ≤ nI k from nI_ge (b := 16) hk' (by decide)), gd_ hk, show nI a + (17 : Int32) + nI k = nI (a + 17 + k) from by rw [show nI a + (17 : Int32) = nI (a + 17) from nI_add a 17, nI_add], mGv (show a + 17 + k < mL j by omega) (by omega), Option.bind_some, sl_2 _ _ _ hj, h2 k hk', e_layU (b2' k) (by omega), Option.bind_some, gd_ hk, show nI a + (33 : Int32) + nI k = nI (a + 33 + k) from by rw [show nI a + (33 : Int32) = nI (a + 33) from nI_add a 33, nI_add], mGv (show a + 33 + k < mL j by omega) (by omega), Option.bind_some, sl_2 _ _ _ hj, h3 k hk', e_lay _ (by rw [List.length_append]; omega), Option.bind_some, show nI k + (1 : Int32) = nI (k + 1) from nI_add k 1, List.append_assoc]
theorem q_St72 {ρ : Type} {kx : vM → Option ρ} {M : vM} {j a V : Nat} {wr : Nat → Int32} (hj : j ≠ 38) (hk : mKd j = 21) (ha : a + 66 ≤ mL j) (hL : mL j < 2 ^ 31) (hV : M.1 2 = nI V) (hV16 : V ≤ 16) (h4 : ∀ v, v < V → M.2 j (a + 49 + v) = wr v) {l : List Nat} (hl : l.length + 32 ≤ 2400) : L_X12_layState_72 j (nI a) kx fu (sl M l) 0 = kx (sl M (l ++ (List.range' 0 V).flatMap (fun v => be2 (wr v)))) := by
  rw [← nI_0]
  refine loop_app (L_X12_layState_72 j (nI a) kx) kx M V 2 (fun v => be2 (wr v)) (fun _ => Nat.le_refl 2) (fun f l' => ?_) (fun f k l' hk' hl' => ?_) V 0 fu l (by omega) (by show V < 32768; omega) (by omega)
  · rw [L_X12_layState_72, sl_1 _ _ (by decide), hV]; exact if_pos (Int32.le_refl _)
  · rw [L_X12_layState_72, sl_1 _ _ (by decide), hV, if_neg (show ¬ nI V ≤ nI k from nI_ge hk' (by omega)), gd_ hk, show nI a + (49 : Int32) + nI k = nI (a + 49 + k) from by rw [show nI a + (49 : Int32) = nI (a + 49) from nI_add a 49, nI_add], mGv (show a + 49 + k < mL j by omega) (by omega), Option.bind_some, sl_2 _ _ _ hj, h4 k hk', e_layTwo _ (by omega), Option.bind_some, show nI k + (1 : Int32) = nI (k + 1) from nI_add k 1]
theorem e_layState {M : vM} {l : List Nat} {j a ix V : Nat} {hv : Nat → Int32} {sq : Nat → Nat} {vd wr : Nat → Int32} (hj : j ≠ 38) (hk : mKd j = 21) (ha : a + 66 ≤ mL j) (hL : mL j < 2 ^ 31) (hV : M.1 2 = nI V) (hV16 : V ≤ 16) (h0 : M.2 j a = nI ix) (b0 : ix < 2 ^ 31) (h1 : ∀ k, k < 16 → M.2 j (a + 1 + k) = hv k) (h2 : ∀ s, s < 16 → M.2 j (a + 17 + s) = nI (sq s)) (b2' : ∀ s, sq s < 2 ^ 31) (h3 : ∀ s, s < 16 → M.2 j (a + 33 + s) = vd s) (h4 : ∀ v, v < V → M.2 j (a + 49 + v) = wr v) (hl : l.length + 200 ≤ 2400) : F_X12_layState (sl M l) j (nI a) = some (sl M (l ++ encS ix hv sq vd wr V)) := by
  have a1 := encU_len b0
  have a2 := flatMap_len (B := 4) (fun k => be4 (hv k)) (fun _ => Nat.le_refl 4) 16 0
  have a3 := flatMap_len (B := 6) (fun s => encU (sq s) ++ [by8 (vd s)]) (us_len b2') 16 0
  unfold F_X12_layState
  rw [gd_ hk, mGv (show a < mL j by omega) (by omega), Option.bind_some, sl_2 _ _ _ hj, h0, e_layU b0 (by omega), Option.bind_some, q_St9 hj hk ha hL h1 (by rw [List.length_append]; omega), q_St34 hj hk ha hL h2 b2' h3 (by rw [List.length_append, List.length_append]; omega), q_St72 hj hk ha hL hV hV16 h4 (by rw [List.length_append, List.length_append, List.length_append]; omega)]
  unfold encS
  congr 2
  simp only [List.append_assoc]
theorem nI_xor {a b : Nat} : nI a ^^^ nI b = nI (a ^^^ b) := by
  apply Int32.toBitVec_inj.mp
  rw [Int32.toBitVec_xor]
  show BitVec.ofNat 32 a ^^^ BitVec.ofNat 32 b = BitVec.ofNat 32 (a ^^^ b)
  apply BitVec.eq_of_toNat_eq
  rw [BitVec.toNat_xor, BitVec.toNat_ofNat, BitVec.toNat_ofNat, BitVec.toNat_ofNat, ← Nat.xor_mod_two_pow]
theorem fm_n {a b : Nat} (ha : a < 2 ^ 31) (hb : b < 2 ^ 31) : fmI (nI a) (nI b) = nI (a % b) := by
  unfold fmI
  rw [nI_xor, if_pos (nI_pos' (Nat.xor_lt_two_pow ha hb)), nI_rem ha hb]
theorem e_rowOf {N : Nat} {c : vC} {x : Nat} (h : x < 2 ^ 31) : F_X10_rowOf N c (nI x) = some (c, nI (16 * (x % 17))) := by
  unfold F_X10_rowOf
  rw [show fmI (nI x) (17 : Int32) = nI (x % 17) from fm_n (b := 17) h (by decide), show nI (x % 17) * (16 : Int32) = nI (x % 17 * 16) from nI_mul _ 16, Nat.mul_comm]
theorem q_Wt18 {ρ : Type} {N : Nat} {kx : vC → Option ρ} {c : vC} {r i x : Nat} (hx : x ≤ 256) {l : List Nat} (hl : l.length + 64 ≤ 2048) : L_X10_writeTo_18 N r i (nI x) kx fu (sB c i l) 0 = kx (sB c i (l ++ (List.range' 0 16).flatMap (fun k => be4 (cR c 1005 r (x + k))))) := by
  rw [← nI_0]
  refine loopC_app (L_X10_writeTo_18 N r i (nI x) kx) kx c i 16 4 (fun k => be4 (cR c 1005 r (x + k))) (fun _ => Nat.le_refl 4) (fun f l' => ?_) (fun f k l' hk' hl' => ?_) 16 0 fu l rfl (by decide) (by omega)
  · rw [L_X10_writeTo_18]; exact if_pos (nI_le (Nat.le_refl 16) (by decide))
  · rw [L_X10_writeTo_18, if_neg (show ¬ (16 : Int32) ≤ nI k from nI_ge (b := 16) hk' (by decide)), nI_add, cGv (show x + k < al 1005 by show x + k < 272; omega) (by omega), Option.bind_some, sB_R _ _ _ _ _ (by decide), e_putFour _ (by omega), Option.bind_some, show nI k + (1 : Int32) = nI (k + 1) from nI_add k 1]
theorem q_Wt44 {ρ : Type} {N : Nat} {kx : vC → Option ρ} {c : vC} {r i : Nat} {sq : Nat → Nat} (h2 : ∀ s, s < 16 → cR c 1002 r s = nI (sq s)) (b2' : ∀ s, sq s < 2 ^ 31) {l : List Nat} (hl : l.length + 96 ≤ 2048) : L_X10_writeTo_44 N r i kx fu (sB c i l) 0 = kx (sB c i (l ++ (List.range' 0 16).flatMap (fun s => encU (sq s) ++ [by8 (cR c 1003 r s)]))) := by
  rw [← nI_0]
  refine loopC_app (L_X10_writeTo_44 N r i kx) kx c i 16 6 (fun s => encU (sq s) ++ [by8 (cR c 1003 r s)]) (us_len b2') (fun f l' => ?_) (fun f k l' hk' hl' => ?_) 16 0 fu l rfl (by decide) (by omega)
  · rw [L_X10_writeTo_44]; exact if_pos (nI_le (Nat.le_refl 16) (by decide))
  · have := encU_len (b2' k)
    rw [L_X10_writeTo_44, if_neg (show ¬ (16 : Int32) ≤ nI k from nI_ge (b := 16) hk' (by decide)), cGv (show k < al 1002 from hk') (by omega), Option.bind_some, sB_R _ _ _ _ _ (by decide), h2 k hk', e_putU (b2' k) (by omega), Option.bind_some, cGv (show k < al 1003 from hk') (by omega), Option.bind_some, sB_R _ _ _ _ _ (by decide), e_put _ (by rw [List.length_append]; omega), Option.bind_some, show nI k + (1 : Int32) = nI (k + 1) from nI_add k 1, List.append_assoc]
theorem q_Wt78 {ρ : Type} {N : Nat} {kx : vC → Option ρ} {c : vC} {r i V : Nat} (hV : cI c 1000 r = nI V) (hV16 : V ≤ 16) {l : List Nat} (hl : l.length + 32 ≤ 2048) : L_X10_writeTo_78 N r i kx fu (sB c i l) 0 = kx (sB c i (l ++ (List.range' 0 V).flatMap (fun v => be2 (cR c 1004 r v)))) := by
  rw [← nI_0]
  refine loopC_app (L_X10_writeTo_78 N r i kx) kx c i V 2 (fun v => be2 (cR c 1004 r v)) (fun _ => Nat.le_refl 2) (fun f l' => ?_) (fun f k l' hk' hl' => ?_) V 0 fu l (by omega) (by show V < 32768; omega) (by omega)
  · rw [L_X10_writeTo_78, sB_I _ _ _ _ (by decide), hV]; exact if_pos (Int32.le_refl _)
  · rw [L_X10_writeTo_78, sB_I _ _ _ _ (by decide), hV, if_neg (show ¬ nI V ≤ nI k from nI_ge hk' (by omega)), cGv (show k < al 1004 by show k < 16; omega) (by omega), Option.bind_some, sB_R _ _ _ _ _ (by decide), e_putTwo _ (by omega), Option.bind_some, show nI k + (1 : Int32) = nI (k + 1) from nI_add k 1]
theorem e_writeSt {N : Nat} {c : vC} {r i ix V : Nat} {l : List Nat} {sq : Nat → Nat} (hV : cI c 1000 r = nI V) (hV16 : V ≤ 16) (h0 : cI c 1007 r = nI ix) (b0 : ix < 2 ^ 31) (h2 : ∀ s, s < 16 → cR c 1002 r s = nI (sq s)) (b2' : ∀ s, sq s < 2 ^ 31) (hl : l.length + 200 ≤ 2048) : F_X10_writeTo N (sB c i l) r i = some (sB c i (l ++ encS ix (fun k => cR c 1005 r (16 * (ix % 17) + k)) sq (cR c 1003 r) (cR c 1004 r) V)) := by
  have a1 := encU_len b0
  have a2 := flatMap_len (B := 4) (fun k => be4 (cR c 1005 r (16 * (ix % 17) + k))) (fun _ => Nat.le_refl 4) 16 0
  have a3 := flatMap_len (B := 6) (fun s => encU (sq s) ++ [by8 (cR c 1003 r s)]) (us_len b2') 16 0
  unfold F_X10_writeTo
  rw [sB_I _ _ _ _ (by decide), h0, e_putU b0 (by omega), Option.bind_some, sB_I _ _ _ _ (by decide), h0, e_rowOf b0, b2_, q_Wt18 (by omega) (by rw [List.length_append]; omega), q_Wt44 h2 b2' (by rw [List.length_append, List.length_append]; omega), q_Wt78 hV hV16 (by rw [List.length_append, List.length_append, List.length_append]; omega)]
  unfold encS
  congr 2
  simp only [List.append_assoc]
