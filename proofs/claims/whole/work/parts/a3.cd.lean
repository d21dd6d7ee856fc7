/-! ===== the class: a checkpoint ===== -/
theorem e_startPay {N : Nat} {c : vC} {r : Nat} {p : List Nat} {k : Int32} : F_X7_startPayload N (sB c 2 p) r k = some (sB (sB (uI c 2 1 0) 2 p) 1 [by8 k]) := by
  unfold F_X7_startPayload
  rw [e_clear, Option.bind_some, uI_sB _ _ _ _ (by decide), e_put _ (by decide), Option.bind_some, List.nil_append]
theorem encS_c {ix V : Nat} {hv hv' : Nat → Int32} {sq : Nat → Nat} {vd vd' wr wr' : Nat → Int32} (h1 : ∀ k, k < 16 → hv k = hv' k) (h2 : ∀ k, k < 16 → vd k = vd' k) (h3 : ∀ v, v < V → wr v = wr' v) : encS ix hv sq vd wr V = encS ix hv' sq vd' wr' V := by
  unfold encS
  rw [flatMap_eq (f := fun k => be4 (hv k)) (g := fun k => be4 (hv' k)) (fun j _ hj => by rw [h1 j (by omega)]), flatMap_eq (f := fun s => encU (sq s) ++ [by8 (vd s)]) (g := fun s => encU (sq s) ++ [by8 (vd' s)]) (fun j _ hj => by rw [h2 j (by omega)]), flatMap_eq (f := fun v => be2 (wr v)) (g := fun v => be2 (wr' v)) (fun j _ hj => by rw [h3 j (by omega)])]
theorem c_writeSt {mm : Kp} {N : Nat} {c : vC} {S : Sx} {r i : Nat} {R : Rp} {l : List Nat} (hC : Cx S) (h : WC mm c (S.set r R)) (hr : r < S.N) (h6 : R.1 6 = 1) (h7 : R.1 7 < 2 ^ 30) (h8 : R.1 8 ≤ R.1 7) (hl : l.length + 200 ≤ 2048) : F_X10_writeTo N (sB c i l) r i = some (sB c i (l ++ S.enc (R.1 7))) := by
  obtain ⟨s1, s2, s3, s4, s5, s6, s7, s8⟩ := WC_st h hr h6
  rw [e_writeSt (V := S.V) (ix := R.1 7) (sq := (S.sta (R.1 7)).2.1) (WC_a h hr).1.1.1 hC.V s1 (by omega) s4 (fun s => Nat.lt_trans (sta_b hC _ s) (by decide)) hl]
  congr 3
  exact encS_c (fun k hk => s7 _ k h8 (Nat.le_refl _) hk) s5 s6
theorem e_writeVa {mm : Kp} {N : Nat} {c : vC} {S : Sx} {r i x : Nat} {R : Rp} {l : List Nat} (h : WC mm c (S.set r R)) (hr : r < S.N) (h6 : R.1 6 = 1) (hx : x < 2 ^ 30) (h8 : R.1 8 ≤ x) (h7 : x ≤ R.1 7) (hl : l.length + 64 ≤ 2048) : F_X10_writeValuesTo N (sB c i l) r i (nI x) = some (sB c i (l ++ encVa (S.sta x).1)) := by
  obtain ⟨s1, s2, s3, s4, s5, s6, s7, s8⟩ := WC_st h hr h6
  unfold F_X10_writeValuesTo
  rw [e_rowOf (by omega), b2_]
  have q : L_X10_writeValuesTo_8 N r i (nI (16 * (x % 17))) (fun M6 => some M6) fu (sB c i l) 0 = some (sB c i (l ++ (List.range' 0 16).flatMap (fun k => be4 (cR c 1005 r (16 * (x % 17) + k))))) := by
    rw [← nI_0]
    refine loopC_app (L_X10_writeValuesTo_8 N r i (nI (16 * (x % 17))) (fun M6 => some M6)) (fun M6 => some M6) c i 16 4 (fun k => be4 (cR c 1005 r (16 * (x % 17) + k))) (fun _ => Nat.le_refl 4) (fun f l' => ?_) (fun f k l' hk' hl' => ?_) 16 0 fu l rfl (by decide) (by omega)
    · rw [L_X10_writeValuesTo_8]; exact if_pos (nI_le (Nat.le_refl 16) (by decide))
    · rw [L_X10_writeValuesTo_8, if_neg (show ¬ (16 : Int32) ≤ nI k from nI_ge (b := 16) hk' (by decide)), nI_add, cGv (show 16 * (x % 17) + k < al 1005 by show _ < 272; omega) (by omega), Option.bind_some, sB_R _ _ _ _ _ (by decide), e_putFour _ (by omega), Option.bind_some, show nI k + (1 : Int32) = nI (k + 1) from nI_add k 1]
  rw [q]
  congr 3
  exact flatMap_eq (fun j _ hj => by rw [s7 x j h8 h7 (by omega)])
theorem c_writeReq {N : Nat} {c : vC} {S : Sx} {i a q : Nat} {l : List Nat} (hC : Cx S) (h : RqA c a (S.tb q)) (hl : l.length + 80 ≤ 2048) : F_X8_writeTo N (sB c i l) a i = some (sB c i (l ++ encQ (S.tb q))) := by
  obtain ⟨h1, h2, h3, h4, h5, h6, h7, v, h8, h9, h10, h11, h12⟩ := h
  obtain ⟨b1, b2, b3⟩ := hC.tb q
  rw [e_writeReq (sq := (S.tb q).1 1) (sn := (S.tb q).1 2) h2 h4 h5 (by omega) (by omega) h8 h10 h11 hl, h3, h6, h7]
  congr 3
  unfold encQ encR
  rw [flatMap_eq (f := encV ((S.tb q).2.1 4) (cD c v)) (g := encV ((S.tb q).2.1 4) (S.tb q).2.2) (fun j _ hj => ?_)]
  unfold encV
  split
  · rename_i e
    rw [h12 j (by omega) e]
  · rfl
theorem RqA_B {c : vC} {a i : Nat} {q : Rq} {l : List Nat} (h : RqA c a q) : RqA (sB c i l) a q := h.c (zc_B (r := 0)).1
/-- one record more in the image -/
theorem c_rec {ρ : Type} {mm : Kp} {N : Nat} {c : vC} {S : Sx} {r : Nat} {R : Rp} {p x : List Nat} {n : Nt} {m : Nat} {K : vC → Option ρ} {Q : ρ → Prop} (hC : Cx S) (h : WC mm c (S.set r R)) (hn : NbOk n) (ex : x = y_pay S.V S.tb S.sta n) (hp : Bts p) (hl : p.length + 214 ≤ 2048) (h2 : cI c 202 r = nI m) (g : ∀ c', WC mm c' (S.set r R) → cI c' 202 r = nI (m + 1) → cI c' 203 r = nI (p ++ S.rec n).length → tr (K (sB c' 2 (p ++ S.rec n))) Q) : tr ((F_X2_addRecord N (sB (sB c 2 p) 1 x) r 1).bind K) Q := by
  have hpl : x.length ≤ 198 := by rw [ex]; exact (pay_len (g := S.lg) (tb := S.tb) hC.tb hC.V hn).1
  have hxb : Bts x := by rw [ex]; exact Bts.pay
  rw [e_rec hxb (by omega) hp (by omega), Option.bind_some, sB_comm _ _ x (by decide), show recL x = S.rec n from by rw [ex]; rfl]
  refine g _ (WC_B (WC_20 (WC_20 h (Or.inl rfl)) (Or.inr rfl))) ?_ ?_
  · rw [sB_I _ _ _ _ (by decide), uI_f _ _ _ (by decide), uI_s, h2, nI_add1]
  · rw [sB_I _ _ _ _ (by decide), uI_s]
theorem q_ck58 {ρ : Type} {mm : Kp} {N : Nat} {S : Sx} {r : Nat} {R : Rp} {kx : vC → Option ρ} {Q : ρ → Prop} (hC : Cx S) (hr : r < S.N) (h6 : R.1 6 = 1) (h7 : R.1 7 < 2 ^ 30) : ∀ (d fl m : Nat) (c : vC) (p : List Nat), R.1 8 + d ≤ R.1 7 → d < fl → WC mm c (S.set r R) → cI c 202 r = nI m → Bts p → p.length + 72 * d + 214 ≤ 2048 → (∀ c', WC mm c' (S.set r R) → cI c' 202 r = nI (m + d) → tr (kx (sB c' 2 (p ++ (List.range' (R.1 8) d).reverse.flatMap (fun i => S.rec (5, 0, 0, 0, i))))) Q) → tr (L_X7_checkpointIfDue_58 N r kx fl (sB c 2 p) (nI (R.1 8 + d) - 1)) Q := by
  intro d
  induction d with
  | zero =>
    intro fl m c p h1 h2 h hm hp hl g
    obtain ⟨fl, rfl⟩ : ∃ f', fl = f' + 1 := ⟨fl - 1, by omega⟩
    have e8 : cI (sB c 2 p) 1008 r = nI (R.1 8) := (WC_st (WC_B h) hr h6).2.1
    have cc : nI (R.1 8 + 0) - 1 < nI (R.1 8) := by
      rw [Nat.add_zero]
      by_cases e : R.1 8 = 0
      · rw [e]; decide
      · have : nI (R.1 8) = nI (R.1 8 - 1 + 1) := by congr 1; omega
        rw [this, nI_p1]
        exact Int32.not_le.mp (nI_ge (by omega) (by omega))
    rw [L_X7_checkpointIfDue_58, e8, if_pos cc]
    have := g c h hm
    rw [show (List.range' (R.1 8) 0).reverse.flatMap (fun i => S.rec (5, 0, 0, 0, i)) = [] from rfl, List.append_nil] at this
    exact this
  | succ d ih =>
    intro fl m c p h1 h2 h hm hp hl g
    obtain ⟨fl, rfl⟩ : ∃ f', fl = f' + 1 := ⟨fl - 1, by omega⟩
    have e8 : cI (sB c 2 p) 1008 r = nI (R.1 8) := (WC_st (WC_B h) hr h6).2.1
    rw [show nI (R.1 8 + (d + 1)) - 1 = nI (R.1 8 + d) from nI_p1 _, L_X7_checkpointIfDue_58, e8, if_neg (show ¬ nI (R.1 8 + d) < nI (R.1 8) from Int32.not_lt.mpr (nI_le (by omega) (by omega))), nI_m1, e_startPay, Option.bind_some]
    have w1 := WC_B (i := 2) (l := p) (WC_2 (f := 2) (i := 1) (v := 0) h (by decide))
    have k1 : cI (uI c 2 1 0) 202 r = nI m := by rw [uI_f _ _ _ (by decide)]; exact hm
    rw [e_writeVa w1 hr h6 (by omega) (by omega) (by omega) (Nat.le_of_ble_eq_true rfl), Option.bind_some]
    refine c_rec (n := (5, 0, 0, 0, R.1 8 + d)) hC (WC_2 (f := 2) (i := 1) (v := 0) h (by decide)) ⟨(by decide : 1 ≤ 5), (by decide : 5 ≤ 5), (by decide : 0 < 2 ^ 31), (by decide : 0 < 2 ^ 31), (by omega : R.1 8 + d < 2 ^ 31)⟩ rfl hp (by omega) k1 fun c' w' k' _ => ?_
    have hrl := rec5_len S (R.1 8 + d)
    refine ih fl (m + 1) c' (p ++ S.rec (5, 0, 0, 0, R.1 8 + d)) (by omega) (by omega) w' k' (hp.app (Bts.rec hC ⟨(by decide : 1 ≤ 5), (by decide : 5 ≤ 5), (by decide : 0 < 2 ^ 31), (by decide : 0 < 2 ^ 31), (by omega : R.1 8 + d < 2 ^ 31)⟩)) (by rw [List.length_append]; omega) fun c2 w2 k2 => ?_
    have := g c2 w2 (by rw [k2]; congr 1; omega)
    rw [rev_c, List.flatMap_cons, ← List.append_assoc] at this
    exact this
theorem q_wh {ρ : Type} {mm : Kp} {N : Nat} {S : Sx} {r start last : Nat} {l l' : List Nat} {kx51 kx65 : vC → Option ρ} {Q : ρ → Prop} (hr : r < S.N) (hl : ∀ k, byA l' k = byA l k) (hla : last < 64) : ∀ (d t fl : Nat) (c : vC) (R : Rp), t + d = last + 1 → start ≤ 512 * (t + 1) → d < fl → WC mm c (S.set r R) → inB c 2 l' → DuOk R → ((y_blk l start R (List.range' t d)).2 = false → ∀ c', WC mm c' (S.set r (y_blk l start R (List.range' t d)).1) → tr (kx51 c') Q) → ((y_blk l start R (List.range' t d)).2 = true → ∀ c', WC mm c' (S.set r (y_blk l start R (List.range' t d)).1) → (∀ k, k ≠ 204 → k ≠ 205 → cI c' k r = cI c k r) → tr (kx65 c') Q) → tr (L_X2_writeHalf_39 N r (nI start) (nI last) kx51 kx65 fl c (nI t)) Q := by
  intro d
  induction d with
  | zero =>
    intro t fl c R h1 hs h3 h hi hd g0 g1
    obtain ⟨fl, rfl⟩ : ∃ f', fl = f' + 1 := ⟨fl - 1, by omega⟩
    rw [L_X2_writeHalf_39, if_pos (Int32.not_le.mp (nI_ge (show last < t by omega) (by omega)))]
    exact g1 rfl c h (fun _ _ _ => rfl)
  | succ d ih =>
    intro t fl c R h1 hs h3 h hi hd g0 g1
    obtain ⟨fl, rfl⟩ : ∃ f', fl = f' + 1 := ⟨fl - 1, by omega⟩
    rw [L_X2_writeHalf_39, if_neg (Int32.not_lt.mpr (nI_le (show t ≤ last by omega) (by omega))), show nI t + (1 : Int32) = nI (t + 1) from nI_add1 t]
    rw [List.range'_succ, y_blk_c] at g0 g1
    refine c_blk (l := l) h hr hi hl (by omega) hs hd (fun c0 c' w => ?_) (fun c0 c' w hi' eI _ => ?_)
    · rw [if_pos c0] at g0
      exact g0 rfl c' w
    · rw [if_neg c0] at g0 g1
      exact ih (t + 1) fl c' _ (by omega) (by omega) (by omega) w hi' (b1_35 hd) g0 (fun q c2 w2 e2 => g1 q c2 w2 (fun k k1 k2 => (e2 k k1 k2).trans (eI k k1 k2)))
/-- the head is written -/
theorem c_head {mm : Kp} {N : Nat} {c : vC} {S : Sx} {r m : Nat} {R : Rp} {l : List Nat} {nl : List Nt} (h : WC mm c (S.set r R)) (hr : r < S.N) (h6 : R.1 6 = 1) (hi : inB c 2 l) (hd : DuOk R) (h33 : R.1 33 ≤ 1) (h32 : R.1 32 < 2 ^ 30) (e2 : cI c 202 r = nI nl.length) (e3 : cI c 203 r = nI m) : tr (F_X2_writeHead N c r) (fun p => (R.1 35 = 0 ∧ p.2 = 0 ∧ WC mm p.1 (S.set r (R.u 35 y_no))) ∨ (¬ R.1 35 = 0 ∧ p.2 = 1 ∧ WC mm p.1 (S.set r (((((y_b1 l (512 * ((R.1 32 + 1) % 2)) R ((R.1 32 + 1) % 2)).u 32 (R.1 32 + 1)).u 33 (1 - R.1 33)).u 31 m).n nl)))) := by
  have e5 : cI c 205 r = nI (R.1 35) := (WC_a h hr).1.2.1 205 35 rfl
  have e4 : cI c 204 r = nI (R.1 34) := (WC_a h hr).1.2.1 204 34 rfl
  have hdk := (WC_a h hr).1.2.2
  unfold F_X2_writeHead
  by_cases c0 : R.1 35 = 0
  · rw [e_crash0 (by rw [e5, c0]; rfl), b2_, if_neg (by decide)]
    refine tr_z0 (tr_some (Or.inl ⟨c0, rfl, WC_al h (zc_I rfl) (fun k _ h2 => uI_f _ _ _ h2) rfl (fun _ _ => rfl) rfl ?_ ?_ hdk (fun f _ h2 => u_n _ _ h2) rfl rfl⟩))
    · show cI (uI c 205 r (-1)) 204 r = _
      rw [uI_f _ _ _ (by decide), e4]; rfl
    · show cI (uI c 205 r (-1)) 205 r = _
      rw [uI_s]; rfl
  · have hne : ¬ cI c 205 r = 0 := by
      rw [e5]
      intro e
      have h32 : R.1 35 < 2 ^ 32 := by
        have hd' : R.1 35 < 2 ^ 30 ∨ R.1 35 = y_no := hd
        have : y_no = 4294967295 := rfl
        omega
      exact c0 (nI_inj (b := 0) h32 (by decide) e)
    rw [e_crash1 hne, b2_, if_pos rfl]
    have w1 : WC mm (uI (uI c 205 r (dueN' (cI c 205 r))) 204 r (cI c 204 r + 1)) (S.set r ((R.u 35 (if R.1 35 = y_no then y_no else R.1 35 - 1)).u 34 (R.1 34 + 1))) := by
      refine WC_al h ((zc_I rfl).tr (zc_I rfl)) (fun k h1 h2 => by rw [uI_f _ _ _ h1, uI_f _ _ _ h2]) rfl (fun _ _ => rfl) rfl ?_ ?_ hdk (fun f h1 h2 => by rw [u_n _ _ h1, u_n _ _ h2]) rfl rfl
      · rw [uI_s, e4]; exact nI_add1 _
      · rw [uI_f _ _ _ (by decide), uI_s, e5]; exact dueN_n c0 hd
    have k2 : cI (uI (uI c 205 r (dueN' (cI c 205 r))) 204 r (cI c 204 r + 1)) 202 r = nI nl.length := by rw [uI_f _ _ _ (by decide), uI_f _ _ _ (by decide)]; exact e2
    have k3 : cI (uI (uI c 205 r (dueN' (cI c 205 r))) 204 r (cI c 204 r + 1)) 203 r = nI m := by rw [uI_f _ _ _ (by decide), uI_f _ _ _ (by decide)]; exact e3
    have hi' : inB (uI (uI c 205 r (dueN' (cI c 205 r))) 204 r (cI c 204 r + 1)) 2 l := by
      obtain ⟨i1, i2, i3, i4⟩ := hi
      exact ⟨by rw [uI_f _ _ _ (by decide), uI_f _ _ _ (by decide)]; exact i1, i2, i3, i4⟩
    generalize uI (uI c 205 r (dueN' (cI c 205 r))) 204 r (cI c 204 r + 1) = c1 at w1 k2 k3 hi' ⊢
    have h6' : ((R.u 35 (if R.1 35 = y_no then y_no else R.1 35 - 1)).u 34 (R.1 34 + 1)).1 6 = 1 := h6
    have a8 : cI c1 208 r = nI (R.1 32) := (WC_i w1 hr h6' (show sci 208 = some 32 from rfl)).trans rfl
    have a9 : cI c1 209 r = nI (R.1 33) := (WC_i w1 hr h6' (show sci 209 = some 33 from rfl)).trans rfl
    refine tr_l1 (tr_l1 (tr_l1 (tr_l1 ?_)))
    have es33 : (1 : Int32) - nI (R.1 33) = nI (1 - R.1 33) := nI_sub (a := 1) h33
    rw [a8, nI_add1, uI_f _ _ _ (show 209 ≠ 208 by decide), a9, es33, uI_f _ _ _ (show 203 ≠ 209 by decide), uI_f _ _ _ (show 203 ≠ 208 by decide), k3, uI_f _ _ _ (show 202 ≠ 207 by decide), uI_f _ _ _ (show 202 ≠ 209 by decide), uI_f _ _ _ (show 202 ≠ 208 by decide), k2]
    have w2 := WC_nt (l := nl) (WC_I (v := m) (WC_I (v := 1 - R.1 33) (WC_I (v := R.1 32 + 1) w1 (show sci 208 = some 32 from rfl)) (show sci 209 = some 33 from rfl)) (show sci 207 = some 31 from rfl))
    have b8 : cI (uI (uI (uI (uI c1 208 r (nI (R.1 32 + 1))) 209 r (nI (1 - R.1 33))) 207 r (nI m)) 206 r (nI nl.length)) 208 r = nI (R.1 32 + 1) := by rw [uI_f _ _ _ (by decide), uI_f _ _ _ (by decide), uI_f _ _ _ (by decide), uI_s]
    have hi2 : inB (uI (uI (uI (uI c1 208 r (nI (R.1 32 + 1))) 209 r (nI (1 - R.1 33))) 207 r (nI m)) 206 r (nI nl.length)) 2 l := by
      obtain ⟨i1, i2, i3, i4⟩ := hi'
      exact ⟨by rw [uI_f _ _ _ (by decide), uI_f _ _ _ (by decide), uI_f _ _ _ (by decide), uI_f _ _ _ (by decide)]; exact i1, i2, i3, i4⟩
    generalize uI (uI (uI (uI c1 208 r (nI (R.1 32 + 1))) 209 r (nI (1 - R.1 33))) 207 r (nI m)) 206 r (nI nl.length) = c2 at w2 b8 hi2 ⊢
    rw [b8, nI_odd, show nI ((R.1 32 + 1) % 2) * (512 : Int32) = nI (512 * ((R.1 32 + 1) % 2)) from by rw [Nat.mul_comm]; exact nI_mul _ 512]
    obtain ⟨J, ep, hJ⟩ := e_place (N := N) (c := c2) (r := r) (b := (R.1 32 + 1) % 2) (s := 512 * ((R.1 32 + 1) % 2)) hi2 (by omega) (by omega)
    rw [ep, Option.bind_some]
    have hdk2 := (WC_a w2 hr).1.2.2
    refine tr_z1 (tr_some (Or.inr ⟨c0, rfl, WC_al w2 zc_J (fun _ _ _ => rfl) rfl (fun _ _ => rfl) rfl ?_ ?_ (fun a ha => ?_) (fun _ _ _ => rfl) rfl rfl⟩))
    · exact (WC_a w2 hr).1.2.1 204 34 rfl
    · exact (WC_a w2 hr).1.2.1 205 35 rfl
    · show dk (cJ (sJc c2 r J) r) a = y_plc R.2.2.2 l ((R.1 32 + 1) % 2) (512 * ((R.1 32 + 1) % 2)) a
      rw [sJc_J, hJ a ha, hdk2 a ha]
      rfl
