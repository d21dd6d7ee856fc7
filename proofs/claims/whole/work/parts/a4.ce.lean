/-! ===== the class: a checkpoint, whole; promises; what is accepted ===== -/
theorem oc_n {α β : Type} (a : β) (f : α → β) : oc none a f = a := rfl
theorem oc_s {α β : Type} (x : α) (a : β) (f : α → β) : oc (some x) a f = f x := rfl
theorem ckN_len' (R : Rp) : (y_ckN R).length = 1 + (R.1 7 - R.1 8) + (if 0 < R.1 12 then 1 else 0) + 1 := by
  unfold y_ckN
  rw [List.length_cons, List.length_append, List.length_append, List.length_map, List.length_reverse, List.length_range']
  split <;> simp only [List.length_cons, List.length_nil] <;> omega
set_option maxHeartbeats 1000000 in
theorem c_ckp {mm : Kp} {N : Nat} {c : vC} {S : Sx} {r : Nat} {R : Rp} (hC : Cx S) (h : WC mm c (S.set r R)) (hr : r < S.N) (h6 : R.1 6 = 1) (hJ : JR R) (hB : BR S R) (j5 : R.1 32 < 2 ^ 30) : tr (F_X7_checkpointIfDue N c r) (fun p => p.2 = (if (y_ckp (S.set r R) r).2 = true then (1 : Int32) else 0) ∧ WC mm p.1 (y_ckp (S.set r R) r).1) := by
  obtain ⟨b1, b2, b3, b4, b5, b6⟩ := hB
  obtain ⟨j1, j2, j3, j4⟩ := hJ
  have hV := hC.V
  have hr9 : r < 9 := by have := hC.N; omega
  have e206 := ((WC_a h hr).2 h6).2.2.2.1
  unfold F_X7_checkpointIfDue
  rw [e206]
  refine tr_le (a := 48) (by decide) (by omega) (fun c48 => ?_) (fun c48 => by rw [ckp_0 c48]; exact tr_z1 (tr_some ⟨rfl, h⟩))
  have cn : ¬ R.2.2.1.length < 48 := by omega
  have himl := im_len hC (R := R) ⟨b1, b2, b3, b4, b5, b6⟩
  have himb := Bts.im hC (R := R) ⟨b1, b2, b3, b4, b5, b6⟩
  have him := ckN_fm S R
  have n4 : NbOk (4, 0, 0, 0, R.1 7) := ⟨(by decide : 1 ≤ 4), (by decide : 4 ≤ 5), (by decide : 0 < 2 ^ 31), (by decide : 0 < 2 ^ 31), (by omega : R.1 7 < 2 ^ 31)⟩
  have n2 : NbOk (2, R.1 11, R.1 7 + 1, R.1 12, 0) := ⟨(by decide : 1 ≤ 2), (by decide : 2 ≤ 5), (by omega : R.1 11 < 2 ^ 31), (by omega : R.1 7 + 1 < 2 ^ 31), (by decide : 0 < 2 ^ 31)⟩
  have n1 : NbOk (1, R.1 10, 0, 0, 0) := ⟨(by decide : 1 ≤ 1), (by decide : 1 ≤ 5), (by omega : R.1 10 < 2 ^ 31), (by decide : 0 < 2 ^ 31), (by decide : 0 < 2 ^ 31)⟩
  unfold F_X2_startImage
  rw [e_clear, Option.bind_some, l1_, uI_sB _ _ _ _ (by decide), Option.bind_some, e_startPay, Option.bind_some]
  have w1 := WC_2 (f := 2) (i := 1) (v := 0) (WC_20 (f := 202) (v := 0) (WC_2 (f := 2) (i := 2) (v := 0) h (by decide)) (Or.inl rfl)) (by decide)
  have k1 : cI (uI (uI (uI c 2 2 0) 202 r 0) 2 1 0) 202 r = nI 0 := by rw [uI_f _ _ _ (by decide), uI_s]; rfl
  generalize uI (uI (uI c 2 2 0) 202 r 0) 2 1 0 = c1 at w1 k1 ⊢
  rw [c_writeSt hC (WC_B w1) hr h6 b1 b2 (Nat.le_of_ble_eq_true rfl), Option.bind_some]
  refine c_rec (n := (4, 0, 0, 0, R.1 7)) hC w1 n4 rfl Bts.nil (Nat.le_of_ble_eq_true rfl) k1 fun c2 w2 k2 _ => ?_
  rw [List.nil_append]
  have hl4 := rec_len hC n4
  have e7 : cI (sB c2 2 (S.rec (4, 0, 0, 0, R.1 7))) 1007 r = nI (R.1 8 + (R.1 7 - R.1 8)) := by
    rw [WC_ix (WC_B w2) hr h6]; congr 1; omega
  rw [e7]
  refine q_ck58 hC hr h6 b1 (R.1 7 - R.1 8) fu (0 + 1) c2 _ (by omega) (by show _ < 32768; omega) w2 k2 (Bts.rec hC n4) (by omega) fun c3 w3 k3 => ?_
  have hl5 : ((List.range' (R.1 8) (R.1 7 - R.1 8)).reverse.flatMap (fun i => S.rec (5, 0, 0, 0, i))).length ≤ 72 * (R.1 7 - R.1 8) := by
    have a2 := fm_len (B := 72) (f := fun i => S.rec (5, 0, 0, 0, i)) (fun i => Nat.le_of_eq (rec5_len S i)) (List.range' (R.1 8) (R.1 7 - R.1 8)).reverse
    rw [List.length_reverse, List.length_range'] at a2; exact a2
  have hb5 : Bts ((List.range' (R.1 8) (R.1 7 - R.1 8)).reverse.flatMap (fun i => S.rec (5, 0, 0, 0, i))) := by
    intro b hb
    rw [List.mem_flatMap] at hb
    obtain ⟨i, hi, hb⟩ := hb
    rw [List.mem_reverse, List.mem_range'_1] at hi
    exact Bts.rec (n := (5, 0, 0, 0, i)) hC ⟨(by decide : 1 ≤ 5), (by decide : 5 ≤ 5), (by decide : 0 < 2 ^ 31), (by decide : 0 < 2 ^ 31), (by omega : i < 2 ^ 31)⟩ b hb
  have hb45 := (Bts.rec hC n4).app hb5
  have hl45 : (S.rec (4, 0, 0, 0, R.1 7) ++ (List.range' (R.1 8) (R.1 7 - R.1 8)).reverse.flatMap (fun i => S.rec (5, 0, 0, 0, i))).length ≤ 206 + 72 * 16 := by
    rw [List.length_append]; omega
  rw [← List.append_assoc] at him
  generalize S.rec (4, 0, 0, 0, R.1 7) ++ (List.range' (R.1 8) (R.1 7 - R.1 8)).reverse.flatMap (fun i => S.rec (5, 0, 0, 0, i)) = p45 at him hb45 hl45 ⊢
  refine tr_l1 ?_
  have hl2 := rec_len hC n2
  refine tr_jnK (fun M => ∃ c4, M = sB c4 2 (p45 ++ (if 0 < R.1 12 then S.rec (2, R.1 11, R.1 7 + 1, R.1 12, 0) else [])) ∧ WC mm c4 (S.set r R) ∧ cI c4 202 r = nI (0 + 1 + (R.1 7 - R.1 8) + (if 0 < R.1 12 then 1 else 0))) (fun M hM => ?_) (fun k hk => ?_)
  · obtain ⟨c4, rfl, w4, k4⟩ := hM
    have hbp : Bts (p45 ++ (if 0 < R.1 12 then S.rec (2, R.1 11, R.1 7 + 1, R.1 12, 0) else [])) := hb45.app (by
      split
      · exact Bts.rec hC n2
      · exact Bts.nil)
    have hlp : (p45 ++ (if 0 < R.1 12 then S.rec (2, R.1 11, R.1 7 + 1, R.1 12, 0) else [])).length ≤ 206 + 72 * 16 + 206 := by
      rw [List.length_append]
      split
      · omega
      · show _ + 0 ≤ _; omega
    rw [← List.append_assoc] at him
    generalize p45 ++ (if 0 < R.1 12 then S.rec (2, R.1 11, R.1 7 + 1, R.1 12, 0) else []) = p2 at him hbp hlp ⊢
    rw [e_startPay, Option.bind_some]
    have w5 := WC_2 (f := 2) (i := 1) (v := 0) w4 (by decide)
    have k5 : cI (uI c4 2 1 0) 202 r = nI (0 + 1 + (R.1 7 - R.1 8) + (if 0 < R.1 12 then 1 else 0)) := by rw [uI_f _ _ _ (by decide)]; exact k4
    rw [show cI (sB (sB (uI c4 2 1 0) 2 p2) 1 [by8 1]) 712 r = nI (R.1 10) from WC_i (WC_B (WC_B w5)) hr h6 rfl, e_putU (by omega) (Nat.le_of_ble_eq_true rfl), Option.bind_some]
    refine c_rec (n := (1, R.1 10, 0, 0, 0)) hC w5 n1 rfl hbp (by omega) k5 fun c6 w6 k6 q6 => ?_
    rw [← him] at q6 ⊢
    have eN : 0 + 1 + (R.1 7 - R.1 8) + (if 0 < R.1 12 then 1 else 0) + 1 = (y_ckN R).length := by rw [ckN_len']
    rw [eN] at k6
    generalize hI : (y_ckN R).flatMap S.rec = im at himl himb q6 ⊢
    refine tr_b2 (P := fun p => p.2 = (if (y_blk im (y_hs (1 - R.1 33)) R (List.range' (y_fb (1 - R.1 33)) ((im.length + 1) / 512 + 1))).2 = true then (1 : Int32) else 0) ∧ WC mm p.1 (S.set r (y_blk im (y_hs (1 - R.1 33)) R (List.range' (y_fb (1 - R.1 33)) ((im.length + 1) / 512 + 1))).1) ∧ ((y_blk im (y_hs (1 - R.1 33)) R (List.range' (y_fb (1 - R.1 33)) ((im.length + 1) / 512 + 1))).2 = true → cI p.1 202 r = nI (y_ckN R).length ∧ cI p.1 203 r = nI im.length)) ?_ fun c7 v hv => ?_
    · unfold F_X2_writeHalf
      have e209 : cI (sB c6 2 im) 209 r = nI (R.1 33) := WC_i (WC_B w6) hr h6 rfl
      rw [e209, show (1 : Int32) - nI (R.1 33) = nI (1 - R.1 33) from nI_sub (a := 1) j1]
      refine c_startOf (by omega) ?_
      unfold F_X2_closeImage
      rw [sB_1, show nI im.length + (2 : Int32) = nI (im.length + 2) from nI_add _ 2, if_neg (show ¬ (15872 : Int32) < nI (im.length + 2) from Int32.not_lt.mpr (nI_le (b := 15872) (by omega) (by decide))), e_put _ (by omega), Option.bind_some, e_put _ (by rw [List.length_append]; show _ + 1 < 2048; omega), Option.bind_some, Option.bind_some]
      have ebl : im ++ [by8 (0 : Int32)] ++ [by8 (0 : Int32)] = im ++ [0, 0] := by
        rw [List.append_assoc]; rfl
      rw [ebl, sB_1]
      have hlen : (im ++ [0, 0]).length = im.length + 2 := by rw [List.length_append]; rfl
      have hi : inB (sB c6 2 (im ++ [0, 0])) 2 (im ++ [0, 0]) := inB_sB (by omega) (himb.app (Bts.cons (by decide) (Bts.cons (by decide) Bts.nil)))
      have hw := WC_B (i := 2) (l := im ++ [0, 0]) w6
      have q202 : cI (sB c6 2 (im ++ [0, 0])) 202 r = nI (y_ckN R).length := by rw [sB_I _ _ _ _ (by decide), k6]
      have q203 : cI (sB c6 2 (im ++ [0, 0])) 203 r = nI im.length := by rw [sB_I _ _ _ _ (by decide), q6]
      generalize sB c6 2 (im ++ [0, 0]) = c8 at hi hw q202 q203 ⊢
      have hfb := fb_le (1 - R.1 33)
      have hfs := hs_fb (1 - R.1 33)
      rw [hlen, nI_add, show nI (y_hs (1 - R.1 33) + (im.length + 2)) - (1 : Int32) = nI (y_hs (1 - R.1 33) + im.length + 1) from by rw [show y_hs (1 - R.1 33) + (im.length + 2) = (y_hs (1 - R.1 33) + im.length + 1) + 1 by omega]; exact nI_p1 _, show nI (y_hs (1 - R.1 33) + im.length + 1) / (512 : Int32) = nI ((y_hs (1 - R.1 33) + im.length + 1) / 512) from nI_div (b := 512) (by omega) (by decide), show nI (y_hs (1 - R.1 33)) / (512 : Int32) = nI (y_hs (1 - R.1 33) / 512) from nI_div (b := 512) (by omega) (by decide), show y_hs (1 - R.1 33) / 512 = y_fb (1 - R.1 33) by omega]
      refine q_wh (l := im) hr (fun k => byA_app (n := 0) (fun _ _ => trivial) k) (by omega) ((im.length + 1) / 512 + 1) (y_fb (1 - R.1 33)) fu c8 R (by omega) (by omega) (by show _ < 32768; omega) hw hi j4 (fun c0 c' w => ?_) (fun c0 c' w eI => ?_)
      · rw [c0]
        exact tr_z0 (tr_some ⟨rfl, w, fun q => absurd q (by decide)⟩)
      · rw [c0]
        exact tr_z1 (tr_some ⟨rfl, w, fun _ => ⟨(eI 202 (by decide) (by decide)).trans q202, (eI 203 (by decide) (by decide)).trans q203⟩⟩)
    · obtain ⟨e1, w7, g7⟩ := hv
      dsimp only at e1 w7 g7
      rw [e1]
      refine tr_if (fun c0 => ?_) (fun c0 => ?_)
      · rw [ckp_1 cn (by rw [hI]; exact c0), hI]
        refine tr_bind (c_goDown hC.s w7 hr9 hr) fun c9 w9 => ?_
        exact tr_z0 (tr_some ⟨rfl, w9⟩)
      · obtain ⟨g2, g3⟩ := g7 c0
        obtain ⟨a1, a2, a3, a4⟩ := blk_o im (y_hs (1 - R.1 33)) (List.range' (y_fb (1 - R.1 33)) ((im.length + 1) / 512 + 1)) R
        have ec := ckp_2 (r := r) (S := S) (R := R) (R1 := (y_blk im (y_hs (1 - R.1 33)) R (List.range' (y_fb (1 - R.1 33)) ((im.length + 1) / 512 + 1))).1) cn (by rw [hI]; exact Prod.ext rfl c0)
        rw [ec, hI]
        generalize (y_blk im (y_hs (1 - R.1 33)) R (List.range' (y_fb (1 - R.1 33)) ((im.length + 1) / 512 + 1))).1 = R1 at w7 a1 a2 a3 a4 ⊢
        have r32 : R1.1 32 = R.1 32 := a1 32 (by decide) (by decide)
        have r33 : R1.1 33 = R.1 33 := a1 33 (by decide) (by decide)
        have r6 : R1.1 6 = 1 := (a1 6 (by decide) (by decide)).trans h6
        rw [WC_i w7 hr r6 (show sci 208 = some 32 from rfl), WC_i w7 hr r6 (show sci 209 = some 33 from rfl), r32, r33, nI_add1, show (1 : Int32) - nI (R.1 33) = nI (1 - R.1 33) from nI_sub (a := 1) j1, e_makeHead, Option.bind_some]
        have w8 := WC_B (i := 2) (l := headL (nI (R.1 32 + 1)) (nI (1 - R.1 33))) (WC_2 (f := 2) (i := 2) (v := 0) w7 (by decide))
        have hh : (headL (nI (R.1 32 + 1)) (nI (1 - R.1 33))).length ≤ 2048 := Nat.le_of_ble_eq_true rfl
        refine tr_b2 (c_head (nl := y_ckN R) (m := im.length) w8 hr r6 (inB_sB hh (Bts.headL _ _)) (a4 j4) (by rw [r33]; exact j1) (by rw [r32]; exact j5) (by rw [sB_I _ _ _ _ (by decide), uI_f _ _ _ (by decide)]; exact g2) (by rw [sB_I _ _ _ _ (by decide), uI_f _ _ _ (by decide)]; exact g3)) fun c9 v9 hv9 => ?_
        rcases hv9 with ⟨d0, e9, w9⟩ | ⟨d0, e9, w9⟩
        · dsimp only at e9 w9
          subst e9
          rw [if_pos d0, if_pos rfl]
          refine tr_bind (c_goDown hC.s w9 hr9 hr) fun c10 w10 => ?_
          exact tr_z0 (tr_some ⟨rfl, w10⟩)
        · dsimp only at e9 w9
          subst e9
          rw [if_neg d0, if_neg (by decide)]
          rw [r32, r33] at w9
          exact tr_z1 (tr_some ⟨rfl, w9⟩)
  · have hp := WC_p (WC_B (i := 2) (l := p45) w3) hr h6 (show pci 713 = some 12 from rfl)
    by_cases q0 : R.1 12 = 0
    · rw [hp.1 q0, oc_n]
      refine hk _ ⟨c3, ?_, w3, ?_⟩
      · rw [if_neg (by omega), List.append_nil]
      · rw [if_neg (by omega)]; exact k3
    · obtain ⟨a, ea, ha⟩ := hp.2 (by omega)
      rw [ea, oc_s, e_startPay, Option.bind_some]
      have w5 := WC_2 (f := 2) (i := 1) (v := 0) w3 (by decide)
      have k5 : cI (uI c3 2 1 0) 202 r = nI (0 + 1 + (R.1 7 - R.1 8)) := by rw [uI_f _ _ _ (by decide)]; exact k3
      have e714 : cI (sB (sB (uI c3 2 1 0) 2 p45) 1 [by8 2]) 714 r = nI (R.1 11) := ((WC_a (WC_B (WC_B w5)) hr).2 h6).2.2.1 (by omega)
      have hu1 := encU_len (n := R.1 11) (by omega)
      have hu2 := encU_len (n := R.1 7 + 1) (by omega)
      rw [e714, e_putU (by omega) (Nat.le_of_ble_eq_true rfl), Option.bind_some, WC_ix (WC_B (WC_B w5)) hr h6, nI_add1, e_putU (by omega) (by rw [List.length_append]; show 1 + _ + 5 ≤ 2048; omega), Option.bind_some]
      refine tr_l1 ?_
      have e713 : cP (sB (sB (uI c3 2 1 0) 2 p45) 1 ([by8 2] ++ encU (R.1 11) ++ encU (R.1 7 + 1))) 713 r = some a := ea
      rw [e713, Option.bind_some]
      have ha2 : RqA (sB (uI c3 2 1 0) 2 p45) a (S.tb (R.1 12)) := RqA.c (c := sB c3 2 p45) ha ((zc_B (r := r)).1.tr ((zc_2 (r := r) (by decide)).1.tr ⟨Nat.le_refl _, fun x hx => ⟨rfl, rfl, rfl, fun f f1 f2 => (sB_I _ _ _ _ (by omega)).symm, rfl⟩, fun q => q⟩))
      refine tr_gd ha2.2.1 ?_
      rw [c_writeReq hC ha2 (by rw [List.length_append, List.length_append]; show 1 + _ + _ + 80 ≤ 2048; omega), Option.bind_some]
      refine c_rec (n := (2, R.1 11, R.1 7 + 1, R.1 12, 0)) hC w5 n2 (by rw [List.append_assoc, List.append_assoc]; rfl) hb45 (by omega) k5 fun c6 w6 k6 _ => ?_
      refine hk _ ⟨c6, ?_, w6, ?_⟩
      · rw [if_pos (by omega)]
      · rw [if_pos (by omega)]; exact k6
