/-! ===== the reference's checkpoint ===== -/
theorem tr_jnK {σ ρ : Type} {K : σ → Option ρ} {B : (σ → Option ρ) → Option ρ} {Q : ρ → Prop} (P : σ → Prop) (hK : ∀ M, P M → tr (K M) Q) (hB : ∀ k : σ → Option ρ, (∀ M, P M → tr (k M) Q) → tr (B k) Q) : tr (jn K B) Q := by
  rw [jn_]
  exact hB K hK
theorem tr_jnK2 {σ τ ρ : Type} {K : σ → τ → Option ρ} {B : (σ → τ → Option ρ) → Option ρ} {Q : ρ → Prop} (P : σ → τ → Prop) (hK : ∀ M v, P M v → tr (K M v) Q) (hB : ∀ k : σ → τ → Option ρ, (∀ M v, P M v → tr (k M v) Q) → tr (B k) Q) : tr (jn K B) Q := by
  rw [jn_]
  exact hB K hK
def BR (S : Sx) (R : Rp) : Prop := R.1 7 < 2 ^ 30 ∧ R.1 8 ≤ R.1 7 ∧ R.1 7 ≤ R.1 8 + S.V ∧ R.1 10 < 2 ^ 30 ∧ R.1 11 < 2 ^ 30 ∧ R.1 12 < S.1 4
theorem n_1 (R : Rp) (l : List Nt) : (R.n l).1 = R.1 := rfl
theorem n_n (R : Rp) (l m : List Nt) : (R.n l).n m = R.n m := rfl
theorem WM_n0 {M : vM} {S : Sx} {r : Nat} {R : Rp} (h : WM M (S.set r R)) (hr : r < 9) : WM (uE M 30 r 0) (S.set r (R.n [])) := by
  have := WM_set (j := 30) (i := 0) (v := nI 0) (R' := R.n []) h hr (by decide) (RR_n (l := []) (WM_r h hr) (fun k hk => absurd hk (Nat.not_lt_zero _)))
  rw [show zs 30 = 1 from rfl, Nat.one_mul, Nat.add_zero] at this
  exact this
theorem nt_n {R : Rp} {l : List Nt} : (R.n l).2.2.1 = l := rfl
theorem q_c374 {ρ : Type} {kx : vM → Option ρ} {Q : ρ → Prop} {M : vM} {S : Sx} {r : Nat} {R : Rp} {l : List Nt} (h : WM M (S.set r (R.n l))) (hr : r < 9) (hV : S.V ≤ 16) (h8 : R.1 8 ≤ R.1 7) (h7 : R.1 7 < 2 ^ 30) (h16 : R.1 7 ≤ R.1 8 + 16) (hl : l.length ≤ 1) (g : ∀ M', WM M' (S.set r (R.n (l ++ (List.range' (R.1 8) (R.1 7 - R.1 8)).reverse.map (fun i => (5, 0, 0, 0, i))))) → tr (kx M') Q) : tr (L_X12_checkpoint_374 (nI r) kx fu M (nI (R.1 7) - 1)) Q := by
  refine tr_down (g := L_X12_checkpoint_374 (nI r) kx) (fun t M' => t ≤ R.1 7 ∧ WM M' (S.set r (R.n (l ++ (List.range' t (R.1 7 - t)).reverse.map (fun i => (5, 0, 0, 0, i)))))) (R.1 8) (fun f M' hP => ?_) (fun f k M' hk hP ih => ?_) (R.1 7 - R.1 8) (R.1 7) fu M (by omega) (by show _ < 32768; omega) ⟨Nat.le_refl _, by rw [Nat.sub_self, List.range'_zero, List.reverse_nil, List.map_nil, List.append_nil]; exact h⟩
  · obtain ⟨_, p⟩ := hP
    rw [L_X12_checkpoint_374]
    refine tr_Gr p hr rfl ?_
    rw [n_1, if_pos (nI_lt1 _ (by omega))]
    exact g M' p
  · obtain ⟨hk7, p⟩ := hP
    rw [L_X12_checkpoint_374]
    refine tr_Gr p hr rfl ?_
    rw [n_1, if_neg (Int32.not_lt.mpr (nI_le hk (by omega)))]
    have hlen : (l ++ (List.range' (k + 1) (R.1 7 - (k + 1))).reverse.map (fun i => ((5, 0, 0, 0, i) : Nt))).length ≤ 17 := by
      rw [List.length_append, List.length_map, List.length_reverse, List.length_range']
      omega
    refine q_c388 p hr hV (show R.1 8 ≤ k from hk) (show k ≤ R.1 7 by omega) (by omega) (by rw [nt_n]; omega) fun M1 h1 h29 => ?_
    refine tr_bind (r_addNote (n := (5, 0, 0, 0, k)) h1 hr hV (by rw [nt_n]; omega) rfl rfl rfl rfl (fun e => absurd e (show ¬ 5 = 4 by decide)) (fun _ x hx => ?_)) fun M2 h2 => ?_
    · rw [vw_a (by rw [nt_n]; show _ < 6400; omega)]
      exact h29 x hx
    · rw [nI_m1]
      refine ih M2 ⟨by omega, ?_⟩
      rw [n_n, nt_n, List.append_assoc] at h2
      have er : (List.range' k (R.1 7 - k)).reverse = (List.range' (k + 1) (R.1 7 - (k + 1))).reverse ++ [k] := by
        rw [show R.1 7 - k = R.1 7 - (k + 1) + 1 by omega, List.range'_succ, List.reverse_cons]
      rw [er, List.map_append]
      exact h2
theorem ckN_fm (S : Sx) (R : Rp) : (y_ckN R).flatMap S.rec = S.rec (4, 0, 0, 0, R.1 7) ++ ((List.range' (R.1 8) (R.1 7 - R.1 8)).reverse.flatMap (fun i => S.rec (5, 0, 0, 0, i)) ++ ((if 0 < R.1 12 then S.rec (2, R.1 11, R.1 7 + 1, R.1 12, 0) else []) ++ S.rec (1, R.1 10, 0, 0, 0))) := by
  unfold y_ckN
  rw [List.flatMap_cons, List.flatMap_append, List.flatMap_append, List.flatMap_map]
  congr 3
  · split <;> simp
  · simp
theorem im_len {S : Sx} {R : Rp} (hC : Cx S) (hB : BR S R) : ((y_ckN R).flatMap S.rec).length ≤ 206 + 72 * 16 + 206 + 206 := by
  obtain ⟨b1, b2, b3, b4, b5, b6⟩ := hB
  have hV := hC.V
  rw [ckN_fm, List.length_append, List.length_append, List.length_append]
  have a1 := rec_len (n := (4, 0, 0, 0, R.1 7)) hC ⟨(by decide : 1 ≤ 4), (by decide : 4 ≤ 5), (by decide : 0 < 2 ^ 31), (by decide : 0 < 2 ^ 31), (by omega : R.1 7 < 2 ^ 31)⟩
  have a2 := fm_len (B := 72) (f := fun i => S.rec (5, 0, 0, 0, i)) (fun i => Nat.le_of_eq (rec5_len S i)) (List.range' (R.1 8) (R.1 7 - R.1 8)).reverse
  rw [List.length_reverse, List.length_range'] at a2
  have a3 := rec_len (n := (2, R.1 11, R.1 7 + 1, R.1 12, 0)) hC ⟨(by decide : 1 ≤ 2), (by decide : 2 ≤ 5), (by omega : R.1 11 < 2 ^ 31), (by omega : R.1 7 + 1 < 2 ^ 31), (by decide : 0 < 2 ^ 31)⟩
  have a4 := rec_len (n := (1, R.1 10, 0, 0, 0)) hC ⟨(by decide : 1 ≤ 1), (by decide : 1 ≤ 5), (by omega : R.1 10 < 2 ^ 31), (by decide : 0 < 2 ^ 31), (by decide : 0 < 2 ^ 31)⟩
  have a5 : (if 0 < R.1 12 then S.rec (2, R.1 11, R.1 7 + 1, R.1 12, 0) else []).length ≤ 206 := by
    split
    · exact a3
    · exact Nat.zero_le _
  have : 72 * (R.1 7 - R.1 8) ≤ 72 * 16 := by omega
  omega
theorem Bts.im {S : Sx} {R : Rp} (hC : Cx S) (hB : BR S R) : Bts ((y_ckN R).flatMap S.rec) := by
  obtain ⟨b1, b2, b3, b4, b5, b6⟩ := hB
  rw [ckN_fm]
  refine (Bts.rec (n := (4, 0, 0, 0, R.1 7)) hC ⟨(by decide : 1 ≤ 4), (by decide : 4 ≤ 5), (by decide : 0 < 2 ^ 31), (by decide : 0 < 2 ^ 31), (by omega : R.1 7 < 2 ^ 31)⟩).app (Bts.app ?_ (Bts.app ?_ (Bts.rec (n := (1, R.1 10, 0, 0, 0)) hC ⟨(by decide : 1 ≤ 1), (by decide : 1 ≤ 5), (by omega : R.1 10 < 2 ^ 31), (by decide : 0 < 2 ^ 31), (by decide : 0 < 2 ^ 31)⟩)))
  · intro b hb
    rw [List.mem_flatMap] at hb
    obtain ⟨i, hi, hb⟩ := hb
    rw [List.mem_reverse, List.mem_range'_1] at hi
    exact Bts.rec (n := (5, 0, 0, 0, i)) hC ⟨(by decide : 1 ≤ 5), (by decide : 5 ≤ 5), (by decide : 0 < 2 ^ 31), (by decide : 0 < 2 ^ 31), (by omega : i < 2 ^ 31)⟩ b hb
  · split
    · exact Bts.rec (n := (2, R.1 11, R.1 7 + 1, R.1 12, 0)) hC ⟨(by decide : 1 ≤ 2), (by decide : 2 ≤ 5), (by omega : R.1 11 < 2 ^ 31), (by omega : R.1 7 + 1 < 2 ^ 31), (by decide : 0 < 2 ^ 31)⟩
    · exact Bts.nil
theorem ckp_0 {S : Sx} {r : Nat} {R : Rp} (h : R.2.2.1.length < 48) : y_ckp (S.set r R) r = (S.set r R, true) := by
  unfold y_ckp
  rw [set_rp]
  exact if_pos h
theorem ckp_1 {S : Sx} {r : Nat} {R : Rp} (h : ¬ R.2.2.1.length < 48) (c : (y_blk ((y_ckN R).flatMap S.rec) (y_hs (1 - R.1 33)) R (List.range' (y_fb (1 - R.1 33)) ((((y_ckN R).flatMap S.rec).length + 1) / 512 + 1))).2 = false) : y_ckp (S.set r R) r = (y_goDown (S.set r (y_blk ((y_ckN R).flatMap S.rec) (y_hs (1 - R.1 33)) R (List.range' (y_fb (1 - R.1 33)) ((((y_ckN R).flatMap S.rec).length + 1) / 512 + 1))).1) r, false) := by
  have ea := asc_fb (1 - R.1 33) 0 ((y_ckN R).flatMap S.rec).length
  rw [Nat.add_zero, Nat.zero_div, Nat.add_zero, Nat.zero_add, Nat.sub_zero] at ea
  unfold y_ckp
  rw [set_rp]
  dsimp only
  rw [if_neg h, show (S.set r R).rec = S.rec from rfl, ea, c]
  show (y_goDown ((S.set r R).set r _) r, false) = _
  rw [set_set]
theorem ckp_2 {S : Sx} {r : Nat} {R R1 : Rp} (h : ¬ R.2.2.1.length < 48) (c : y_blk ((y_ckN R).flatMap S.rec) (y_hs (1 - R.1 33)) R (List.range' (y_fb (1 - R.1 33)) ((((y_ckN R).flatMap S.rec).length + 1) / 512 + 1)) = (R1, true)) : y_ckp (S.set r R) r = if R1.1 35 = 0 then (y_goDown (S.set r (R1.u 35 y_no)) r, false) else (S.set r (((((y_b1 (headL (nI (R.1 32 + 1)) (nI (1 - R.1 33))) (512 * ((R.1 32 + 1) % 2)) R1 ((R.1 32 + 1) % 2)).u 32 (R.1 32 + 1)).u 33 (1 - R.1 33)).u 31 ((y_ckN R).flatMap S.rec).length).n (y_ckN R)), true) := by
  have ea := asc_fb (1 - R.1 33) 0 ((y_ckN R).flatMap S.rec).length
  rw [Nat.add_zero, Nat.zero_div, Nat.add_zero, Nat.zero_add, Nat.sub_zero] at ea
  unfold y_ckp
  rw [set_rp]
  dsimp only
  rw [if_neg h, show (S.set r R).rec = S.rec from rfl, ea, c]
  dsimp only
  rw [if_pos rfl, y_blk_c]
  by_cases e : R1.1 35 = 0
  · rw [if_pos e, if_pos e]
    show (y_goDown ((S.set r R).set r _) r, false) = _
    rw [set_set]
  · rw [if_neg e, if_neg e]
    show ((S.set r R).set r _, true) = _
    rw [set_set]
    rfl
theorem q_c211z {ρ : Type} {S : Sx} {r hf sz : Nat} {l : List Nat} {kx80 kx88 : vM → Option ρ} {Q : ρ → Prop} (hs : SmS S) (hr : r < 9) (hh : hf ≤ 1) (hl : Bts l) (hll : l.length ≤ 2400) (hsz : sz ≤ 2400) (M : vM) (R : Rp) (h : WM M (S.set r R)) (hd : DuOk R) (g0 : (y_blk l (y_hs hf) R (List.range' (y_fb hf) ((sz + 1) / 512 + 1))).2 = false → ∀ M', WM M' (y_goDown (S.set r (y_blk l (y_hs hf) R (List.range' (y_fb hf) ((sz + 1) / 512 + 1))).1) r) → tr (kx80 M') Q) (g1 : (y_blk l (y_hs hf) R (List.range' (y_fb hf) ((sz + 1) / 512 + 1))).2 = true → ∀ M', kp M' M → WM M' (S.set r (y_blk l (y_hs hf) R (List.range' (y_fb hf) ((sz + 1) / 512 + 1))).1) → tr (kx88 (sl M' l)) Q) : tr (L_X12_checkpoint_211 (nI r) (nI hf) (nI sz) kx80 kx88 fu (sl M l) 0) Q := by
  have := q_c211 (kx80 := kx80) (kx88 := kx88) (Q := Q) hs hr hh hl hll hsz ((sz + 1) / 512 + 1) 0 fu M R (by omega) (by show _ < 32768; omega) h hd g0 g1
  rw [nI_0] at this
  exact this
set_option maxHeartbeats 1000000 in
theorem r_ckp {M : vM} {S : Sx} {r : Nat} {R : Rp} (hC : Cx S) (h : WM M (S.set r R)) (hr : r < 9) (hJ : JR R) (hB : BR S R) (j5 : R.1 32 < 2 ^ 30) : tr (F_X12_checkpoint M (nI r)) (fun p => p.2 = (if (y_ckp (S.set r R) r).2 = true then (1 : Int32) else 0) ∧ WM p.1 (y_ckp (S.set r R) r).1) := by
  have hB' := hB
  obtain ⟨b1, b2, b3, b4, b5, b6⟩ := hB
  obtain ⟨j1, j2, j3, j4⟩ := hJ
  have hV := hC.V
  unfold F_X12_checkpoint
  refine tr_G (show r < 9 from hr) (by omega) ?_
  have e30 := (WM_r h hr).2.2.2.2.2.2.2.2.2.1
  rw [vw_1 rfl] at e30
  rw [e30]
  refine tr_le (a := 48) (by decide) (by omega) (fun c48 => ?_) (fun c48 => ?_)
  · have n48 : ¬ R.2.2.1.length < 48 := by omega
    refine tr_Gr h hr rfl ?_
    have eo : (1 : Int32) - nI (R.1 33) = nI (1 - R.1 33) := nI_sub (a := 1) j1
    rw [eo]
    refine tr_bind (r_store (a := 0) h hr hC (by decide) (by decide) (by decide) (by decide) b1 b2) fun M3 h3 => ?_
    obtain ⟨s1, s2, s3, s4⟩ := h3
    have w3 : WM M3 (S.set r R) := WM_c h (fun f _ => by rw [s1]) (by rw [s1]) (fun j hj => s2 j (fun e => by rw [e] at hj; exact absurd hj (by decide)))
    rw [l1_, sl_0, e_lay _ (by decide), Option.bind_some]
    obtain ⟨i1, i2, i3, i4, i5⟩ := s4
    have sb := fun k => (st_b (V := S.V) (g := S.lg) hC.tb (R.1 7) k).1
    rw [show F_X12_layState (sl M3 ([] ++ [by8 4])) 37 0 = some (sl M3 (([] ++ [by8 4]) ++ encSt S.V (S.sta (R.1 7)) (R.1 7))) from e_layState (a := 0) (by decide) (by decide) (by decide) (by decide) (WM_V w3) hV i1 (by omega) i2 i3 (fun k => Nat.lt_trans (sb k) (by decide)) i4 i5 (by decide), Option.bind_some]
    have e4 : by8 4 = 4 := by decide
    have l4 := encSt_len (V := S.V) (s := S.sta (R.1 7)) (i := R.1 7) (by omega) sb hV
    have ea := e_asRecord (M := M3) (p := []) (x := 4 :: encSt S.V (S.sta (R.1 7)) (R.1 7)) (by simp only [List.length_cons, List.length_nil]; omega)
    rw [List.nil_append, List.nil_append] at ea
    rw [e4, List.nil_append, show [4] ++ encSt S.V (S.sta (R.1 7)) (R.1 7) = 4 :: encSt S.V (S.sta (R.1 7)) (R.1 7) from rfl, show F_X12_asRecord (sl M3 (4 :: encSt S.V (S.sta (R.1 7)) (R.1 7))) 0 = some (sl M3 (recL (4 :: encSt S.V (S.sta (R.1 7)) (R.1 7)))) from ea, Option.bind_some, show recL (4 :: encSt S.V (S.sta (R.1 7)) (R.1 7)) = S.rec (4, 0, 0, 0, R.1 7) from rfl]
    refine tr_Gr (WM_sl w3) hr rfl ?_
    have a1 := rec_len (n := (4, 0, 0, 0, R.1 7)) hC ⟨(by decide : 1 ≤ 4), (by decide : 4 ≤ 5), (by decide : 0 < 2 ^ 31), (by decide : 0 < 2 ^ 31), (by omega : R.1 7 < 2 ^ 31)⟩
    have a2 := fm_len (B := 72) (f := fun i => S.rec (5, 0, 0, 0, i)) (fun i => Nat.le_of_eq (rec5_len S i)) (List.range' (R.1 8) (R.1 7 - R.1 8)).reverse
    rw [List.length_reverse, List.length_range'] at a2
    refine q_c65 w3 hr b2 b1 (by omega) a1 ?_
    have hx0 : (S.rec (4, 0, 0, 0, R.1 7) ++ (List.range' (R.1 8) (R.1 7 - R.1 8)).reverse.flatMap (fun i => S.rec (5, 0, 0, 0, i))).length ≤ 206 + 72 * 16 := by
      rw [List.length_append]
      have : 72 * (R.1 7 - R.1 8) ≤ 72 * 16 := by omega
      omega
    have him := ckN_fm S R
    rw [← List.append_assoc] at him
    generalize hx : S.rec (4, 0, 0, 0, R.1 7) ++ (List.range' (R.1 8) (R.1 7 - R.1 8)).reverse.flatMap (fun i => S.rec (5, 0, 0, 0, i)) = x at hx0 him ⊢
    refine tr_Gr (WM_sl w3) hr rfl ?_
    refine tr_jnK (fun M' => M' = sl M3 (x ++ if 0 < R.1 12 then S.rec (2, R.1 11, R.1 7 + 1, R.1 12, 0) else [])) (fun M28 hM => ?_) (fun k hk => ?_)
    · subst hM
      have a3 : (if 0 < R.1 12 then S.rec (2, R.1 11, R.1 7 + 1, R.1 12, 0) else []).length ≤ 206 := by
        split
        · exact rec_len (n := (2, R.1 11, R.1 7 + 1, R.1 12, 0)) hC ⟨(by decide : 1 ≤ 2), (by decide : 2 ≤ 5), (by omega : R.1 11 < 2 ^ 31), (by omega : R.1 7 + 1 < 2 ^ 31), (by decide : 0 < 2 ^ 31)⟩
        · exact Nat.zero_le _
      have hy0 : (x ++ if 0 < R.1 12 then S.rec (2, R.1 11, R.1 7 + 1, R.1 12, 0) else []).length ≤ 206 + 72 * 16 + 206 := by
        rw [List.length_append]; omega
      rw [← List.append_assoc] at him
      generalize hy : x ++ (if 0 < R.1 12 then S.rec (2, R.1 11, R.1 7 + 1, R.1 12, 0) else []) = y at hy0 him ⊢
      have eu := encU_len (n := R.1 10) (by omega)
      rw [e_lay _ (by omega), Option.bind_some]
      refine tr_Gr (WM_sl w3) hr rfl ?_
      rw [e_layU (by omega) (by rw [List.length_append]; simp only [List.length_cons, List.length_nil]; omega), Option.bind_some, sl_45, List.append_assoc, e_asRecord (by simp only [List.length_append, List.length_cons, List.length_nil]; omega), Option.bind_some]
      have e1 : by8 1 = 1 := by decide
      rw [e1, show recL ([1] ++ encU (R.1 10)) = S.rec (1, R.1 10, 0, 0, 0) from rfl, ← him, sl_45]
      have hil := im_len hC hB'
      have hib := Bts.im hC hB'
      refine q_c211z hC.s hr (by omega) hib (by omega) (by omega) M3 R w3 j4 (fun c M' h' => ?_) (fun c M' kp' h' => ?_)
      · rw [ckp_1 n48 c]; exact tr_z0 (tr_some ⟨rfl, h'⟩)
      · obtain ⟨a1, a2, a3, a4⟩ := blk_o ((y_ckN R).flatMap S.rec) (y_hs (1 - R.1 33)) (List.range' (y_fb (1 - R.1 33)) ((((y_ckN R).flatMap S.rec).length + 1) / 512 + 1)) R
        rw [ckp_2 n48 (R1 := (y_blk ((y_ckN R).flatMap S.rec) (y_hs (1 - R.1 33)) R (List.range' (y_fb (1 - R.1 33)) ((((y_ckN R).flatMap S.rec).length + 1) / 512 + 1))).1) (Prod.ext rfl c)]
        have d1 := a4 j4
        generalize (y_blk ((y_ckN R).flatMap S.rec) (y_hs (1 - R.1 33)) R (List.range' (y_fb (1 - R.1 33)) ((((y_ckN R).flatMap S.rec).length + 1) / 512 + 1))).1 = R1 at a1 a2 a3 d1 h' ⊢
        generalize him' : (y_ckN R).flatMap S.rec = im at hil hib ⊢
        refine tr_Gr (WM_sl h') hr rfl ?_
        rw [a1 32 (by decide) (by decide), show nI (R.1 32) + (1 : Int32) = nI (R.1 32 + 1) from nI_add _ 1, e_layHead, Option.bind_some]
        refine tr_Gr (WM_sl (WM_sl h')) hr rfl ?_
        rw [a1 32 (by decide) (by decide), show nI (R.1 32) + (1 : Int32) = nI (R.1 32 + 1) from nI_add _ 1, show nI (R.1 32 + 1) - nI (R.1 32 + 1) / (2 : Int32) * (2 : Int32) = nI ((R.1 32 + 1) % 2) from nI_rem (b := 2) (by omega) (by decide)]
        have hhl : (headL (nI (R.1 32 + 1)) (nI (1 - R.1 33))).length ≤ 2400 := (Nat.le_of_ble_eq_true rfl)
        refine tr_b2 (r_putBlock (b := (R.1 32 + 1) % 2) (f := 0) (g := 0) (start := 512 * ((R.1 32 + 1) % 2)) hC.s (WM_sl h') hr (by omega) (by omega) (by omega) (Bts.headL _ _) hhl d1 rfl rfl (by decide)) fun M1 v hv => ?_
        rcases hv with ⟨c, e, h1⟩ | ⟨c, e, M2, e2, k2, h1⟩
        · dsimp only at e h1
          subst e
          rw [if_pos rfl, if_pos c]
          exact tr_z0 (tr_some ⟨rfl, h1⟩)
        · dsimp only at e e2
          subst e; subst e2
          rw [if_neg (by decide), if_neg c]
          have eR : ∀ f, f ≠ 34 → f ≠ 35 → (y_b1 (headL (nI (R.1 32 + 1)) (nI (1 - R.1 33))) (512 * ((R.1 32 + 1) % 2)) R1 ((R.1 32 + 1) % 2)).1 f = R.1 f := fun f h1 h2 => (b1_o h1 h2).trans (a1 f h1 h2)
          generalize y_b1 (headL (nI (R.1 32 + 1)) (nI (1 - R.1 33))) (512 * ((R.1 32 + 1) % 2)) R1 ((R.1 32 + 1) % 2) = R2 at h1 eR ⊢
          refine tr_Gr (WM_sl h1) hr rfl ?_
          rw [eR 32 (by decide) (by decide), show nI (R.1 32) + (1 : Int32) = nI (R.1 32 + 1) from nI_add _ 1]
          refine tr_S (show r < 9 from hr) (by omega) ?_
          refine tr_S (show r < 9 from hr) (by omega) ?_
          refine tr_S (show r < 9 from hr) (by omega) ?_
          refine tr_S (show r < 9 from hr) (by omega) ?_
          have u1 := WM_u (j := 32) (v := R.1 32 + 1) (WM_sl (l := headL (nI (R.1 32 + 1)) (nI (1 - R.1 33))) h1) hr rfl (by decide) (by decide) (by decide)
          have u2 := WM_u (j := 33) (v := 1 - R.1 33) u1 hr rfl (by decide) (by decide) (by decide)
          have u3 := WM_u (j := 31) (v := im.length) u2 hr rfl (by decide) (by decide) (by decide)
          have u4 := WM_n0 u3 hr
          have e7 : (((R2.u 32 (R.1 32 + 1)).u 33 (1 - R.1 33)).u 31 im.length).1 7 = R.1 7 := eR 7 (by decide) (by decide)
          have e8 : (((R2.u 32 (R.1 32 + 1)).u 33 (1 - R.1 33)).u 31 im.length).1 8 = R.1 8 := eR 8 (by decide) (by decide)
          have e10 : (((R2.u 32 (R.1 32 + 1)).u 33 (1 - R.1 33)).u 31 im.length).1 10 = R.1 10 := eR 10 (by decide) (by decide)
          have e11 : (((R2.u 32 (R.1 32 + 1)).u 33 (1 - R.1 33)).u 31 im.length).1 11 = R.1 11 := eR 11 (by decide) (by decide)
          have e12 : (((R2.u 32 (R.1 32 + 1)).u 33 (1 - R.1 33)).u 31 im.length).1 12 = R.1 12 := eR 12 (by decide) (by decide)
          generalize ((R2.u 32 (R.1 32 + 1)).u 33 (1 - R.1 33)).u 31 im.length = R3 at u4 e7 e8 e10 e11 e12 ⊢
          refine q_c322 u4 hr hV rfl fun M54 w54 h29 => ?_
          have h37 : ∀ x, x < 100 → vw M54 r 29 x = M3.2 37 x := fun x hx => by
            rw [vw_a (show x < 6400 by omega), show zs 29 = 6400 from rfl, h29 x hx, uE_j _ _ _ (by decide), uE_j _ _ _ (by decide), uE_j _ _ _ (by decide), uE_j _ _ _ (by decide), sl_2 _ _ _ (by decide), k2 37 (by decide) (by decide) (by decide), sl_2 _ _ _ (by decide), kp' 37 (by decide) (by decide) (by decide)]
          refine tr_bind (r_addNote (n := (4, 0, 0, 0, R.1 7)) w54 hr hV (show 0 < 64 by decide) rfl rfl rfl rfl (fun _ => ?_) (fun e => absurd e (show ¬ 4 = 5 by decide))) fun M55 w55 => ?_
          · refine ⟨?_, fun k hk => ?_, fun k hk => ?_, fun k hk => ?_, fun v hv => ?_⟩
            · exact (h37 0 (by decide)).trans i1
            · exact (h37 (0 + 1 + k) (by omega)).trans (i2 k hk)
            · exact (h37 (0 + 17 + k) (by omega)).trans (i3 k hk)
            · exact (h37 (0 + 33 + k) (by omega)).trans (i4 k hk)
            · exact (h37 (0 + 49 + v) (by omega)).trans (i5 v hv)
          · refine tr_Gr w55 hr rfl ?_
            refine q_c374 (R := R3) (l := [(4, 0, 0, 0, R.1 7)]) w55 hr hV (by omega) (by omega) (by omega) (Nat.le_refl 1) fun M67 w67 => ?_
            refine tr_Gr w67 hr rfl ?_
            rw [n_1, e12]
            refine tr_jnK (fun M' => WM M' (S.set r (R3.n (([(4, 0, 0, 0, R.1 7)] ++ (List.range' (R3.1 8) (R3.1 7 - R3.1 8)).reverse.map (fun i => (5, 0, 0, 0, i))) ++ if 0 < R.1 12 then [(2, R.1 11, R.1 7 + 1, R.1 12, 0)] else [])))) (fun M75 w75 => ?_) (fun k hk => ?_)
            · refine tr_Gr w75 hr rfl ?_
              rw [n_1, e10]
              have hln : ([((4, 0, 0, 0, R.1 7) : Nt)] ++ (List.range' (R3.1 8) (R3.1 7 - R3.1 8)).reverse.map (fun i => (5, 0, 0, 0, i)) ++ if 0 < R.1 12 then [(2, R.1 11, R.1 7 + 1, R.1 12, 0)] else []).length < 64 := by
                rw [List.length_append, List.length_append, List.length_map, List.length_reverse, List.length_range', e7, e8]
                split <;> simp only [List.length_cons, List.length_nil] <;> omega
              refine tr_bind (r_addNote (n := (1, R.1 10, 0, 0, 0)) w75 hr hV hln rfl rfl rfl rfl (fun e => absurd e (show ¬ 1 = 4 by decide)) (fun e => absurd e (show ¬ 1 = 5 by decide))) fun M77 w77 => ?_
              refine tr_z1 (tr_some ⟨rfl, ?_⟩)
              rw [n_n, nt_n, e7, e8, List.append_assoc, List.append_assoc] at w77
              exact w77
            · refine tr_le (a := R.1 12) (b := 0) (by have := hC.nr; omega) (by decide) (fun c => ?_) (fun c => ?_)
              · refine hk _ ?_
                rw [if_neg (by omega), List.append_nil]
                exact w67
              · refine tr_Gr w67 hr rfl ?_
                refine tr_Gr w67 hr rfl ?_
                refine tr_Gr w67 hr rfl ?_
                rw [n_1, e11, e7, e12, show nI (R.1 7) + (1 : Int32) = nI (R.1 7 + 1) from nI_add _ 1]
                have hln : ([((4, 0, 0, 0, R.1 7) : Nt)] ++ (List.range' (R3.1 8) (R3.1 7 - R3.1 8)).reverse.map (fun i => (5, 0, 0, 0, i))).length < 64 := by
                  rw [List.length_append, List.length_map, List.length_reverse, List.length_range', e7, e8]
                  simp only [List.length_cons, List.length_nil]
                  omega
                refine tr_bind (r_addNote (n := (2, R.1 11, R.1 7 + 1, R.1 12, 0)) w67 hr hV hln rfl rfl rfl rfl (fun e => absurd e (show ¬ 2 = 4 by decide)) (fun e => absurd e (show ¬ 2 = 5 by decide))) fun M73 w73 => ?_
                refine hk _ ?_
                rw [if_pos c]
                exact w73
    · refine tr_le (a := R.1 12) (b := 0) (by have := hC.nr; omega) (by decide) (fun c => ?_) (fun c => ?_)
      · refine hk _ ?_
        rw [if_neg (by omega), List.append_nil]
      · refine tr_Gr (WM_sl w3) hr rfl ?_
        refine tr_Gr (WM_sl w3) hr rfl ?_
        refine tr_Gr (WM_sl w3) hr rfl ?_
        have lp := (pay_len (V := S.V) (tb := S.tb) (g := S.lg) (n := (2, R.1 11, R.1 7 + 1, R.1 12, 0)) hC.tb hV ⟨(by decide : 1 ≤ 2), (by decide : 2 ≤ 5), (by omega : R.1 11 < 2 ^ 31), (by omega : R.1 7 + 1 < 2 ^ 31), (by decide : 0 < 2 ^ 31)⟩).1
        rw [r_layAcc (S := S.set r R) (l := x) (c2 := nI (R.1 7) + 1) (b := R.1 11) (s := R.1 7 + 1) hC w3 c b6 (by omega) (by omega) (by omega) rfl (nI_add _ 1), Option.bind_some, sl_45, e_asRecord (by have : (y_pay (S.set r R).V (S.set r R).tb (S.set r R).sta (2, R.1 11, R.1 7 + 1, R.1 12, 0)).length ≤ 198 := lp; omega), Option.bind_some]
        refine hk _ ?_
        rw [if_pos c]
        rfl
  · rw [ckp_0 c48]
    exact tr_z1 (tr_some ⟨rfl, h⟩)
