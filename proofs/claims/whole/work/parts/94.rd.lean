/-! ===== the reference accepts and proposes ===== -/
theorem ckN_len {S : Sx} {R : Rp} (hB : BR S R) (hV : S.V ≤ 16) : (y_ckN R).length ≤ 19 := by
  obtain ⟨b1, b2, b3, b4, b5, b6⟩ := hB
  unfold y_ckN
  rw [List.length_cons, List.length_append, List.length_append, List.length_map, List.length_reverse, List.length_range']
  split <;> simp only [List.length_cons, List.length_nil] <;> omega
theorem ckp_t {S : Sx} {r : Nat} {R : Rp} (h : (y_ckp (S.set r R) r).2 = true) : ∃ R', (y_ckp (S.set r R) r).1 = S.set r R' ∧ (∀ f, f ≠ 31 → f ≠ 32 → f ≠ 33 → f ≠ 34 → f ≠ 35 → R'.1 f = R.1 f) ∧ R'.2.1 = R.2.1 ∧ R'.1 32 ≤ R.1 32 + 1 ∧ (Cx S → JR R → BR S R → JR R' ∧ R'.2.2.1.length < 48) := by
  by_cases c : R.2.2.1.length < 48
  · rw [ckp_0 c]
    exact ⟨R, rfl, fun _ _ _ _ _ _ => rfl, rfl, Nat.le_add_right _ _, fun _ hJ _ => ⟨hJ, c⟩⟩
  · cases c2 : (y_blk ((y_ckN R).flatMap S.rec) (y_hs (1 - R.1 33)) R (List.range' (y_fb (1 - R.1 33)) ((((y_ckN R).flatMap S.rec).length + 1) / 512 + 1))).2
    · rw [ckp_1 c c2] at h
      exact absurd (show false = true from h) (by decide)
    · obtain ⟨a1, a2, a3, a4⟩ := blk_o ((y_ckN R).flatMap S.rec) (y_hs (1 - R.1 33)) (List.range' (y_fb (1 - R.1 33)) ((((y_ckN R).flatMap S.rec).length + 1) / 512 + 1)) R
      have e := ckp_2 (r := r) c (Prod.ext rfl c2 : y_blk ((y_ckN R).flatMap S.rec) (y_hs (1 - R.1 33)) R (List.range' (y_fb (1 - R.1 33)) ((((y_ckN R).flatMap S.rec).length + 1) / 512 + 1)) = ((y_blk ((y_ckN R).flatMap S.rec) (y_hs (1 - R.1 33)) R (List.range' (y_fb (1 - R.1 33)) ((((y_ckN R).flatMap S.rec).length + 1) / 512 + 1))).1, true))
      rw [e] at h ⊢
      generalize (y_blk ((y_ckN R).flatMap S.rec) (y_hs (1 - R.1 33)) R (List.range' (y_fb (1 - R.1 33)) ((((y_ckN R).flatMap S.rec).length + 1) / 512 + 1))).1 = R1 at a1 a2 a3 a4 h ⊢
      by_cases c3 : R1.1 35 = 0
      · rw [if_pos c3] at h
        exact absurd (show false = true from h) (by decide)
      · rw [if_neg c3]
        refine ⟨_, rfl, fun f f1 f2 f3 f4 f5 => ?_, a2, Nat.le_refl _, fun hC hJ hB => ⟨⟨?_, ?_, ?_, ?_⟩, ?_⟩⟩
        · exact (u_n _ _ f1).trans ((u_n _ _ f3).trans ((u_n _ _ f2).trans ((b1_o f4 f5).trans (a1 f f4 f5))))
        · show 1 - R.1 33 ≤ 1; omega
        · show ((y_ckN R).flatMap S.rec).length ≤ 206 * (y_ckN R).length
          obtain ⟨b1, b2, b3, b4, b5, b6⟩ := hB
          have : ∀ l : List Nt, (∀ n, n ∈ l → (S.rec n).length ≤ 206) → (l.flatMap S.rec).length ≤ 206 * l.length := by
            intro l
            induction l with
            | nil => intro _; exact Nat.zero_le _
            | cons a l ih =>
              intro hl
              rw [List.flatMap_cons, List.length_append, List.length_cons, Nat.mul_succ]
              have h1 := hl a (List.mem_cons_self ..)
              have h2 := ih (fun n hn => hl n (List.mem_cons_of_mem _ hn))
              omega
          refine this _ fun n hn => rec_len hC ?_
          unfold y_ckN at hn
          rcases List.mem_cons.mp hn with rfl | hn
          · exact ⟨(by decide : 1 ≤ 4), (by decide : 4 ≤ 5), (by decide : 0 < 2 ^ 31), (by decide : 0 < 2 ^ 31), (by omega : R.1 7 < 2 ^ 31)⟩
          · rcases List.mem_append.mp hn with hn | hn
            · obtain ⟨i, hi, rfl⟩ := List.mem_map.mp hn
              rw [List.mem_reverse, List.mem_range'_1] at hi
              exact ⟨(by decide : 1 ≤ 5), (by decide : 5 ≤ 5), (by decide : 0 < 2 ^ 31), (by decide : 0 < 2 ^ 31), (by omega : i < 2 ^ 31)⟩
            · rcases List.mem_append.mp hn with hn | hn
              · split at hn
                · rw [List.mem_singleton.mp hn]
                  exact ⟨(by decide : 1 ≤ 2), (by decide : 2 ≤ 5), (by omega : R.1 11 < 2 ^ 31), (by omega : R.1 7 + 1 < 2 ^ 31), (by decide : 0 < 2 ^ 31)⟩
                · exact absurd hn (by simp)
              · rw [List.mem_singleton.mp hn]
                exact ⟨(by decide : 1 ≤ 1), (by decide : 1 ≤ 5), (by omega : R.1 10 < 2 ^ 31), (by decide : 0 < 2 ^ 31), (by decide : 0 < 2 ^ 31)⟩
        · show (y_ckN R).length ≤ 48
          have := ckN_len hB hC.V; omega
        · exact DuOk_b1 (a4 hJ.2.2.2) (headL (nI (R.1 32 + 1)) (nI (1 - R.1 33))) (512 * ((R.1 32 + 1) % 2)) ((R.1 32 + 1) % 2)
        · show (y_ckN R).length < 48
          have := ckN_len hB hC.V; omega
theorem r_accept {M : vM} {S : Sx} {r b q : Nat} {R : Rp} (h : WM M (S.set r R)) (hr : r < 9) : tr (F_X12_accept M (nI r) (nI b) (nI q)) (fun M' => WM M' (S.set r ((R.u 11 b).u 12 q))) := by
  unfold F_X12_accept
  refine tr_Sr b h hr rfl (by decide) (by decide) (by decide) fun M1 h1 => ?_
  refine tr_Sr q h1 hr rfl (by decide) (by decide) (by decide) fun M2 h2 => ?_
  exact tr_some h2
theorem note_J {S : Sx} {R R' : Rp} {n : Nt} (hJ : JR R) (hl : R.2.2.1.length < 48) (hr : (S.rec n).length ≤ 206) (e1 : ∀ f, f ≠ 31 → f ≠ 34 → f ≠ 35 → R'.1 f = R.1 f) (e2 : R'.1 31 = R.1 31 + (S.rec n).length) (e3 : R'.2.2.1 = R.2.2.1 ++ [n]) (e4 : DuOk R → DuOk R') : JR R' := by
  obtain ⟨j1, j2, j3, j4⟩ := hJ
  have hlen : R'.2.2.1.length = R.2.2.1.length + 1 := by rw [e3, List.length_append]; rfl
  refine ⟨by rw [e1 33 (by decide) (by decide) (by decide)]; exact j1, ?_, by omega, e4 j4⟩
  rw [e2, hlen, Nat.mul_succ]
  omega
theorem acc_eq {S : Sx} {r b q : Nat} {R R' : Rp} (c : (y_note (S.set r R) r (2, b, R.1 7 + 1, q, 0)).2 = true) (e : (y_note (S.set r R) r (2, b, R.1 7 + 1, q, 0)).1 = S.set r R') : y_accepts (S.set r R) r b q = y_ckp (S.set r (((R'.u 10 b).u 11 b).u 12 q)) r := by
  unfold y_accepts
  rw [set_rp]
  dsimp only
  rw [if_pos c, e, set_rp, set_set]
theorem acc_eq0 {S : Sx} {r b q : Nat} {R : Rp} (c : (y_note (S.set r R) r (2, b, R.1 7 + 1, q, 0)).2 = false) : y_accepts (S.set r R) r b q = ((y_note (S.set r R) r (2, b, R.1 7 + 1, q, 0)).1, false) := by
  unfold y_accepts
  rw [set_rp]
  dsimp only
  rw [if_neg (by rw [c]; decide)]
theorem BR_c {S : Sx} {R R' : Rp} (h : BR S R) (e7 : R'.1 7 = R.1 7) (e8 : R'.1 8 = R.1 8) (e10 : R'.1 10 = R.1 10) (e11 : R'.1 11 = R.1 11) (e12 : R'.1 12 = R.1 12) : BR S R' := by
  unfold BR at h ⊢
  rw [e7, e8, e10, e11, e12]; exact h
theorem tr_zb {b : Bool} {M : vM} {Q : vM × Int32 → Prop} (h : Q (M, if b = true then 1 else 0)) : tr (zb (if b = true then (1 : Int32) else 0) (some (M, if b = true then (1 : Int32) else 0))) Q := by
  cases b
  · exact tr_z0 (tr_some h)
  · exact tr_z1 (tr_some h)
theorem r_accepts {M : vM} {S : Sx} {r b q : Nat} {R : Rp} (hC : Cx S) (h : WM M (S.set r R)) (hr : r < 9) (hJ : JR R) (hl : R.2.2.1.length < 48) (hB : BR S R) (hg : R.1 32 < 2 ^ 30) (h0 : 0 < q) (hq : q < S.1 4) (hb : b < 2 ^ 30) : tr (F_X12_accepts M (nI r) (nI b) (nI q)) (fun p => p.2 = (if (y_accepts (S.set r R) r b q).2 = true then (1 : Int32) else 0) ∧ WM p.1 (y_accepts (S.set r R) r b q).1) := by
  obtain ⟨b1, b2, b3, b4, b5, b6⟩ := hB
  have hV := hC.V
  have hn : NbOk (2, b, R.1 7 + 1, q, 0) := ⟨(by decide : 1 ≤ 2), (by decide : 2 ≤ 5), (by omega : b < 2 ^ 31), (by omega : R.1 7 + 1 < 2 ^ 31), (by decide : 0 < 2 ^ 31)⟩
  unfold F_X12_accepts
  rw [l1_, sl_0]
  refine tr_Gr (WM_sl h) hr rfl ?_
  rw [nI_add1, r_layAcc (S := S.set r R) (b := b) (s := R.1 7 + 1) (l := []) hC h h0 hq (by omega) (by omega) (Nat.le_of_ble_eq_true rfl) rfl rfl, Option.bind_some, List.nil_append]
  refine tr_Gr (WM_sl h) hr rfl ?_
  rw [nI_add1]
  refine tr_b2 (r_note (S := S) (n := (2, b, R.1 7 + 1, q, 0)) hC h hr hJ hl hn rfl rfl rfl rfl (fun e => absurd e (show ¬ 2 = 4 by decide)) (fun e => absurd e (show ¬ 2 = 5 by decide))) fun M1 v hv => ?_
  obtain ⟨e1, w1⟩ := hv
  dsimp only at e1 w1
  rw [e1]
  refine tr_if (fun c => ?_) (fun c => ?_)
  · rw [acc_eq0 c]
    exact tr_z0 (tr_some ⟨rfl, w1⟩)
  · obtain ⟨R', eR, f1, f2, f3, f4, f5⟩ := note_t c
    rw [acc_eq c eR]
    rw [eR] at w1
    have f7 : R'.1 7 = R.1 7 := f1 7 (by decide) (by decide) (by decide)
    have f8 : R'.1 8 = R.1 8 := f1 8 (by decide) (by decide) (by decide)
    have f32 : R'.1 32 = R.1 32 := f1 32 (by decide) (by decide) (by decide)
    refine tr_Sr b w1 hr rfl (by decide) (by decide) (by decide) fun M2 w2 => ?_
    refine tr_bind (r_accept w2 hr) fun M3 w3 => ?_
    have hJ' := note_J hJ hl (rec_len hC hn) f1 f2 f4 f5
    refine tr_b2 (r_ckp (R := ((R'.u 10 b).u 11 b).u 12 q) hC w3 hr hJ' ⟨?_, ?_, ?_, hb, hb, hq⟩ ?_) fun M4 v4 h4 => ?_
    · show R'.1 7 < 2 ^ 30; omega
    · show R'.1 8 ≤ R'.1 7; omega
    · show R'.1 7 ≤ R'.1 8 + S.V; omega
    · show R'.1 32 < 2 ^ 30; omega
    · obtain ⟨e4, w4⟩ := h4
      dsimp only at e4 w4
      rw [e4]
      exact tr_zb ⟨rfl, w4⟩
theorem shl1 {r : Nat} (hr : r < 9) : (1 : Int32) <<< (nI r &&& 31) = nI (2 ^ r) := by
  have : ∀ k : Fin 9, (1 : Int32) <<< (nI k.1 &&& 31) = nI (2 ^ k.1) := by decide
  exact this ⟨r, hr⟩
/-- what accepts leaves of the replica, when it succeeds -/
theorem acc_t {S : Sx} {r b q : Nat} {R : Rp} (h : (y_accepts (S.set r R) r b q).2 = true) : ∃ R', (y_accepts (S.set r R) r b q).1 = S.set r R' ∧ (∀ f, f ≠ 10 → f ≠ 11 → f ≠ 12 → f ≠ 31 → f ≠ 32 → f ≠ 33 → f ≠ 34 → f ≠ 35 → R'.1 f = R.1 f) ∧ R'.1 10 = b ∧ R'.1 11 = b ∧ R'.1 12 = q ∧ R'.2.1 = R.2.1 ∧ R'.1 32 ≤ R.1 32 + 1 ∧ (Cx S → JR R → R.2.2.1.length < 48 → BR S R → b < 2 ^ 30 → q < S.1 4 → JR R' ∧ R'.2.2.1.length < 48) := by
  cases c : (y_note (S.set r R) r (2, b, R.1 7 + 1, q, 0)).2
  · rw [acc_eq0 c] at h
    exact absurd (show false = true from h) (by decide)
  · obtain ⟨R', eR, f1, f2, f3, f4, f5⟩ := note_t c
    rw [acc_eq c eR] at h ⊢
    obtain ⟨R2, e2, g1, g2, g3, g4⟩ := ckp_t h
    refine ⟨R2, e2, fun f a1 a2 a3 a4 a5 a6 a7 a8 => ?_, (g1 10 (by decide) (by decide) (by decide) (by decide) (by decide)).trans rfl, (g1 11 (by decide) (by decide) (by decide) (by decide) (by decide)).trans rfl, (g1 12 (by decide) (by decide) (by decide) (by decide) (by decide)).trans rfl, g2.trans f3, ?_, fun hC hJ hl hB hb hq => ?_⟩
    · exact (g1 f a4 a5 a6 a7 a8).trans ((u_n _ _ a3).trans ((u_n _ _ a2).trans ((u_n _ _ a1).trans (f1 f a4 a7 a8))))
    · have : R'.1 32 = R.1 32 := f1 32 (by decide) (by decide) (by decide)
      have : R2.1 32 ≤ R'.1 32 + 1 := g3
      omega
    · obtain ⟨b1, b2, b3, b4, b5, b6⟩ := hB
      have f7 : R'.1 7 = R.1 7 := f1 7 (by decide) (by decide) (by decide)
      have f8 : R'.1 8 = R.1 8 := f1 8 (by decide) (by decide) (by decide)
      refine g4 hC (show JR R' from note_J hJ hl (rec_len hC ⟨(by decide : 1 ≤ 2), (by decide : 2 ≤ 5), (by omega : b < 2 ^ 31), (by omega : R.1 7 + 1 < 2 ^ 31), (by decide : 0 < 2 ^ 31)⟩) f1 f2 f4 f5) ⟨?_, ?_, ?_, hb, hb, hq⟩
      · show R'.1 7 < 2 ^ 30; omega
      · show R'.1 8 ≤ R'.1 7; omega
      · show R'.1 7 ≤ R'.1 8 + S.V; omega
theorem prop_eq1 {S : Sx} {r q : Nat} {R R' : Rp} (c : (y_accepts (S.set r R) r (R.1 20) q).2 = true) (e : (y_accepts (S.set r R) r (R.1 20) q).1 = S.set r R') : y_proposeIt (S.set r R) r q = y_sendAll (S.set r (((R'.u 22 q).u 21 (2 ^ r)).u 13 0)) 3 r (R'.1 20) (R'.1 7 + 1) q := by
  unfold y_proposeIt
  rw [set_rp]
  dsimp only
  rw [if_pos c, e, set_rp, set_set]
theorem prop_eq0 {S : Sx} {r q : Nat} {R : Rp} (c : (y_accepts (S.set r R) r (R.1 20) q).2 = false) : y_proposeIt (S.set r R) r q = (y_accepts (S.set r R) r (R.1 20) q).1 := by
  unfold y_proposeIt
  rw [set_rp]
  dsimp only
  rw [if_neg (by rw [c]; decide)]
theorem r_proposeIt {M : vM} {S : Sx} {r q : Nat} {R : Rp} (hC : Cx S) (h : WM M (S.set r R)) (hr : r < 9) (hfl : S.fl.length ≤ 200) (hJ : JR R) (hl : R.2.2.1.length < 48) (hB : BR S R) (hg : R.1 32 < 2 ^ 30) (h0 : 0 < q) (hq : q < S.1 4) (hb : R.1 20 < 2 ^ 30) : tr (F_X12_proposeIt M (nI r) (nI q)) (fun M' => WM M' (y_proposeIt (S.set r R) r q)) := by
  unfold F_X12_proposeIt
  refine tr_Gr h hr rfl ?_
  refine tr_b2 (r_accepts hC h hr hJ hl hB hg h0 hq hb) fun M1 v hv => ?_
  obtain ⟨e1, w1⟩ := hv
  dsimp only at e1 w1
  rw [e1]
  refine tr_if (fun c => ?_) (fun c => ?_)
  · rw [prop_eq0 c]
    exact tr_some w1
  · obtain ⟨R', eR, f1, f2⟩ := acc_t c
    rw [prop_eq1 c eR]
    rw [eR] at w1
    rw [shl1 hr]
    refine tr_Sr q w1 hr rfl (by decide) (by decide) (by decide) fun M2 w2 => ?_
    refine tr_Sr (2 ^ r) w2 hr rfl (by decide) (by decide) (by decide) fun M3 w3 => ?_
    refine tr_Sr 0 w3 hr rfl (by decide) (by decide) (by decide) fun M4 w4 => ?_
    refine tr_Gr w4 hr rfl ?_
    refine tr_Gr w4 hr rfl ?_
    refine tr_bind (r_sendAll (kd := 3) (b := R'.1 20) (s := R'.1 7 + 1) (q := q) (hC.set r _) w4 hfl hr (by omega) rfl rfl (nI_add1 _) rfl) fun M5 w5 => ?_
    exact tr_some w5
