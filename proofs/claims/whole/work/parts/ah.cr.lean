/-! ===== the class's store is read again ===== -/
def W16 (x : Int32) : Prop := ∃ w, w < 65536 ∧ x = nI w
def TbW (tb : Nat → Rq) : Prop := ∀ q, W16 ((tb q).2.1 3) ∧ W16 ((tb q).2.1 4)
theorem W16.z : W16 0 := ⟨0, by decide, rfl⟩
theorem ms16 {V : Nat} {tb : Nat → Rq} {g : Nat → Nat} (h : TbW tb) : ∀ i j, W16 ((stN V tb g i).2.2.2 j) := by
  intro i
  induction i with
  | zero => intro j; exact W16.z
  | succ i ih =>
    intro j
    show W16 (va_up (stN V tb g i).2.2.2 (i + 1) (y_wr V (stN V tb g i) i (tb (g (i + 1)))) j)
    by_cases e : j = i + 1
    · rw [e, va_up_self]
      unfold y_wr
      split
      · exact (h _).2
      · exact W16.z
    · rw [va_up_ne _ _ e]; exact ih j
theorem wn16 {V : Nat} {tb : Nat → Rq} {g : Nat → Nat} (h : TbW tb) (i v : Nat) : W16 (y_wn (stN V tb g i) i v) := by
  unfold y_wn
  split
  · exact W16.z
  · exact ms16 h i _
theorem rdA_R {c : vC} {l : List Nat} {n f i j : Nat} {v : Int32} (h : rdA c l n) (hf : f ≠ 0) : rdA (uR c f i j v) l n := by
  obtain ⟨⟨a, b, d, e⟩, g, k⟩ := h
  exact ⟨⟨a, b, d, fun x hx => by rw [uR_f _ _ _ _ (Ne.symm hf)]; exact e x hx⟩, g, k⟩
theorem rdA_I {c : vC} {l : List Nat} {n f i : Nat} {v : Int32} (h : rdA c l n) (hf : 100 ≤ f) : rdA (uI c f i v) l n := by
  obtain ⟨⟨a, b, d, e⟩, g, k⟩ := h
  exact ⟨⟨by rw [uI_f _ _ _ (by omega)]; exact a, b, d, e⟩, by rw [uI_f _ _ _ (by omega)]; exact g, k⟩
theorem fm_c {d k : Nat} {enc : Nat → List Nat} : (List.range' k (d + 1)).flatMap enc = enc k ++ (List.range' (k + 1) d).flatMap enc := by
  rw [List.range'_succ, List.flatMap_cons]
/-- what a reading loop keeps -/
def kpS (r : Nat) (c' c : vC) (f0 : Nat → Prop) : Prop := sk r c' c ∧ (∀ f, 100 ≤ f → ¬ (800 ≤ f ∧ f < 900) → cI c' f r = cI c f r) ∧ (∀ f, f ≠ 0 → ¬ f0 f → cR c' f r = cR c f r) ∧ ∀ f, cQ c' f r = cQ c f r
theorem kpS.refl {r : Nat} {c : vC} {f0 : Nat → Prop} : kpS r c c f0 := ⟨sk.refl, fun _ _ _ => rfl, fun _ _ _ => rfl, fun _ => rfl⟩
theorem kpS.R {r f j : Nat} {c' c : vC} {v : Int32} {f0 : Nat → Prop} (h : kpS r c' c f0) (hf : f = 1002 ∨ f = 1003 ∨ f = 1004 ∨ f = 1005) (hf0 : f0 f) : kpS r (uR c' f r j v) c f0 := ⟨(sk_R hf).tr h.1, h.2.1, fun g g1 g2 => (uR_f _ _ _ _ (fun e => g2 (by rw [e]; exact hf0))).trans (h.2.2.1 g g1 g2), h.2.2.2⟩
theorem kpS.p {r n : Nat} {c' c : vC} {f0 : Nat → Prop} (h : kpS r c' c f0) : kpS r (uI c' 2 1 (nI n)) c f0 := ⟨(sk_2 (by decide)).tr h.1, fun f f1 f2 => (uI_f _ _ _ (by omega)).trans (h.2.1 f f1 f2), h.2.2.1, h.2.2.2⟩
theorem q_tv {ρ : Type} {N r x : Nat} {l : List Nat} {vs : Nat → Int32} {kx : vC → Option ρ} {Q : ρ → Prop} {c0 : vC} (hx : x ≤ 256) : ∀ (d k n fl : Nat) (c : vC), k + d = 16 → d < fl → rdA c l n → n + 4 * d < 4000 → Dr l n ((List.range' k d).flatMap (fun j => be4 (vs j))) → kpS r c c0 (fun f => f = 1005) → (∀ j, j < k → cR c 1005 r (x + j) = vs j) → (∀ j, (j < x ∨ x + 16 ≤ j) → cR c 1005 r j = cR c0 1005 r j) → (∀ c', rdA c' l (n + 4 * d) → kpS r c' c0 (fun f => f = 1005) → (∀ j, j < 16 → cR c' 1005 r (x + j) = vs j) → (∀ j, (j < x ∨ x + 16 ≤ j) → cR c' 1005 r j = cR c0 1005 r j) → tr (kx c') Q) → tr (L_X10_takeValuesFrom_10 N r 1 (nI x) kx fl c (nI k)) Q := by
  intro d
  induction d with
  | zero =>
    intro k n fl c h1 h2 hr hn hd p1 p2 p3 K'
    obtain ⟨fl, rfl⟩ : ∃ f', fl = f' + 1 := ⟨fl - 1, by omega⟩
    obtain rfl : k = 16 := by omega
    rw [L_X10_takeValuesFrom_10, if_pos (show (16 : Int32) ≤ nI 16 from nI_le (Nat.le_refl 16) (by decide))]
    exact K' c hr p1 p2 p3
  | succ d ih =>
    intro k n fl c h1 h2 hr hn hd p1 p2 p3 K'
    obtain ⟨fl, rfl⟩ : ∃ f', fl = f' + 1 := ⟨fl - 1, by omega⟩
    rw [fm_c] at hd
    rw [L_X10_takeValuesFrom_10, if_neg (show ¬ (16 : Int32) ≤ nI k from nI_ge (b := 16) (by omega) (by decide)), e_takeFour (v := vs k) hr (by omega) hd.a, b2_, nI_add, cSv (show x + k < 272 by omega) (by omega), Option.bind_some, nI_add1]
    refine ih (k + 1) (n + 4) fl _ (by omega) (by omega) (rdA_R (rdA_u hr (by omega)) (by decide)) (by omega) hd.b (p1.p.R (by decide) rfl) (fun j hj => ?_) (fun j hj => ?_) (fun c' hr' => K' c' (by rw [show n + 4 * (d + 1) = n + 4 + 4 * d by omega]; exact hr'))
    · by_cases e : j = k
      · subst e; rw [uR_s]
      · rw [uR_j _ _ _ _ (by omega)]; exact p2 j (by omega)
    · rw [uR_j _ _ _ _ (by omega)]; exact p3 j hj
theorem q_t28 {ρ : Type} {N r : Nat} {l : List Nat} {sq vd : Nat → Nat} {kx : vC → Option ρ} {Q : ρ → Prop} {c0 : vC} (hs : ∀ s, sq s < 2 ^ 31) (hv : ∀ s, vd s ≤ 2) : ∀ (d k n fl : Nat) (c : vC), k + d = 16 → d < fl → rdA c l n → n + 6 * d < 3000 → Dr l n ((List.range' k d).flatMap (fun j => encU (sq j) ++ [by8 (nI (vd j))])) → kpS r c c0 (fun f => f = 1002 ∨ f = 1003) → (∀ j, j < k → cR c 1002 r j = nI (sq j)) → (∀ j, j < k → cR c 1003 r j = nI (vd j)) → (∀ c' n', rdA c' l n' → n' = n + ((List.range' k d).flatMap (fun j => encU (sq j) ++ [by8 (nI (vd j))])).length → kpS r c' c0 (fun f => f = 1002 ∨ f = 1003) → (∀ j, j < 16 → cR c' 1002 r j = nI (sq j)) → (∀ j, j < 16 → cR c' 1003 r j = nI (vd j)) → tr (kx c') Q) → tr (L_X10_takeFrom_28 N r 1 kx fl c (nI k)) Q := by
  intro d
  induction d with
  | zero =>
    intro k n fl c h1 h2 hr hn hd p1 p2 p3 K'
    obtain ⟨fl, rfl⟩ : ∃ f', fl = f' + 1 := ⟨fl - 1, by omega⟩
    obtain rfl : k = 16 := by omega
    rw [L_X10_takeFrom_28, if_pos (show (16 : Int32) ≤ nI 16 from nI_le (Nat.le_refl 16) (by decide))]
    exact K' c n hr rfl p1 p2 p3
  | succ d ih =>
    intro k n fl c h1 h2 hr hn hd p1 p2 p3 K'
    obtain ⟨fl, rfl⟩ : ∃ f', fl = f' + 1 := ⟨fl - 1, by omega⟩
    have hu := encU_len (hs k)
    rw [fm_c] at hd K'
    have hvk := hv k
    rw [L_X10_takeFrom_28, if_neg (show ¬ (16 : Int32) ≤ nI k from nI_ge (b := 16) (by omega) (by decide)), e_takeU hr (by omega) (hs k) hd.a.a, b2_, cSv (show k < 16 by omega) (by omega), Option.bind_some]
    have hr1 := rdA_R (f := 1002) (i := r) (j := k) (v := nI (sq k)) (rdA_u (m := n + (encU (sq k)).length) hr (by omega)) (by decide)
    have hb := hd.a.b.hd
    rw [by8_n (by omega)] at hb
    rw [e_take hr1, b2_, hb, cSv (show k < 16 by omega) (by omega), Option.bind_some, nI_add1]
    have hd2 := hd.b
    rw [List.length_append] at hd2
    refine ih (k + 1) (n + ((encU (sq k)).length + 1)) fl _ (by omega) (by omega) (rdA_R (rdA_u hr1 (by omega)) (by decide)) (by omega) hd2 (((p1.p.R (by decide) (Or.inl rfl)).p).R (by decide) (Or.inr rfl)) (fun j hj => ?_) (fun j hj => ?_) (fun c' n' hr' en' => K' c' n' hr' (by rw [en', List.length_append, List.length_append]; show _ = _ + (_ + 1 + _); omega))
    · rw [uR_f _ _ _ _ (by decide)]
      show cR (uR (uI c 2 1 (nI (n + (encU (sq k)).length))) 1002 r k (nI (sq k))) 1002 r j = _
      by_cases e : j = k
      · subst e; rw [uR_s]
      · rw [uR_j _ _ _ _ e]; exact p2 j (by omega)
    · by_cases e : j = k
      · subst e; rw [uR_s]
      · rw [uR_j _ _ _ _ e]
        show cR (uR (uI c 2 1 (nI (n + (encU (sq k)).length))) 1002 r k (nI (sq k))) 1003 r j = _
        rw [uR_f _ _ _ _ (by decide)]; exact p3 j (by omega)
theorem q_t62 {ρ : Type} {N r V : Nat} {l : List Nat} {ws : Nat → Int32} {kx : vC → Option ρ} {Q : ρ → Prop} {c0 : vC} (hV : V ≤ 16) (eV : cI c0 1000 r = nI V) (hw : ∀ v, W16 (ws v)) : ∀ (d k n fl : Nat) (c : vC), k + d = V → d < fl → rdA c l n → n + 2 * d < 4000 → Dr l n ((List.range' k d).flatMap (fun j => be2 (ws j))) → kpS r c c0 (fun f => f = 1004) → (∀ j, j < k → cR c 1004 r j = ws j) → (∀ c', kpS r c' c0 (fun f => f = 1004) → (∀ j, j < V → cR c' 1004 r j = ws j) → tr (kx c') Q) → tr (L_X10_takeFrom_62 N r 1 kx fl c (nI k)) Q := by
  intro d
  induction d with
  | zero =>
    intro k n fl c h1 h2 hr hn hd p1 p2 K'
    obtain ⟨fl, rfl⟩ : ∃ f', fl = f' + 1 := ⟨fl - 1, by omega⟩
    rw [L_X10_takeFrom_62, p1.2.1 1000 (by decide) (by decide), eV, if_pos (nI_le (by omega) (by omega))]
    exact K' c p1 (fun j hj => p2 j (by omega))
  | succ d ih =>
    intro k n fl c h1 h2 hr hn hd p1 p2 K'
    obtain ⟨fl, rfl⟩ : ∃ f', fl = f' + 1 := ⟨fl - 1, by omega⟩
    obtain ⟨w, hw1, hw2⟩ := hw k
    rw [fm_c] at hd
    have hda := hd.a
    rw [hw2] at hda
    rw [L_X10_takeFrom_62, p1.2.1 1000 (by decide) (by decide), eV, if_neg (nI_ge (show k < V by omega) (by omega)), e_takeTwo hr (by omega) hw1 hda, b2_, cSv (show k < 16 by omega) (by omega), Option.bind_some, nI_add1]
    refine ih (k + 1) (n + 2) fl _ (by omega) (by omega) (rdA_R (rdA_u hr (by omega)) (by decide)) (by omega) hd.b (p1.p.R (by decide) rfl) (fun j hj => ?_) K'
    by_cases e : j = k
    · subst e; rw [uR_s, hw2]
    · rw [uR_j _ _ _ _ (by omega)]; exact p2 j (by omega)
/-- a state is taken over -/
theorem c_takeFrom {N : Nat} {c : vC} {S : Sx} {r i n : Nat} {l : List Nat} {R : Rp} (hC : Cx S) (hTW : TbW S.tb) (eV : cI c 1000 r = nI S.V) (hr : rdA c l n) (hn : n < 100) (hi : i < 29990) (hd : Dr l n (S.enc i)) : tr (F_X10_takeFrom N c r 1) (fun c' => sk r c' c ∧ StA c' S r (rst R i)) := by
  have hV := hC.V
  have hu := encU_len (n := i) (by omega)
  have hd' : Dr l n (encU i ++ ((List.range' 0 16).flatMap (fun k => be4 ((S.sta i).1 k)) ++ ((List.range' 0 16).flatMap (fun s => encU ((S.sta i).2.1 s) ++ [by8 (nI ((S.sta i).2.2.1 s))]) ++ (List.range' 0 S.V).flatMap (fun v => be2 (y_wn (S.sta i) i v))))) := hd
  unfold F_X10_takeFrom
  rw [e_takeU hr (by omega) (by omega) hd'.a, b2_]
  refine tr_l1 (tr_l1 (tr_l1 ?_))
  rw [uI_s]
  have z1 : sk r (uI (uI (uI (uI c 2 1 (nI (n + (encU i).length))) 1007 r (nI i)) 1008 r (nI i)) 1009 r 0) c := (sk_I (by decide)).tr ((sk_I (by decide)).tr ((sk_I (by decide)).tr (sk_2 (by decide))))
  have r1 : rdA (uI (uI (uI (uI c 2 1 (nI (n + (encU i).length))) 1007 r (nI i)) 1008 r (nI i)) 1009 r 0) l (n + (encU i).length) := rdA_I (rdA_I (rdA_I (rdA_u hr (by omega)) (by decide)) (by decide)) (by decide)
  have i7 : cI (uI (uI (uI (uI c 2 1 (nI (n + (encU i).length))) 1007 r (nI i)) 1008 r (nI i)) 1009 r 0) 1007 r = nI i := by rw [uI_f _ _ _ (by decide), uI_f _ _ _ (by decide), uI_s]
  have i8 : cI (uI (uI (uI (uI c 2 1 (nI (n + (encU i).length))) 1007 r (nI i)) 1008 r (nI i)) 1009 r 0) 1008 r = nI i := by rw [uI_f _ _ _ (by decide), uI_s]
  have i9 : cI (uI (uI (uI (uI c 2 1 (nI (n + (encU i).length))) 1007 r (nI i)) 1008 r (nI i)) 1009 r 0) 1009 r = 0 := uI_s _ _ _ _
  have iV : cI (uI (uI (uI (uI c 2 1 (nI (n + (encU i).length))) 1007 r (nI i)) 1008 r (nI i)) 1009 r 0) 1000 r = nI S.V := by rw [uI_f _ _ _ (by decide), uI_f _ _ _ (by decide), uI_f _ _ _ (by decide), uI_f _ _ _ (by decide)]; exact eV
  generalize uI (uI (uI (uI c 2 1 (nI (n + (encU i).length))) 1007 r (nI i)) 1008 r (nI i)) 1009 r 0 = c1 at z1 r1 i7 i8 i9 iV ⊢
  unfold F_X10_takeValuesFrom
  rw [i8, e_rowOf (by omega), b2_]
  refine tr_bind (P := fun c2 => rdA c2 l (n + (encU i).length + 64) ∧ kpS r c2 c1 (fun f => f = 1005) ∧ (∀ j, j < 16 → cR c2 1005 r (16 * (i % 17) + j) = (S.sta i).1 j)) ?_ fun c2 hc2 => ?_
  · refine q_tv (vs := (S.sta i).1) (c0 := c1) (by omega) 16 0 (n + (encU i).length) fu c1 rfl (by decide) r1 (by omega) hd'.b.a kpS.refl (fun j hj => absurd hj (Nat.not_lt_zero _)) (fun _ _ => rfl) (fun c' e a b d => tr_some ⟨e, a, b⟩)
  · obtain ⟨r2, k2, v2⟩ := hc2
    have hl64 : ((List.range' 0 16).flatMap (fun k => be4 ((S.sta i).1 k))).length = 64 := encVa_len _
    have hd3 := hd'.b.b
    rw [hl64] at hd3
    refine q_t28 (sq := (S.sta i).2.1) (vd := (S.sta i).2.2.1) (c0 := c2) (fun s => Nat.lt_trans (sta_b hC i s) (by decide)) (fun s => (st_b (V := S.V) (g := S.lg) hC.tb i s).2) 16 0 (n + (encU i).length + 64) fu c2 rfl (by decide) r2 (by omega) hd3.a kpS.refl (fun j hj => absurd hj (Nat.not_lt_zero _)) (fun j hj => absurd hj (Nat.not_lt_zero _)) (fun c3 n3 r3 e3 k3 s3 t3 => ?_)
    have hlu := flatMap_len (B := 6) (fun s => encU ((S.sta i).2.1 s) ++ [by8 (nI ((S.sta i).2.2.1 s))]) (us_len (fun s => Nat.lt_trans (sta_b hC i s) (by decide))) 16 0
    refine q_t62 (ws := y_wn (S.sta i) i) (c0 := c3) hV (by rw [k3.2.1 1000 (by decide) (by decide), k2.2.1 1000 (by decide) (by decide)]; exact iV) (wn16 hTW i) S.V 0 n3 fu c3 (by omega) (by show _ < 32768; omega) r3 (by omega) (by rw [e3]; exact hd3.b) kpS.refl (fun j hj => absurd hj (Nat.not_lt_zero _)) (fun c4 k4 w4 => ?_)
    have fI : ∀ f, 100 ≤ f → ¬ (800 ≤ f ∧ f < 900) → cI c4 f r = cI c1 f r := fun f a b => (k4.2.1 f a b).trans ((k3.2.1 f a b).trans (k2.2.1 f a b))
    refine tr_some ⟨k4.1.tr (k3.1.tr (k2.1.tr z1)), (fI 1007 (by decide) (by decide)).trans i7, (fI 1008 (by decide) (by decide)).trans i8, ?_, fun s hs => ?_, fun s hs => ?_, fun v hv => w4 v hv, fun i' k b1 b2 b3 => ?_, fun i' b1 b2 => ?_⟩
    · rw [fI 1009 (by decide) (by decide), i9]
      show (0 : Int32) = nI (i - i)
      rw [Nat.sub_self]; rfl
    · rw [k4.2.2.1 1002 (by decide) (by decide)]; exact s3 s hs
    · rw [k4.2.2.1 1003 (by decide) (by decide)]; exact t3 s hs
    · have b1' : i ≤ i' := b1
      have b2' : i' ≤ i := b2
      obtain rfl : i' = i := by omega
      rw [k4.2.2.1 1005 (by decide) (by decide), k3.2.2.1 1005 (by decide) (by decide)]
      exact v2 k b3
    · have b1' : i < i' := b1
      have b2' : i' ≤ i := b2
      omega
