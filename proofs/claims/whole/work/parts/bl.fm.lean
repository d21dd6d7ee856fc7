def acW (W : Nat → Int32) (s : Nat) : Nat → Int64
  | 0 => 0
  | k + 1 => (acW W s k <<< (((8 : Int32)).toInt64 &&& 63)) ||| (W (s + k)).toInt64
theorem q_f12 {ρ : Type} {a n : Nat} {kx : vM → Int64 → Option ρ} {Q : ρ → Prop} {W : Nat → Int32} (ha : a ≤ 1000) (hn : n ≤ 2400) (M : vM) (h45 : M.1 45 = nI n) (h38 : ∀ x, x < n → M.2 38 x = W x) (hz : ∀ x, n ≤ x → W x = 0) (g : tr (kx M (acW W (8 * a) 8)) Q) : ∀ (d k fl : Nat), k + d = 8 → d < fl → tr (L_X12_frameOf_43 (nI a) kx fl M (acW W (8 * a) k) (nI (8 * a + k))) Q := by
  intro d
  induction d with
  | zero =>
    intro k fl h1 h2
    obtain ⟨fl, rfl⟩ : ∃ f', fl = f' + 1 := ⟨fl - 1, by omega⟩
    rw [L_X12_frameOf_43, show (8 : Int32) * nI a + (8 : Int32) = nI (8 * a + 8) by rw [show (8 : Int32) = nI 8 from rfl, nI_mul, nI_add], if_pos (nI_le (by omega) (by omega)), show k = 8 by omega]
    exact g
  | succ d ih =>
    intro k fl h1 h2
    obtain ⟨fl, rfl⟩ : ∃ f', fl = f' + 1 := ⟨fl - 1, by omega⟩
    rw [L_X12_frameOf_43, show (8 : Int32) * nI a + (8 : Int32) = nI (8 * a + 8) by rw [show (8 : Int32) = nI 8 from rfl, nI_mul, nI_add], if_neg (nI_ge (by omega) (by omega)), h45, nI_add1]
    have i1 := ih (k + 1) fl (by omega) (by omega)
    by_cases c : n ≤ 8 * a + k
    · rw [if_pos (nI_le c (by omega))]
      have e : acW W (8 * a) (k + 1) = (acW W (8 * a) k <<< (((8 : Int32)).toInt64 &&& 63)) ||| ((0 : Int32)).toInt64 := by
        show (acW W (8 * a) k <<< (((8 : Int32)).toInt64 &&& 63)) ||| (W (8 * a + k)).toInt64 = _
        rw [hz _ c]
      rw [e] at i1
      exact i1
    · rw [if_neg (nI_ge (by omega) (by omega)), jn_]
      rw [if_neg (nI_ge (by omega) (by omega))]
      refine tr_G (show 8 * a + k < 2400 by omega) (by omega) ?_
      rw [h38 _ (by omega)]
      exact i1
theorem q_f11 {ρ : Type} {N a k0 : Nat} {L : List Nat} {kx : vC → Int64 → Option ρ} {Q : ρ → Prop} {W : Nat → Int32} (ha : a < 256) (c : vC) (hB : inB c 0 L) (hW : ∀ x, x < 2 ^ 20 → W x = nI (byA L x) ^^^ (if nI x = cI c 109 k0 then (1 : Int32) <<< (cI c 110 k0 &&& 31) else 0)) (g : tr (kx c (acW W (8 * a) 8)) Q) : ∀ (d k fl : Nat), k + d = 8 → d < fl → tr (L_X11_frameOf_43 N (nI a) k0 kx fl c (acW W (8 * a) k) (nI (8 * a + k))) Q := by
  intro d
  induction d with
  | zero =>
    intro k fl h1 h2
    obtain ⟨fl, rfl⟩ : ∃ f', fl = f' + 1 := ⟨fl - 1, by omega⟩
    rw [L_X11_frameOf_43, show (8 : Int32) * nI a + (8 : Int32) = nI (8 * a + 8) by rw [show (8 : Int32) = nI 8 from rfl, nI_mul, nI_add], if_pos (nI_le (by omega) (by omega)), show k = 8 by omega]
    exact g
  | succ d ih =>
    intro k fl h1 h2
    obtain ⟨fl, rfl⟩ : ∃ f', fl = f' + 1 := ⟨fl - 1, by omega⟩
    rw [L_X11_frameOf_43, show (8 : Int32) * nI a + (8 : Int32) = nI (8 * a + 8) by rw [show (8 : Int32) = nI 8 from rfl, nI_mul, nI_add], if_neg (nI_ge (by omega) (by omega)), nI_add1]
    have i1 := ih (k + 1) fl (by omega) (by omega)
    refine tr_jnK (fun s0 => s0 = (if nI (8 * a + k) = cI c 109 k0 then (1 : Int32) <<< (cI c 110 k0 &&& 31) else 0)) (fun s0 es => ?_) (fun kk hkk => ?_)
    · rw [e_byteAt' hB (by omega), b2_, es, ← hW _ (by omega)]
      exact i1
    · by_cases e : nI (8 * a + k) = cI c 109 k0
      · rw [if_pos e]; exact hkk _ (by rw [if_pos e])
      · rw [if_neg e]; exact hkk _ (by rw [if_neg e])
theorem frm_b {K : Nat} {S : Sx} {m : Mg} (hC : Cx S) (hK : K < 600) (hll : S.ll ≤ K) (hb : MgB K S m) : (y_frm S m).length ≤ 169 := by
  obtain ⟨L1, L2, L3, L4, L5⟩ := frm_len hC hK hll hb
  unfold y_frm
  rw [List.length_append, frB_eq, List.length_append, List.length_append, List.length_append, frT_eq, List.length_append]
  show _ + 4 ≤ 169
  omega
theorem frm_Bts {K : Nat} {S : Sx} {m : Mg} (hC : Cx S) (hK : K < 600) (hll : S.ll ≤ K) (hb : MgB K S m) : Bts (y_frm S m) := by
  obtain ⟨m1, m2, m3, m4, m5, m6, m7, m8, m9, m10, m11, m12⟩ := hb
  have hN : S.N ≤ 9 := hC.2.1
  unfold y_frm
  refine Bts.app ?_ (Bts.le4 _)
  rw [frB_eq]
  refine Bts.app (Bts.app (Bts.app ?_ ?_) ?_) ?_
  · exact Bts.cons (by decide) (Bts.cons (by omega) (Bts.cons (by omega) ((Bts.encU _).app (Bts.encU _))))
  · unfold frT
    split
    · split
      · exact Bts.cons (by decide) Bts.nil
      · exact Bts.cons (by decide) (Bts.encU _)
    · exact Bts.nil
  · unfold frQ
    split
    · exact Bts.nil
    · exact Bts.encQ _
  · unfold frP
    split
    · rename_i c8
      have len97 : (S.enc (m 4)).length ≤ 197 := enc_len hC (by omega)
      have k2' : m 8 < ((S.enc (m 4)).length + 63) / 64 := (m12 c8).2
      have em : y_many S (m 4) = ((S.enc (m 4)).length + 63) / 64 := rfl
      have pl := (pcs_get (S := S) (m := m) (by omega)).1
      refine Bts.cons (by omega) (Bts.cons (by omega) (Bts.cons (by omega) (fun b hb => ?_)))
      exact Bts.encSt S.V (S.sta (m 4)) (m 4) b (List.mem_of_mem_drop (List.mem_of_mem_take hb))
    · exact Bts.nil
def frW (S : Sx) (m : Mg) (x : Nat) : Int32 := nI (byA (y_frm S m) x) ^^^ (if 0 < m 7 ∧ x = (m 7 - 1) / 8 then (1 : Int32) <<< (nI ((m 7 - 1) % 8) &&& 31) else 0)
theorem frW_z {S : Sx} {m : Mg} (h : SpM S m) {x : Nat} (hx : (y_frm S m).length ≤ x) : frW S m x = 0 := by
  unfold frW
  rw [byA_ge hx, if_neg (fun q => by have := h.2 q.1; omega)]
  rfl
theorem acW_z {W : Nat → Int32} {s : Nat} (h : ∀ x, s ≤ x → W x = 0) : ∀ k, acW W s k = 0 := by
  intro k
  induction k with
  | zero => rfl
  | succ k ih =>
    show (acW W s k <<< (((8 : Int32)).toInt64 &&& 63)) ||| (W (s + k)).toInt64 = 0
    rw [ih, h _ (by omega)]
    decide
theorem s_frame {K : Nat} {c : vC} {M : vM} {S : Sx} (hW : WC K0 c S) (hM : WM M S) (hI : IvS K S) (hK : K < 600) (a1 a2 : Int32) : Sim8 (F_X11_frameOf S.N c a1 a2) (F_X12_frameOf M a1 a2) S := by
  obtain ⟨hB, hfl, _⟩ := iv_bs hI hK
  have h0 : WM (mW M 0 0) S := WM_0 hM
  have e53 : (mW M 0 0).1 53 = nI S.fl.length := h0.2.1
  unfold F_X11_frameOf F_X12_frameOf
  rcases ars (n := S.fl.length) (by omega) a1 with hb | ⟨i, hi, rfl⟩
  · refine ⟨0, ?_, ?_⟩
    · rw [e_look0 hW hb, b2_, oc_n]
      exact tr_some ⟨rfl, hW⟩
    · refine tr_l1 ?_
      by_cases c1 : a1 < 0
      · rw [if_pos c1]; exact tr_some ⟨rfl, h0⟩
      · rw [if_neg c1, e53, if_pos (hb.resolve_left c1)]
        exact tr_some ⟨rfl, h0⟩
  obtain ⟨_, _, _, _, _, p, t, hp⟩ := hW.2.2.1
  have hpi := hp.1 i (by omega)
  have hF := hp.2.2.2.2.2.2 i hi
  obtain ⟨hmb, hll⟩ := iv_m hI hi
  have hrf := r_frame hB.1 h0 hfl hi rfl hK hll hmb
  have hcf := c_frame (N := S.N) hB.1 hW hF hK hll hmb
  have hlen := frm_b hB.1 hK hll hmb
  have hbts := frm_Bts hB.1 hK hll hmb
  generalize S.fl.getD i mgD = m at hF hmb hrf hcf hlen hbts
  have hsp := hmb.2.2.2.2.2.2.2.2.1
  obtain ⟨x1, x2, x3, x4, x5, x6, x7⟩ := hF
  rw [e_look hW hfl hi hp, b2_, oc_s, gd_ hpi.2.1]
  have refB : ∀ {v : Int64} {x : vM → Option (vM × Int64)}, tr (x (mW M 0 0)) (fun p => p.2 = v ∧ WM p.1 S) → tr (lt1 (mW M 0 0) fun M1 => if nI i < 0 then (some (M1, (0 : Int64))) else (if (M1.1 53) ≤ nI i then (some (M1, (0 : Int64))) else x M1)) (fun p => p.2 = v ∧ WM p.1 S) := fun {v x} hx => by
    refine tr_l1 ?_
    rw [if_neg (nIn (by omega)), e53, if_neg (nI_ge hi (by omega))]
    exact hx
  rcases ars (n := 1001) (by decide) a2 with hb | ⟨a, ha, rfl⟩
  · refine ⟨0, ?_, refB ?_⟩
    · by_cases c1 : a2 < 0
      · rw [if_pos c1]; exact tr_some ⟨rfl, hW⟩
      · rw [if_neg c1, if_neg (show ¬ a2 < (256 : Int32) from fun q => absurd (Int32.lt_of_le_of_lt (hb.resolve_left c1) q) (by decide))]
        exact tr_some ⟨rfl, hW⟩
    · by_cases c1 : a2 < 0
      · rw [if_pos c1]; exact tr_some ⟨rfl, h0⟩
      · rw [if_neg c1, if_neg (show ¬ a2 ≤ (1000 : Int32) from fun q => absurd (Int32.le_trans (hb.resolve_left c1) q) (by decide))]
        exact tr_some ⟨rfl, h0⟩
  have eref : tr (if nI a < 0 then (some (mW M 0 0, (0 : Int64))) else (if nI a ≤ (1000 : Int32) then ((F_X12_layFrame (mW M 0 0) (nI i)).bind fun M2 => L_X12_frameOf_43 (nI a) (fun (M8 : vM) (l9 : Int64) => some (M8, l9)) fu M2 ((0 : Int64)) (((8 : Int32) * nI a))) else (some (mW M 0 0, (0 : Int64))))) (fun p => p.2 = acW (frW S m) (8 * a) 8 ∧ WM p.1 S) := by
    rw [if_neg (nIn (by omega)), if_pos (show nI a ≤ (1000 : Int32) from nI_le (b := 1000) (by omega) (by decide))]
    refine tr_bind hrf fun M2 q => ?_
    obtain ⟨w2, f45, f38⟩ := q
    rw [show (8 : Int32) * nI a = nI (8 * a + 0) from nI_mul 8 a]
    exact q_f12 (n := (y_frm S m).length) (W := frW S m) (by omega) (by omega) M2 f45 (fun x hx => f38 x hx) (fun x hx => frW_z hsp hx) (tr_some ⟨rfl, w2⟩) 8 0 fu (by omega) (show 8 < 32768 by decide)
  refine ⟨acW (frW S m) (8 * a) 8, ?_, refB eref⟩
  rw [if_neg (nIn (by omega))]
  by_cases c2 : a < 256
  · rw [if_pos (show nI a < (256 : Int32) from nI_lt (b := 256) c2 (by decide))]
    refine tr_bind hcf fun c' ec' => ?_
    subst ec'
    rw [show (8 : Int32) * nI a = nI (8 * a + 0) from nI_mul 8 a]
    have e109 : cI (sB (uI c 2 0 0) 0 (y_frm S m)) 109 (p i) = cI c 109 (p i) := by rw [sB_I _ _ _ _ (by decide), uI_f _ _ _ (by decide)]
    have e110 : cI (sB (uI c 2 0 0) 0 (y_frm S m)) 110 (p i) = cI c 110 (p i) := by rw [sB_I _ _ _ _ (by decide), uI_f _ _ _ (by decide)]
    refine q_f11 (W := frW S m) (L := y_frm S m) c2 _ (inB_sB (by omega) hbts) (fun x hx => ?_) (tr_some ⟨rfl, WC_B (WC_2 hW (by decide))⟩) 8 0 fu (by omega) (show 8 < 32768 by decide)
    unfold frW
    rw [e109, e110]
    by_cases c7 : m 7 = 0
    · rw [x6 c7, if_neg (fun q => by omega), if_neg (show ¬ nI x = (-1 : Int32) from fun q => by
        have hh := nIn (n := x) (by omega)
        rw [q] at hh
        exact absurd (by decide : (-1 : Int32) < 0) hh)]
    · obtain ⟨g1, g2⟩ := x7 (by omega)
      rw [g1, g2]
      have m9 := hsp.1
      by_cases e : x = (m 7 - 1) / 8
      · rw [if_pos ⟨by omega, e⟩, if_pos (by rw [e])]
      · rw [if_neg (fun q => e q.2), if_neg (fun q => e (nI_inj (by omega) (by omega) q))]
  · rw [if_neg (show ¬ nI a < (256 : Int32) from nI_nlt (b := 256) (by omega) (by omega))]
    refine tr_some ⟨?_, hW⟩
    exact (acW_z (fun x hx => frW_z hsp (by omega)) 8).symm
