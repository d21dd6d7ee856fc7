/-! ===== words of eight bytes ===== -/
def Sim8 (a : Option (vC × Int64)) (b : Option (vM × Int64)) (S' : Sx) : Prop := ∃ v, tr a (fun p => p.2 = v ∧ WC K0 p.1 S') ∧ tr b (fun p => p.2 = v ∧ WM p.1 S')
def vbN (B : Nat → Nat) : Nat → Nat
  | 0 => 0
  | k + 1 => vbN B k * 256 + B k
theorem vbN_lt {B : Nat → Nat} (h : ∀ k, B k < 256) : ∀ k, vbN B k < 2 ^ (8 * k) := by
  intro k
  induction k with
  | zero => exact Nat.one_pos
  | succ k ih =>
    show vbN B k * 256 + B k < 2 ^ (8 * (k + 1))
    have : 2 ^ (8 * (k + 1)) = 2 ^ (8 * k) * 256 := by rw [show 8 * (k + 1) = 8 * k + 8 by omega, Nat.pow_add]
    have := h k
    omega
theorem vb_step {n b : Nat} (hn : n < 2 ^ 56) (hb : b < 256) : (lN n <<< (((8 : Int32)).toInt64 &&& 63)) ||| lN b = lN (n * 256 + b) := by
  rw [show (8 : Int32) = nI 8 from rfl, wb_shl n (by decide), wb_or (by omega) (by omega), or_add (k := 8) hb]
theorem vb_64 (x : Int64) : lN (vbN (jb x) 8) = x := by
  obtain ⟨n, hn, rfl⟩ := wb_of x
  have key : ∀ k, k ≤ 8 → vbN (jb (lN n)) k = n / 2 ^ (64 - 8 * k) := by
    intro k
    induction k with
    | zero => intro _; show 0 = n / 2 ^ 64; rw [Nat.div_eq_of_lt hn]
    | succ k ih =>
      intro hk
      show vbN (jb (lN n)) k * 256 + jb (lN n) k = _
      rw [ih (by omega), jb_lN hn, show 64 - 8 * (k + 1) = 56 - 8 * k by omega, show 64 - 8 * k = (56 - 8 * k) + 8 by omega, Nat.pow_add, ← Nat.div_div_eq_div_mul]
      generalize n / 2 ^ (56 - 8 * k) = q
      show q / 256 * 256 + q % 256 = q
      omega
  rw [key 8 (Nat.le_refl _)]
  show lN (n / 1) = lN n
  rw [Nat.div_one]
theorem sb_255 {b : Nat} (hb : b < 256) : (sb_b b).toInt64 &&& (255 : Int64) = lN b := by
  have : ∀ j : Fin 256, (sb_b j.1).toInt64 &&& (255 : Int64) = lN j.1 := by decide +kernel
  exact this ⟨b, hb⟩
theorem nI_64 {b : Nat} (hb : b < 256) : (nI b).toInt64 = lN b := by
  have : ∀ j : Fin 256, (nI j.1).toInt64 = lN j.1 := by decide +kernel
  exact this ⟨b, hb⟩
theorem q_bl {ρ : Type} {r b w : Nat} {kx : vM → Int64 → Option ρ} {Q : ρ → Prop} {B : Nat → Nat} (hr : r < 9) (hb : b < 64) (hw : w < 64) (hB : ∀ k, B k < 256) (M : vM) (hM : ∀ k, k < 8 → M.2 36 (32768 * r + 512 * b + 8 * w + k) = sb_b (B k)) (g : tr (kx M (lN (vbN B 8))) Q) : ∀ (d k fl : Nat), k + d = 8 → d < fl → tr (L_X12_blockOf_41 (nI r) (nI b) (nI w) kx fl M (lN (vbN B k)) (nI k)) Q := by
  intro d
  induction d with
  | zero =>
    intro k fl h1 h2
    obtain ⟨fl, rfl⟩ : ∃ f', fl = f' + 1 := ⟨fl - 1, by omega⟩
    rw [L_X12_blockOf_41, if_pos (show (8 : Int32) ≤ nI k from nI_le (a := 8) (by omega) (by omega)), show k = 8 by omega]
    exact g
  | succ d ih =>
    intro k fl h1 h2
    obtain ⟨fl, rfl⟩ : ∃ f', fl = f' + 1 := ⟨fl - 1, by omega⟩
    rw [L_X12_blockOf_41, if_neg (show ¬ (8 : Int32) ≤ nI k from nI_ge (b := 8) (by omega) (by decide)), show (((32768 : Int32) * nI r + (512 : Int32) * nI b) + (8 : Int32) * nI w) + nI k = nI (32768 * r + 512 * b + 8 * w + k) by rw [show (32768 : Int32) = nI 32768 from rfl, show (512 : Int32) = nI 512 from rfl, show (8 : Int32) = nI 8 from rfl, nI_mul, nI_mul, nI_mul, nI_add, nI_add, nI_add], nI_add1]
    refine tr_G (show 32768 * r + 512 * b + 8 * w + k < 294912 by omega) (by omega) ?_
    have hlt : vbN B k < 2 ^ 56 := Nat.lt_of_lt_of_le (vbN_lt hB k) (Nat.pow_le_pow_right (by decide) (by omega))
    rw [hM k (by omega), sb_255 (hB k), vb_step hlt (hB k)]
    exact ih (k + 1) fl (by omega) (by omega)
theorem s_blockOf {c : vC} {M : vM} {S : Sx} (hW : WC K0 c S) (hM : WM M S) (hB : Bs S) (a1 a2 a3 : Int32) : Sim8 (F_X11_blockOf S.N c a1 a2 a3) (F_X12_blockOf M a1 a2 a3) S := by
  have hN := hB.n
  have h0 : WM (mW M 0 0) S := WM_0 hM
  unfold F_X11_blockOf F_X12_blockOf
  rcases ars (n := S.N) (by omega) a1 with hb | ⟨r, hr, rfl⟩
  · refine ⟨0, ?_, ?_⟩
    · rw [e_rep0 hb, b2_, oc_n]
      exact tr_some ⟨rfl, hW⟩
    · refine tr_l1 ?_
      rw [r_isRep0 h0 hb, b2_, if_pos rfl]
      exact tr_some ⟨rfl, h0⟩
  have eC : ∀ x : Option (vC × Int64), (b2 (F_X11_replicaNumber S.N c (nI r)) fun M1 v2 => oc (v2) (some (M1, (0 : Int64))) (fun o3 => gd (o3 < S.N) x)) = x := fun x => by rw [e_rep hr (by omega), b2_, oc_s, gd_ hr]
  rw [e_rep hr (by omega), b2_, oc_s, gd_ hr]
  rcases ars (n := 64) (by decide) a2 with hb2 | ⟨b, hb2, rfl⟩
  · refine ⟨0, ?_, ?_⟩
    · by_cases c1 : a2 < 0
      · rw [if_pos c1]; exact tr_some ⟨rfl, hW⟩
      · rw [if_neg c1, if_pos (show (64 : Int32) ≤ a2 from hb2.resolve_left c1)]; exact tr_some ⟨rfl, hW⟩
    · refine tr_l1 ?_
      rw [r_isRep h0 hN hr, b2_, if_neg (by decide)]
      by_cases c1 : a2 < 0
      · rw [if_pos c1]; exact tr_some ⟨rfl, h0⟩
      · rw [if_neg c1, if_pos (show (63 : Int32) < a2 from Int32.lt_of_lt_of_le (by decide) (hb2.resolve_left c1))]; exact tr_some ⟨rfl, h0⟩
  rw [if_neg (nIn (by omega)), if_neg (show ¬ (64 : Int32) ≤ nI b from nI_ge (b := 64) hb2 (by decide))]
  rcases ars (n := 64) (by decide) a3 with hb3 | ⟨w, hb3, rfl⟩
  · refine ⟨0, ?_, ?_⟩
    · by_cases c1 : a3 < 0
      · rw [if_pos c1]; exact tr_some ⟨rfl, hW⟩
      · rw [if_neg c1, if_neg (show ¬ a3 < (64 : Int32) from Int32.not_lt.mpr (hb3.resolve_left c1))]; exact tr_some ⟨rfl, hW⟩
    · refine tr_l1 ?_
      rw [r_isRep h0 hN hr, b2_, if_neg (by decide), if_neg (nIn (by omega)), if_neg (show ¬ (63 : Int32) < nI b from nI_nlt (a := 63) (by omega) (by omega))]
      by_cases c1 : a3 < 0
      · rw [if_pos c1]; exact tr_some ⟨rfl, h0⟩
      · rw [if_neg c1, if_neg (show ¬ a3 ≤ (63 : Int32) from fun q => absurd (Int32.le_trans (hb3.resolve_left c1) q) (by decide))]; exact tr_some ⟨rfl, h0⟩
  have hal := (hW.2.2.2.2 r hr).1.2.2
  have hd := (h0.2.2.2.1 r (by omega)).2.2.2.2.2.2.2.2.2.2
  refine ⟨cJ c r (64 * b + w), ?_, ?_⟩
  · rw [if_neg (nIn (by omega)), if_pos (show nI w < (64 : Int32) from nI_lt (b := 64) hb3 (by decide)), show nI b * (64 : Int32) + nI w = nI (64 * b + w) by rw [show (64 : Int32) = nI 64 from rfl, nI_mul, nI_add, Nat.mul_comm b 64]]
    have eg : cGJ c r (nI (64 * b + w)) = some (cJ c r (64 * b + w)) := by
      unfold cGJ
      rw [nIt (by omega), if_neg (fun q => by
        rcases q with q | q
        · exact nIn (by omega) q
        · omega)]
    rw [eg, Option.bind_some]
    exact tr_some ⟨rfl, hW⟩
  · refine tr_l1 ?_
    rw [r_isRep h0 hN hr, b2_, if_neg (by decide), if_neg (nIn (by omega)), if_neg (show ¬ (63 : Int32) < nI b from nI_nlt (a := 63) (by omega) (by omega)), if_neg (nIn (by omega)), if_pos (show nI w ≤ (63 : Int32) from nI_le (b := 63) (by omega) (by decide))]
    refine q_bl (B := jb (cJ c r (64 * b + w))) (by omega) hb2 hb3 (fun k => jb_lt _ _) (mW M 0 0) (fun k hk => ?_) ?_ 8 0 fu (by omega) (show 8 < 32768 by decide)
    · have e1 := hd (512 * b + 8 * w + k) (by omega)
      rw [vw_a (show 512 * b + 8 * w + k < 32768 by omega), ← hal _ (by omega)] at e1
      unfold dk at e1
      rw [show (512 * b + 8 * w + k) / 8 = 64 * b + w by omega, show (512 * b + 8 * w + k) % 8 = k by omega] at e1
      rw [← e1, show zs 36 = 32768 from rfl, show 32768 * r + 512 * b + 8 * w + k = 32768 * r + (512 * b + 8 * w + k) by omega]
    · exact tr_some ⟨vb_64 _, h0⟩
