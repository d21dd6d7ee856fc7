/-! ===== the class receives ===== -/
/-- what a message must keep to, beside its bounds -/
def MgC (S : Sx) (m : Mg) : Prop := m 1 < S.N ∧ m 2 < S.N ∧ (m 0 = 2 → 0 < m 5 → 0 < m 6) ∧ (m 0 = 8 → m 8 < y_many S (m 4))
theorem c_receive {mm : Kp} {N : Nat} {c : vC} {S : Sx} {k : Nat} {m : Mg} (hC : Cx S) (hTW : TbW S.tb) (h : WC mm c S) (hm : mm.1 = some (k, m)) (h6 : (S.rp (m 2)).1 6 = 1) (hfl : S.fl.length ≤ 200) (hO : OkR S (S.rp (m 2))) (hF : FoOk (S.rp (m 2))) (hT : TlOk (S.rp (m 2))) (h21 : (S.rp (m 2)).1 21 < 2 ^ S.N) (hmo : MgOk S m) (hmc : MgC S m) (hL : LgC mm S) (hW : SeW S) (b7 : (S.rp (m 2)).1 7 + 2 < 29990) (b32 : (S.rp (m 2)).1 32 + 1 < 65536) (h0 : ∀ s, (S.rp (m 2)).1 9 < s → s ≤ (S.rp (m 2)).1 7 → 0 < S.lg s) (hU : ∀ q', q' ∈ (S.rp (m 2)).2.1 → (S.tb q').1 0 = (S.tb (m 5)).1 0 → (S.tb q').1 1 = (S.tb (m 5)).1 1 → q' = m 5) (hl5 : m 0 = 5 → m 4 = (S.rp (m 2)).1 7 + 1 → (S.rp (m 2)).1 7 + 1 ≤ S.ll → S.lg ((S.rp (m 2)).1 7 + 1) = m 5) (hl4 : m 0 = 4 → (S.rp (m 2)).1 19 = 2 → (S.rp (m 2)).1 20 = m 3 → ¬ (S.rp (m 2)).1 22 = 0 → m 4 = (S.rp (m 2)).1 7 + 1 → ¬ ((S.rp (m 2)).1 21).testBit (m 1) → S.N < 2 * y_count S.N ((S.rp (m 2)).1 21 ||| 2 ^ (m 1)) → (S.rp (m 2)).1 7 + 1 ≤ S.ll → S.lg ((S.rp (m 2)).1 7 + 1) = (S.rp (m 2)).1 22) : tr (F_X7_receive N c (m 2) k) (fun c' => WC mm c' (y_comes S m)) := by
  obtain ⟨m0, m0', m1, hr9, m3, m4, m5, m6, mq, mp⟩ := hmo
  obtain ⟨n1, hr, n6, n8⟩ := hmc
  have h' : WC mm c (S.set (m 2) (S.rp (m 2))) := by rw [set_id]; exact h
  have b25 := okv hO 25 (by decide)
  unfold F_X7_receive
  rw [WC_i h' hr h6 (show sci 715 = some 25 from rfl), fr_i (f := 3) h' hm (by decide), mx_n (by omega) (by omega), Nat.max_comm]
  refine tr_uI (max (m 3) ((S.rp (m 2)).1 25)) h' rfl fun c1 w => ?_
  have o1 : OkR S ((S.rp (m 2)).u 25 (max (m 3) ((S.rp (m 2)).1 25))) := hO.u rfl (show max (m 3) ((S.rp (m 2)).1 25) < 65536 by omega)
  have eS : y_seen S m = S.set (m 2) ((S.rp (m 2)).u 25 (max (m 3) ((S.rp (m 2)).1 25))) := rfl
  have x6 : ((S.rp (m 2)).u 25 (max (m 3) ((S.rp (m 2)).1 25))).1 6 = 1 := h6
  have x7 : ((S.rp (m 2)).u 25 (max (m 3) ((S.rp (m 2)).1 25))).1 7 = (S.rp (m 2)).1 7 := rfl
  have x9 : ((S.rp (m 2)).u 25 (max (m 3) ((S.rp (m 2)).1 25))).1 9 = (S.rp (m 2)).1 9 := rfl
  have x19 : ((S.rp (m 2)).u 25 (max (m 3) ((S.rp (m 2)).1 25))).1 19 = (S.rp (m 2)).1 19 := rfl
  have x20 : ((S.rp (m 2)).u 25 (max (m 3) ((S.rp (m 2)).1 25))).1 20 = (S.rp (m 2)).1 20 := rfl
  have x21 : ((S.rp (m 2)).u 25 (max (m 3) ((S.rp (m 2)).1 25))).1 21 = (S.rp (m 2)).1 21 := rfl
  have x22 : ((S.rp (m 2)).u 25 (max (m 3) ((S.rp (m 2)).1 25))).1 22 = (S.rp (m 2)).1 22 := rfl
  have x32 : ((S.rp (m 2)).u 25 (max (m 3) ((S.rp (m 2)).1 25))).1 32 = (S.rp (m 2)).1 32 := rfl
  have xq : ((S.rp (m 2)).u 25 (max (m 3) ((S.rp (m 2)).1 25))).2.1 = (S.rp (m 2)).2.1 := rfl
  have xF : FoOk ((S.rp (m 2)).u 25 (max (m 3) ((S.rp (m 2)).1 25))) := hF
  have xT : TlOk ((S.rp (m 2)).u 25 (max (m 3) ((S.rp (m 2)).1 25))) := hT
  have xL : LgC mm (S.set (m 2) ((S.rp (m 2)).u 25 (max (m 3) ((S.rp (m 2)).1 25)))) := by
    refine ⟨fun j hj => ?_, hL.2.1, hL.2.2⟩
    by_cases e : j = m 2
    · subst e
      rw [set_rp]
      exact hL.1 (m 2) hj
    · rw [set_ne _ _ e]
      exact hL.1 j hj
  rw [← x7] at b7 hl5
  rw [← x32] at b32
  rw [← x7, ← x9] at h0
  rw [← x21] at h21
  rw [← xq] at hU
  rw [← x7, ← x19, ← x20, ← x21, ← x22] at hl4
  generalize (S.rp (m 2)).u 25 (max (m 3) ((S.rp (m 2)).1 25)) = R at w o1 eS x6 b7 hl5 b32 h0 h21 hU hl4 xF xT xL ⊢
  have h7 := o1.2.2.2.2.1
  have h20 := okv o1 20 (by decide)
  have ek : cI c1 100 k = nI (m 0) := fr_i (f := 0) w hm (by decide)
  rw [ek]
  have hk10 : m 0 = 1 ∨ m 0 = 2 ∨ m 0 = 3 ∨ m 0 = 4 ∨ m 0 = 5 ∨ m 0 = 6 ∨ m 0 = 7 ∨ m 0 = 8 ∨ m 0 = 9 ∨ m 0 = 10 := by omega
  rcases hk10 with e | e | e | e | e | e | e | e | e | e
  · rw [come_1 e, eS, e, if_pos (show nI 1 = (1 : Int32) from rfl)]
    exact tr_bind (c_onPrepare hC w hr x6 hfl o1 hm m3 (by omega) h0) fun M2 w2 => tr_some w2
  · rw [come_2 e, eS, e, if_neg (show ¬ nI 2 = (1 : Int32) by decide), if_pos (show nI 2 = (2 : Int32) from rfl)]
    exact c_promised hC w hr x6 hfl o1 xT h21 hm n1 m3 (by omega) m5 m6 (n6 e)
  · rw [come_3 e, eS, e, if_neg (show ¬ nI 3 = (1 : Int32) by decide), if_neg (show ¬ nI 3 = (2 : Int32) by decide), if_pos (show nI 3 = (3 : Int32) from rfl)]
    exact tr_bind (c_onAccept hC w hr x6 hfl o1 xF hm m3 (by omega) (mq (Or.inl e)) m5 h0) fun M2 w2 => tr_some w2
  · rw [come_4 e, eS, e, if_neg (show ¬ nI 4 = (1 : Int32) by decide), if_neg (show ¬ nI 4 = (2 : Int32) by decide), if_neg (show ¬ nI 4 = (3 : Int32) by decide), if_pos (show nI 4 = (4 : Int32) from rfl)]
    exact c_accepted hC w hr x6 hfl o1 xF h21 hm e n1 m3 (by omega) xL b7 b32 hW (hl4 e)
  · rw [come_5 e, eS, e, set_rp, if_neg (show ¬ nI 5 = (1 : Int32) by decide), if_neg (show ¬ nI 5 = (2 : Int32) by decide), if_neg (show ¬ nI 5 = (3 : Int32) by decide), if_neg (show ¬ nI 5 = (4 : Int32) by decide), if_pos (show nI 5 = (5 : Int32) from rfl)]
    exact tr_bind (c_onChosen hC w hr x6 hfl o1 xF hm (by omega) (mq (Or.inr (Or.inl e))) m5 xL (hl5 e) hW) fun M2 w2 => tr_some w2
  · rw [come_6 e, eS, e, set_rp, if_neg (show ¬ nI 6 = (1 : Int32) by decide), if_neg (show ¬ nI 6 = (2 : Int32) by decide), if_neg (show ¬ nI 6 = (3 : Int32) by decide), if_neg (show ¬ nI 6 = (4 : Int32) by decide), if_neg (show ¬ nI 6 = (5 : Int32) by decide), if_pos (show nI 6 = (6 : Int32) from rfl), WC_ix w hr x6, fr_i (f := 4) w hm (by decide), fr_i (f := 1) w hm (by decide)]
    refine tr_lt (by omega) (by omega) (fun c2 => by rw [if_neg (by omega)]; exact tr_some w) (fun c2 => ?_)
    rw [if_pos c2]
    exact tr_bind (c_help hC w hr x6 hfl (by omega) o1.2.2.2.2.2.1 o1.2.2.2.2.2.2.2.1 (by omega) (h0 _) rfl rfl) fun M3 w3 => tr_some w3
  · rw [come_7 e, eS, e, set_rp, set_set, if_neg (show ¬ nI 7 = (1 : Int32) by decide), if_neg (show ¬ nI 7 = (2 : Int32) by decide), if_neg (show ¬ nI 7 = (3 : Int32) by decide), if_neg (show ¬ nI 7 = (4 : Int32) by decide), if_neg (show ¬ nI 7 = (5 : Int32) by decide), if_neg (show ¬ nI 7 = (6 : Int32) by decide), if_pos (show nI 7 = (7 : Int32) from rfl)]
    exact tr_bind (c_above w hr x6 xF (by omega) (by omega) (fr_i (f := 3) w hm (by decide))) fun M3 w3 => tr_some w3
  · rw [come_8 e, eS, e, if_neg (show ¬ nI 8 = (1 : Int32) by decide), if_neg (show ¬ nI 8 = (2 : Int32) by decide), if_neg (show ¬ nI 8 = (3 : Int32) by decide), if_neg (show ¬ nI 8 = (4 : Int32) by decide), if_neg (show ¬ nI 8 = (5 : Int32) by decide), if_neg (show ¬ nI 8 = (6 : Int32) by decide), if_neg (show ¬ nI 8 = (7 : Int32) by decide), if_pos (show nI 8 = (8 : Int32) from rfl)]
    exact tr_bind (c_onState hC hTW w hr x6 o1 hm e m4 (mp e) (n8 e) hW) fun M3 w3 => tr_some w3
  · rw [come_9 e, eS, e, if_neg (show ¬ nI 9 = (1 : Int32) by decide), if_neg (show ¬ nI 9 = (2 : Int32) by decide), if_neg (show ¬ nI 9 = (3 : Int32) by decide), if_neg (show ¬ nI 9 = (4 : Int32) by decide), if_neg (show ¬ nI 9 = (5 : Int32) by decide), if_neg (show ¬ nI 9 = (6 : Int32) by decide), if_neg (show ¬ nI 9 = (7 : Int32) by decide), if_neg (show ¬ nI 9 = (8 : Int32) by decide), if_pos (show nI 9 = (9 : Int32) from rfl)]
    exact tr_bind (c_onForward hC w hr x6 o1 hm (mq (Or.inr (Or.inr e))) hU) fun M3 w3 => tr_some w3
  · rw [come_10 e, eS, e, if_neg (show ¬ nI 10 = (1 : Int32) by decide), if_neg (show ¬ nI 10 = (2 : Int32) by decide), if_neg (show ¬ nI 10 = (3 : Int32) by decide), if_neg (show ¬ nI 10 = (4 : Int32) by decide), if_neg (show ¬ nI 10 = (5 : Int32) by decide), if_neg (show ¬ nI 10 = (6 : Int32) by decide), if_neg (show ¬ nI 10 = (7 : Int32) by decide), if_neg (show ¬ nI 10 = (8 : Int32) by decide), if_neg (show ¬ nI 10 = (9 : Int32) by decide), if_pos (show nI 10 = (10 : Int32) from rfl)]
    exact tr_bind (c_onBeat hC w hr x6 hfl o1 xF hm m3 (by omega) h0) fun M3 w3 => tr_some w3
/-! ===== a request is read again ===== -/
theorem nQ_ze {c : vC} (h : ∀ a, cz c ≤ a → cK c a = 0) : ze (nQ c) c := by
  refine ⟨Nat.le_succ _, fun a ha => ⟨va_up_ne _ _ (by omega), rfl, rfl, fun f f1 f2 => if_neg (fun q => by omega), if_neg (fun q => by omega)⟩, fun q a ha => ?_⟩
  have ha' : cz c + 1 ≤ a := ha
  show va_up (cK c) (cz c) 9 a = 0
  rw [va_up_ne _ _ (by omega)]
  exact q a (by omega)
theorem rdA_D {c c' : vC} {l : List Nat} {n : Nat} (h : rdA c l n) (e1 : ∀ f, f < 100 → ∀ i, cI c' f i = cI c f i) (e2 : cR c' = cR c) : rdA c' l n := by
  obtain ⟨⟨a, b, d, e⟩, g, k⟩ := h
  exact ⟨⟨(e1 1 (by decide) 1).trans a, b, d, fun x hx => by rw [e2]; exact e x hx⟩, (e1 2 (by decide) 1).trans g, k⟩
