/-! ===== commit and try again ===== -/
def Sx.tbl (S : Sx) (q : Rq) : Sx := (va_up S.1 4 (S.1 4 + 1), va_up S.2.1 (S.1 4) q, S.2.2)
theorem st_t {V : Nat} {tb tb' : Nat → Rq} {g : Nat → Nat} : ∀ i, (∀ j, 1 ≤ j → j ≤ i → tb' (g j) = tb (g j)) → stN V tb' g i = stN V tb g i := by
  intro i
  induction i with
  | zero => intro _; rfl
  | succ i ih =>
    intro h
    show y_app V (stN V tb' g i) i (tb' (g (i + 1))) = y_app V (stN V tb g i) i (tb (g (i + 1)))
    rw [ih (fun j h1 hj => h j h1 (by omega)), h (i + 1) (by omega) (Nat.le_refl _)]
theorem sta_tbl {S : Sx} {q : Rq} (hL : ∀ i, 1 ≤ i → i ≤ S.ll → S.lg i < S.1 4) {i : Nat} (hi : i ≤ S.ll) : (S.tbl q).sta i = S.sta i :=
  st_t i (fun j h1 h2 => va_up_ne _ _ (Nat.ne_of_lt (hL j h1 (by omega))))
theorem WM_st {M M' : vM} {S S' : Sx} (h : WM M S) (hN : ∀ f, sf f = true → M'.1 f = nI (S'.1 f)) (e53 : M'.1 53 = M.1 53) (hV : S'.V = S.V) (hlg : S'.lg = S.lg) (hrp : S'.rp = S.rp) (hse : S'.se = S.se) (hfl : S'.fl = S.fl) (hL : LgOk S) (es : ∀ i, i ≤ S.ll → S'.sta i = S.sta i) (e2 : ∀ j, 6 ≤ j → M'.2 j = M.2 j) (rt : RT M'.2 S'.tb (S'.1 4)) : WM M' S' := by
  obtain ⟨h1, h2, h3, h4, h5, h6⟩ := h
  have ev : ∀ r, vw M' r = vw M r := fun r => by
    funext j i
    unfold vw
    by_cases q : i < zs j
    · have := zs_0 (j := j) (fun e => by rw [e] at q; exact absurd q (Nat.not_lt_zero _))
      rw [if_pos q, if_pos q, e2 j (by omega)]
    · rw [if_neg q, if_neg q]
  refine ⟨hN, by rw [e53, hfl]; exact h2, rt, fun r hr => ?_, fun s hs => ?_, fun i hi => ?_⟩
  · obtain ⟨l1, l2⟩ := hL.1 r hr
    obtain ⟨a1, a2, a3, a4, a5, a6, a7, a8, a9, a10, a11⟩ := h4 r hr
    rw [hV, hlg, hrp, ev]
    refine ⟨a1, fun i k b1 b2 b3 => ?_, fun i b1 b2 b3 => ?_, a4, fun s hs => ?_, fun s hs => ?_, a7, a8, fun k hk => ?_, a10, a11⟩
    · rw [es i (by omega)]; exact a2 i k b1 b2 b3
    · rw [es i (by omega)]; exact a3 i b1 b2 b3
    · rw [es _ l1]; exact a5 s hs
    · rw [es _ l1]; exact a6 s hs
    · obtain ⟨p1, p2, p3, p4, p5, p6⟩ := a9 k hk
      have hm := l2 _ (getD_memN (l := (S.rp r).2.2.1) hk)
      refine ⟨p1, p2, p3, p4, fun e => ?_, fun e x hx => ?_⟩
      · have := p5 e
        rw [← es _ (hm (Or.inl e))] at this; exact this
      · have := p6 e x hx
        rw [← es _ (hm (Or.inr e))] at this; exact this
  · rw [hse]; exact RS_c (fun f hf => e2 f (by omega)) (h5 s hs)
  · rw [hfl] at hi ⊢
    rw [hV]
    obtain ⟨p1, p2, p3⟩ := RG_c (B := M'.2) (fun f f1 f2 => e2 f (by omega)) (h6 i hi)
    refine ⟨p1, p2, fun e => ?_⟩
    have hm := hL.2 _ (getD_memM (l := S.fl) hi) e
    have := p3 e
    rw [← es _ hm] at this; exact this
theorem q_cm {ρ : Type} {s n : Nat} {kx : vM → Option ρ} {Q : ρ → Prop} (hs : s < 16) (hn : n < 4200) : ∀ (d k fl : Nat) (M : vM), k + d = 16 → d < fl → (∀ M', M'.1 = M.1 → (∀ j x, ¬ (j = 5 ∧ 16 * n ≤ x ∧ x < 16 * n + 16) → M'.2 j x = M.2 j x) → (∀ i, i < k → M'.2 5 (16 * n + i) = M.2 5 (16 * n + i)) → (∀ i, k ≤ i → i < 16 → M'.2 5 (16 * n + i) = M.2 54 (16 * s + i)) → tr (kx M') Q) → tr (L_X12_commitIt_124 (nI s) (nI n) kx fl M (nI k)) Q := by
  intro d
  induction d with
  | zero =>
    intro k fl M h1 h2 g
    obtain ⟨fl, rfl⟩ : ∃ f', fl = f' + 1 := ⟨fl - 1, by omega⟩
    rw [L_X12_commitIt_124, if_pos (show (16 : Int32) ≤ nI k from nI_le (a := 16) (by omega) (by omega))]
    exact g M rfl (fun _ _ _ => rfl) (fun _ _ => rfl) (fun i h3 h4 => by omega)
  | succ d ih =>
    intro k fl M h1 h2 g
    obtain ⟨fl, rfl⟩ : ∃ f', fl = f' + 1 := ⟨fl - 1, by omega⟩
    rw [L_X12_commitIt_124, if_neg (show ¬ (16 : Int32) ≤ nI k from nI_ge (b := 16) (by omega) (by decide)), show (16 : Int32) * nI s + nI k = nI (16 * s + k) by rw [show (16 : Int32) = nI 16 from rfl, nI_mul, nI_add], show (16 : Int32) * nI n + nI k = nI (16 * n + k) by rw [show (16 : Int32) = nI 16 from rfl, nI_mul, nI_add], nI_add1]
    refine tr_G (show 16 * s + k < 256 by omega) (by omega) ?_
    refine tr_S (show 16 * n + k < 67200 by omega) (by omega) ?_
    refine ih (k + 1) fl _ (by omega) (by omega) fun M' w1 w2 w3 w4 => g M' w1 (fun j x hx => ?_) (fun i hi => ?_) (fun i h3 h4 => ?_)
    · rw [w2 j x hx]
      by_cases e : j = 5
      · subst e; exact uE_i _ _ (fun q => hx ⟨rfl, by omega, by omega⟩)
      · exact uE_j _ _ _ e
    · rw [w3 i (by omega)]; exact uE_i _ _ (by omega)
    · by_cases e : i = k
      · subst e
        rw [w3 i (by omega), uE_s]
      · rw [w4 i (by omega) h4, uE_j _ _ _ (by decide)]
def y_rqE (e : Se) (s : Nat) : Rq := (fun f => match f with | 0 => s | 1 => e.1 47 + 1 | _ => e.1 49, fun f => if f = 3 then e.2.1 50 else e.2.1 51, e.2.2)
def y_comE (e : Se) (n : Nat) : Se := (((e.u 47 (e.1 47 + 1)).u 53 n).u 46 2)
def y_com (S : Sx) (s : Nat) : Sx := (S.tbl (y_rqE (S.se s) s)).ses s (y_comE (S.se s) (S.1 4))
def y_commit (S : Sx) (s : Nat) : Sx := y_wait (y_com S s) ((S.se s).1 48) (S.1 4)
theorem Cx_tbl {S : Sx} {s : Nat} (hC : Cx S) (hs : s < 16) (h4 : S.1 4 + 1 ≤ 4200) (h47 : (S.se s).1 47 + 1 < 2 ^ 30) (h49 : (S.se s).1 49 < 2 ^ 30) : Cx (y_com S s) := by
  obtain ⟨c1, c2, c3, c4, c5, c6, c7, c8, c9, c10, c11⟩ := hC
  have e : ∀ f, f ≠ 4 → (y_com S s).1 f = S.1 f := fun f hf => va_up_ne _ _ hf
  refine ⟨by rw [show (y_com S s).N = S.N from e 1 (by decide)]; exact c1, by rw [show (y_com S s).N = S.N from e 1 (by decide)]; exact c2, by rw [show (y_com S s).V = S.V from e 2 (by decide)]; exact c3, by rw [show (y_com S s).V = S.V from e 2 (by decide)]; exact c4, by rw [show (y_com S s).L = S.L from e 3 (by decide)]; exact c5, by rw [show (y_com S s).L = S.L from e 3 (by decide)]; exact c6, by rw [show (y_com S s).T = S.T from e 11 (by decide)]; exact c7, by rw [show (y_com S s).T = S.T from e 11 (by decide)]; exact c8, fun q => ?_, ?_, fun k hk => ?_⟩
  · show (va_up S.tb (S.1 4) (y_rqE (S.se s) s) q).1 0 < 16 ∧ _
    by_cases eq : q = S.1 4
    · subst eq
      show (va_up S.tb (S.1 4) (y_rqE (S.se s) s) (S.1 4)).1 0 < 16 ∧ (va_up S.tb (S.1 4) (y_rqE (S.se s) s) (S.1 4)).1 1 < 2 ^ 30 ∧ (va_up S.tb (S.1 4) (y_rqE (S.se s) s) (S.1 4)).1 2 < 2 ^ 30
      rw [va_up_self]
      exact ⟨hs, h47, h49⟩
    · show (va_up S.tb (S.1 4) (y_rqE (S.se s) s) q).1 0 < 16 ∧ (va_up S.tb (S.1 4) (y_rqE (S.se s) s) q).1 1 < 2 ^ 30 ∧ (va_up S.tb (S.1 4) (y_rqE (S.se s) s) q).1 2 < 2 ^ 30
      rw [va_up_ne _ _ eq]; exact c9 q
  · show va_up S.1 4 (S.1 4 + 1) 4 ≤ 4200
    rw [va_up_self]; exact h4
  · by_cases ek : k = s
    · subst ek
      have : (y_com S k).se k = y_comE (S.se k) (S.1 4) := ses_s _ _ _
      rw [this]
      exact ⟨show 2 < 2 ^ 31 by decide, (c11 k hk).2.1, show (S.se k).1 47 + 1 < 2 ^ 31 by omega⟩
    · have : (y_com S s).se k = S.se k := ses_n _ _ ek
      rw [this]; exact c11 k hk
theorem WC_tb {mm : Kp} {c : vC} {S : Sx} {x : Rq} (h : WC mm c S) (hm : mm.2 = []) (hmm : ∀ k m, mm.1 = some (k, m) → m 5 < S.1 4) (hN : S.N ≤ 9) (hL : LgC mm S) (hlg : ∀ i, 1 ≤ i → i ≤ S.ll → S.lg i < S.1 4) (hf : ∀ m, m ∈ S.fl → m 5 < S.1 4) (hr : ∀ r, r < S.N → (S.rp r).1 6 = 1 → (S.rp r).1 22 < S.1 4 ∧ (S.rp r).1 23 < S.1 4 ∧ (S.rp r).1 12 < S.1 4 ∧ ∀ q, q ∈ (S.rp r).2.1 → q < S.1 4) (hs : ∀ s, s < 16 → (S.se s).1 46 = 2 → (S.se s).1 53 < S.1 4) : WC mm c (S.tbl x) := by
  obtain ⟨h1, h2, ⟨hd, a1, a2, a3, a4, p, t, b1, b2, b3, b4, b5, b6, b7⟩, h4, h5⟩ := h
  have es : ∀ i, i ≤ S.ll → (S.tbl x).sta i = S.sta i := fun i hi => sta_tbl hlg hi
  have et : ∀ {o : Option Nat} {q : Nat}, q < S.1 4 → RqO c S.tb o q → RqO c (S.tbl x).tb o q := fun {o q} hq g => ⟨g.1, fun h0 => by
    obtain ⟨a, e1, e2⟩ := g.2 h0
    refine ⟨a, e1, ?_⟩
    show RqA c a (va_up S.tb (S.1 4) x q)
    rw [va_up_ne _ _ (by omega)]; exact e2⟩
  have ef : ∀ {k : Nat} {m : Mg}, m 5 < S.1 4 → (m 0 = 8 → m 4 ≤ S.ll) → FrA c S.V S.sta S.tb k m → FrA c S.V (S.tbl x).sta (S.tbl x).tb k m := fun {k m} hq hl g => by
    have g' := FrA_st (st' := (S.tbl x).sta) g (fun q => es _ (hl q))
    obtain ⟨f1, f2, f3, f4, f5, f6, f7⟩ := g'
    exact ⟨f1, et hq f2, f3, f4, f5, f6, f7⟩
  refine ⟨h1, h2, ⟨⟨fun k m e => ⟨(hd.1 k m e).1, ef (hmm k m e) (hL.2.2 k m e) (hd.1 k m e).2⟩, fun a q e => by rw [hm] at e; cases e⟩, a1, a2, a3, a4, p, t, b1, b2, b3, b4, b5, b6, fun i hi => ef (hf _ (getD_memM (l := S.fl) hi)) (hL.2.1 _ (getD_memM (l := S.fl) hi)) (b7 i hi)⟩, fun s hs' => ?_, fun k hk => ?_⟩
  · obtain ⟨s1, s2, s3, s4, s5, s6, s7, s8, s9⟩ := h4 s hs'
    exact ⟨s1, s2, s3, s4, s5, s6, s7, fun e => et (hs s hs' e) (s8 e), s9⟩
  · obtain ⟨q1, q2⟩ := h5 k hk
    have hk' : k < S.N := hk
    refine ⟨q1, fun h6 => ?_⟩
    have h6' : (S.rp k).1 6 = 1 := h6
    obtain ⟨r1, r2, r3, r4⟩ := hr k hk' h6'
    obtain ⟨l1, l2⟩ := hL.1 k (by omega)
    obtain ⟨w1, w2, w3, w4, w5, w6, s1, s2, s3, s4, s5, s6, s7, s8⟩ := q2 h6
    have e7 : (S.tbl x).sta ((S.rp k).1 7) = S.sta ((S.rp k).1 7) := es _ l1
    refine ⟨w1, fun f g hf => et ?_ (w2 f g hf), w3, w4, ⟨w5.1, fun i hi => et (r4 _ (getD_mem hi)) (w5.2 i hi)⟩, w6.c (fun _ _ _ => rfl) rfl rfl rfl ?_, s1, s2, s3, ?_, ?_, ?_, fun i y x1 x2 x3 => ?_, fun i x1 x2 => ?_⟩
    · rcases (pci_r hf).2.1 with rfl | rfl | rfl
      · exact r1
      · exact r2
      · exact r3
    · show encSt S.V ((S.tbl x).sta ((S.rp k).1 43)) _ = encSt S.V (S.sta ((S.rp k).1 43)) _
      rw [es _ l2]
    · intro s hs; rw [show (S.tbl x).sta (((S.tbl x).rp k).1 7) = S.sta ((S.rp k).1 7) from e7]; exact s4 s hs
    · intro s hs; rw [show (S.tbl x).sta (((S.tbl x).rp k).1 7) = S.sta ((S.rp k).1 7) from e7]; exact s5 s hs
    · intro s hs; rw [show (S.tbl x).sta (((S.tbl x).rp k).1 7) = S.sta ((S.rp k).1 7) from e7]; exact s6 s hs
    · have x2' : i ≤ (S.rp k).1 7 := x2
      rw [es i (by omega)]; exact s7 i y x1 x2 x3
    · have x2' : i ≤ (S.rp k).1 7 := x2
      have x1' : (S.rp k).1 9 < i := x1
      exact et (hlg i (by omega) (by omega)) (s8 i x1 x2)
