/-! ===== what every state keeps to, K calls on ===== -/
def okK (K G : Nat) (S : Sx) (f v : Nat) : Prop := match f with
  | 6 => v ≤ 1
  | 7 => v ≤ S.ll
  | 10 => v ≤ 9 * K
  | 11 => v ≤ 9 * K
  | 12 => v < S.1 4
  | 13 => v ≤ K
  | 19 => v ≤ 2
  | 20 => v ≤ 9 * K
  | 21 => v < 2 ^ S.N
  | 22 => v < S.1 4
  | 23 => v < S.1 4
  | 24 => v ≤ 9 * K
  | 25 => v ≤ 9 * K
  | 32 => v ≤ G
  | 43 => v ≤ S.ll
  | 44 => v < 16
  | _ => True
theorem okK_u {K G : Nat} {S : Sx} {R : Rp} {f v : Nat} (h : ∀ x, okK K G S x (R.1 x)) (hv : okK K G S f v) : ∀ x, okK K G S x ((R.u f v).1 x) := fun x => by
  by_cases e : x = f
  · subst e; rw [u_s]; exact hv
  · rw [u_n _ _ e]; exact h x
theorem okK_m {K K' G G' : Nat} {S S' : Sx} {f v : Nat} (h : okK K G S f v) (hK : K ≤ K') (hG : G ≤ G') (e : Gw S S') : okK K' G' S' f v := by
  obtain ⟨e1, _, _, e4, e5, _⟩ := e
  unfold okK at h ⊢
  split at h <;> first
    | exact h
    | (show _ ≤ _; exact Nat.le_trans h e5)
    | (show _ < _; exact Nat.lt_of_lt_of_le h e4)
    | (show _ ≤ 9 * K'; omega)
    | (show _ ≤ K'; omega)
    | (show _ ≤ G'; omega)
    | (rw [e1]; exact h)
    | exact True.intro
def SfK (S : Sx) (R : Rp) : Prop := R.1 8 ≤ R.1 7 ∧ R.1 7 ≤ R.1 8 + S.V ∧ R.1 9 ≤ R.1 7 ∧ R.1 7 ≤ R.1 9 + S.L
def Lo (K G : Nat) (S : Sx) (R : Rp) : Prop := (∀ f, okK K G S f (R.1 f)) ∧ SfK S R ∧ QOk S R ∧ FoOk R ∧ AcOk R ∧ TlOk R
def RpI (K G : Nat) (g : Gh) (pm : Nat → Nat) (S : Sx) (r : Nat) (R : Rp) : Prop := PxI S.N g pm r R ∧ Lo K G S R ∧ DD S R ∧ (R.1 6 = 1 → R.2.2.1.length < 48) ∧ (R.1 6 = 0 → DnOk R)
def pmS (S : Sx) : Nat → Nat := fun k => (S.rp k).1 10
def ixS (S : Sx) : Nat → Nat := fun k => (S.rp k).1 7
def SeI (K : Nat) (S : Sx) (e : Se) : Prop := e.1 46 ≤ 4 ∧ e.1 52 ≤ 1 ∧ e.1 47 ≤ K ∧ (e.1 46 = 1 → e.1 49 ≤ S.ll) ∧ W16 (e.2.1 50) ∧ W16 (e.2.1 51) ∧ (e.1 46 = 1 → e.1 48 < S.N ∧ (S.rp (e.1 48)).1 6 = 1 ∧ e.1 49 ≤ (S.rp (e.1 48)).1 7) ∧ (e.1 46 = 2 → e.1 48 < S.N ∧ 0 < e.1 47 ∧ 0 < e.1 53 ∧ e.1 53 < S.1 4)
def TI (S : Sx) : Prop := TbW S.tb ∧ (S.tb 0).1 1 = 0 ∧ (∀ q, 0 < q → q < S.1 4 → 0 < (S.tb q).1 1 ∧ (S.tb q).1 1 ≤ (S.se ((S.tb q).1 0)).1 47) ∧ (∀ q q', q < S.1 4 → q' < S.1 4 → (S.tb q).1 0 = (S.tb q').1 0 → (S.tb q).1 1 = (S.tb q').1 1 → q = q') ∧ ∀ i, 1 ≤ i → i ≤ S.ll → 0 < S.lg i ∧ S.lg i < S.1 4
/-- the bytes of a frame, unspoilt -/
def y_pcs (S : Sx) (m : Mg) : List Nat := ((S.enc (m 4)).drop (64 * m 8)).take 64
def y_frB (S : Sx) (m : Mg) : List Nat := 165 :: m 0 :: (16 * m 1 + m 2) :: (encU (m 3) ++ (encU (m 4) ++ ((if m 0 = 2 then (if m 5 = 0 then [0] else 1 :: encU (m 6)) else []) ++ ((if m 5 = 0 then [] else encQ (S.tb (m 5))) ++ (if m 0 = 8 then m 8 :: y_many S (m 4) :: (y_pcs S m).length :: y_pcs S m else [])))))
def y_frm (S : Sx) (m : Mg) : List Nat := y_frB S m ++ le4 (chk (y_frB S m))
def SpM (S : Sx) (m : Mg) : Prop := m 7 < 65536 ∧ (0 < m 7 → (m 7 - 1) / 8 < (y_frm S m).length)
theorem SpM0 {S : Sx} {m : Mg} (h : m 7 = 0) : SpM S m := ⟨by omega, fun q => by omega⟩
def MgB (K : Nat) (S : Sx) (m : Mg) : Prop := 1 ≤ m 0 ∧ m 0 ≤ 10 ∧ m 1 < S.N ∧ m 2 < S.N ∧ m 3 ≤ 9 * K ∧ m 4 ≤ S.ll + 1 ∧ m 5 < S.1 4 ∧ m 6 ≤ 9 * K ∧ SpM S m ∧ (m 0 = 3 ∨ m 0 = 5 ∨ m 0 = 9 → 0 < m 5) ∧ (m 0 = 2 → 0 < m 5 → 0 < m 6) ∧ (m 0 = 8 → m 4 ≤ S.ll ∧ m 8 < y_many S (m 4))
def MgI (K : Nat) (g : Gh) (pm : Nat → Nat) (S : Sx) (m : Mg) : Prop := MgB K S m ∧ MsI S.N g pm m
def Cn (K : Nat) (g : Gh) (S : Sx) (r : Nat) : Prop := Cx S ∧ S.fl.length ≤ 200 ∧ S.ll ≤ K ∧ S.1 4 ≤ K + 1 ∧ 0 < S.1 4 ∧ TI S ∧ (∀ s, s < 16 → SeI K S (S.se s)) ∧ PI S.N g (pmS S) (ixS S) ∧ (∀ m, m ∈ S.fl → MgI K g (pmS S) S m) ∧ (∀ i, 1 ≤ i → i ≤ S.ll → Chs S.N g i (S.lg i)) ∧ (∀ k, k < S.N → k ≠ r → RpI K (1 + 4 * K) g (pmS S) S k (S.rp k)) ∧ ∀ k, S.N ≤ k → (S.rp k).1 7 = 0 ∧ (S.rp k).1 43 = 0 ∧ (S.rp k).2.2.1 = []
def IvS (K : Nat) (S : Sx) : Prop := ∃ g, Cn K g S 9
theorem Gw_e {S S' : Sx} (h : ∀ f, f = 1 ∨ f = 2 ∨ f = 3 ∨ f = 4 ∨ f = 100 → S'.1 f = S.1 f) (h1 : S'.tb = S.tb) (h2 : S'.lg = S.lg) : Gw S S' := by
  have eV : S'.V = S.V := h 2 (by decide)
  refine ⟨h 1 (by decide), eV, h 3 (by decide), Nat.le_of_eq (h 4 (by decide)).symm, Nat.le_of_eq (h 100 (by decide)).symm, fun i _ _ => by rw [h2], fun q _ => by rw [h1], fun i _ => ?_⟩
  unfold Sx.sta
  rw [eV, h1, h2]
theorem Gw.tr {A B C : Sx} (h : Gw A B) (g : Gw B C) : Gw A C := by
  obtain ⟨h1, h2, h3, h4, h5, h6, h7, h8⟩ := h
  obtain ⟨g1, g2, g3, g4, g5, g6, g7, g8⟩ := g
  exact ⟨g1.trans h1, g2.trans h2, g3.trans h3, Nat.le_trans h4 g4, Nat.le_trans h5 g5, fun i a b => (g6 i a (Nat.le_trans b h5)).trans (h6 i a b), fun q a => (g7 q (Nat.lt_of_lt_of_le a h4)).trans (h7 q a), fun i a => (g8 i (Nat.le_trans a h5)).trans (h8 i a)⟩
theorem Gw_set (S : Sx) (r : Nat) (R : Rp) : Gw S (S.set r R) := Gw_e (fun _ _ => rfl) rfl rfl
theorem Gw_set' (S : Sx) (r : Nat) (R : Rp) : Gw (S.set r R) S := Gw_e (fun _ _ => rfl) rfl rfl
theorem Gw_setr (S : Sx) (r : Nat) (R R' : Rp) : Gw (S.set r R) (S.set r R') := Gw_e (fun _ _ => rfl) rfl rfl
theorem many_g {S S' : Sx} (e : Gw S S') {i : Nat} (hi : i ≤ S.ll) : y_many S' i = y_many S i := by
  unfold y_many Sx.enc
  rw [e.2.1, e.2.2.2.2.2.2.2 i hi]
theorem Lo.m {K K' G G' : Nat} {S S' : Sx} {R : Rp} (h : Lo K G S R) (hK : K ≤ K') (hG : G ≤ G') (e : Gw S S') : Lo K' G' S' R := by
  obtain ⟨h1, h2, h3, h4⟩ := h
  refine ⟨fun f => okK_m (h1 f) hK hG e, ?_, ⟨h3.1, fun q hq => ⟨(h3.2 q hq).1, Nat.lt_of_lt_of_le (h3.2 q hq).2 e.2.2.2.1⟩⟩, h4⟩
  unfold SfK
  rw [e.2.1, e.2.2.1]; exact h2
theorem RpI.m {K K' G G' : Nat} {g g' : Gh} {pm pm' : Nat → Nat} {S S' : Sx} {r : Nat} {R : Rp} (h : RpI K G g pm S r R) (hK : K ≤ K') (hG : G ≤ G') (e : Gw S S') (x : Ex g pm g' pm') (hv : ∀ s b, g'.2 s b r → g.2 s b r) (hp : ∀ s b, b % S.N = r → 0 < g'.1 s b → 0 < g.1 s b) : RpI K' G' g' pm' S' r R := by
  obtain ⟨h1, h2, h3, h4⟩ := h
  refine ⟨?_, h2.m hK hG e, h3.g e, h4⟩
  rw [e.1]; exact h1.e x hv hp
theorem frm_g {S S' : Sx} {m : Mg} (e : Gw S S') (h5 : m 5 < S.1 4) (h8 : m 0 = 8 → m 4 ≤ S.ll) : y_frm S' m = y_frm S m := by
  have e1 : y_frB S' m = y_frB S m := by
    unfold y_frB
    rw [e.2.2.2.2.2.2.1 _ h5]
    by_cases c : m 0 = 8
    · have e2 : y_pcs S' m = y_pcs S m := by
        unfold y_pcs Sx.enc
        rw [e.2.1, e.2.2.2.2.2.2.2 _ (h8 c)]
      rw [e2, many_g e (h8 c)]
    · rw [if_neg c, if_neg c]
  unfold y_frm
  rw [e1]
theorem SpM.m {S S' : Sx} {m : Mg} (h : SpM S m) (h5 : m 5 < S.1 4) (h8 : m 0 = 8 → m 4 ≤ S.ll) (e : Gw S S') : SpM S' m := ⟨h.1, fun q => by rw [frm_g e h5 h8]; exact h.2 q⟩
theorem MgB.m {K K' : Nat} {S S' : Sx} {m : Mg} (h : MgB K S m) (hK : K ≤ K') (e : Gw S S') : MgB K' S' m := by
  obtain ⟨h1, h2, h3, h4, h5, h6, h7, h8, h9, h10, h11, h12⟩ := h
  have e4 := e.2.2.2.1
  have e5 := e.2.2.2.2.1
  refine ⟨h1, h2, by rw [e.1]; exact h3, by rw [e.1]; exact h4, by omega, by omega, by omega, by omega, h9.m h7 (fun q => (h12 q).1) e, h10, h11, fun q => ⟨by have := (h12 q).1; omega, by rw [many_g e (h12 q).1]; exact (h12 q).2⟩⟩
theorem MgI.m {K K' : Nat} {g g' : Gh} {pm pm' : Nat → Nat} {S S' : Sx} {m : Mg} (h : MgI K g pm S m) (hK : K ≤ K') (e : Gw S S') (x : Ex g pm g' pm') : MgI K' g' pm' S' m := by
  refine ⟨h.1.m hK e, ?_⟩
  rw [e.1]; exact h.2.e x
/-- a step of replica r -/
theorem Cn.step {K K' : Nat} {g g' : Gh} {S S' : Sx} {r : Nat} (h : Cn K g S r) (hK : K ≤ K') (e : Gw S S') (hC : Cx S') (hf : S'.fl.length ≤ 200) (hl : S'.ll ≤ K') (hn : S'.1 4 ≤ K' + 1) (hT : TI S') (hS : ∀ s, s < 16 → SeI K' S' (S'.se s)) (hP : PI S'.N g' (pmS S') (ixS S')) (x : Ex g (pmS S) g' (pmS S')) (ho : ∀ k, k ≠ r → S'.rp k = S.rp k) (hv : ∀ k s b, k < S.N → k ≠ r → g'.2 s b k → g.2 s b k) (hp : ∀ k s b, k < S.N → k ≠ r → b % S.N = k → 0 < g'.1 s b → 0 < g.1 s b) (hm : ∀ m, m ∈ S'.fl → m ∈ S.fl ∨ MgI K' g' (pmS S') S' m) (hc : ∀ i, S.ll < i → i ≤ S'.ll → Chs S.N g' i (S'.lg i)) (hr : r < S.N) : Cn K' g' S' r := by
  obtain ⟨h1, h2, h3, h4, h5, h6, h7, h8, h9, h10, h11, h12⟩ := h
  refine ⟨hC, hf, hl, hn, Nat.lt_of_lt_of_le h5 e.2.2.2.1, hT, hS, hP, fun m hm' => ?_, fun i i1 i2 => ?_, fun k k1 k2 => ?_, fun k k1 => ?_⟩
  · rcases hm m hm' with q | q
    · exact (h9 m q).m hK e x
    · exact q
  · rw [e.1]
    by_cases c : i ≤ S.ll
    · rw [e.2.2.2.2.2.1 i i1 c]; exact (h10 i i1 c).e x
    · exact hc i (by omega) i2
  · rw [e.1] at k1
    rw [ho k k2]
    exact (h11 k k1 k2).m hK (by omega) e x (fun s b => hv k s b k1 k2) (fun s b => hp k s b k1 k2)
  · rw [e.1] at k1
    rw [ho k (by omega)]; exact h12 k k1
theorem SeI.m {K K' : Nat} {S S' : Sx} {s : Se} (h : SeI K S s) (hK : K ≤ K') (e : Gw S S') (h6 : ∀ k, k < S.N → (S'.rp k).1 6 = (S.rp k).1 6 ∧ (S.rp k).1 7 ≤ (S'.rp k).1 7) : SeI K' S' s := by
  obtain ⟨h1, h2, h3, h4, h5, h6', h7, h8⟩ := h
  have e4 := e.2.2.2.1
  have e5 := e.2.2.2.2.1
  refine ⟨h1, h2, by omega, fun q => by have := h4 q; omega, h5, h6', fun q => ?_, fun q => ?_⟩
  · obtain ⟨a1, a2, a3⟩ := h7 q
    rw [e.1, (h6 _ a1).1]
    exact ⟨a1, a2, Nat.le_trans a3 (h6 _ a1).2⟩
  · obtain ⟨a1, a2, a3, a4⟩ := h8 q
    rw [e.1]
    exact ⟨a1, a2, a3, Nat.lt_of_lt_of_le a4 e4⟩
theorem TI.m {S S' : Sx} (h : TI S) (h1 : S'.tb = S.tb) (h2 : S'.1 4 = S.1 4) (h3 : S'.ll = S.ll) (h4 : S'.lg = S.lg) (h5 : ∀ s, (S'.se s).1 47 = (S.se s).1 47) : TI S' := by
  unfold TI
  rw [h1, h2, h3, h4]
  refine ⟨h.1, h.2.1, fun q a b => ?_, h.2.2.2.1, h.2.2.2.2⟩
  rw [h5]; exact h.2.2.1 q a b
theorem pm_set (S : Sx) (r : Nat) (R : Rp) : pmS (S.set r R) = va_up (pmS S) r (R.1 10) := by
  funext k
  by_cases e : k = r
  · subst e
    rw [va_up_self]
    show ((S.set k R).rp k).1 10 = _
    rw [set_rp]
  · rw [va_up_ne _ _ e]
    show ((S.set r R).rp k).1 10 = (S.rp k).1 10
    rw [set_ne _ _ e]
theorem ix_set (S : Sx) (r : Nat) (R : Rp) : ixS (S.set r R) = va_up (ixS S) r (R.1 7) := by
  funext k
  by_cases e : k = r
  · subst e
    rw [va_up_self]
    show ((S.set k R).rp k).1 7 = _
    rw [set_rp]
  · rw [va_up_ne _ _ e]
    show ((S.set r R).rp k).1 7 = (S.rp k).1 7
    rw [set_ne _ _ e]
theorem pm_ss {S : Sx} {r : Nat} {R R' : Rp} (h : R'.1 10 = R.1 10) : pmS (S.set r R') = pmS (S.set r R) := by rw [pm_set, pm_set, h]
theorem ix_ss {S : Sx} {r : Nat} {R R' : Rp} (h : R'.1 7 = R.1 7) : ixS (S.set r R') = ixS (S.set r R) := by rw [ix_set, ix_set, h]
theorem SeI_set {K : Nat} {S : Sx} {r : Nat} {R R' : Rp} {s : Se} (h : SeI K (S.set r R) s) (h6 : R'.1 6 = R.1 6) (h7 : R.1 7 ≤ R'.1 7) : SeI K (S.set r R') s := h.m (Nat.le_refl _) (Gw_setr S r R R') (fun k _ => by
  by_cases e : k = r
  · subst e; rw [set_rp, set_rp]; exact ⟨h6, h7⟩
  · rw [set_ne _ _ e, set_ne _ _ e]; exact ⟨rfl, Nat.le_refl _⟩)
/-- what the replica alone changes, and no one else may see -/
theorem Cn.set {K : Nat} {g : Gh} {S : Sx} {r : Nat} {R R' : Rp} (h : Cn K g (S.set r R) r) (hr : r < S.N) (h6 : R'.1 6 = R.1 6) (h7 : R'.1 7 = R.1 7) (h10 : R'.1 10 = R.1 10) : Cn K g (S.set r R') r := by
  have h' := h
  obtain ⟨q1, q2, q3, q4, q5, q6, q7, q8, q9, q10, q11, q12⟩ := h'
  refine h.step (Nat.le_refl _) (Gw_setr S r R R') q1 q2 q3 q4 (TI.m q6 rfl rfl rfl rfl (fun _ => rfl)) (fun s hs => SeI_set (q7 s hs) h6 (Nat.le_of_eq h7.symm)) ?_ ?_ (fun k hk => by rw [set_ne _ _ hk, set_ne _ _ hk]) (fun _ _ _ _ _ w => w) (fun _ _ _ _ _ _ w => w) (fun m hm => Or.inl hm) (fun i i1 i2 => absurd i2 (Nat.not_le_of_lt i1)) hr
  · rw [pm_ss h10, ix_ss h7]; exact q8
  · rw [pm_ss h10]; exact Ex.refl (fun _ => Nat.le_refl _)
/-- the promise rises -/
theorem Cn.raise {K : Nat} {g : Gh} {S : Sx} {r : Nat} {R R' : Rp} (h : Cn K g (S.set r R) r) (hr : r < S.N) (h6 : R'.1 6 = R.1 6) (h7 : R.1 7 ≤ R'.1 7) (h10 : R.1 10 ≤ R'.1 10) : Cn K g (S.set r R') r := by
  have h' := h
  obtain ⟨q1, q2, q3, q4, q5, q6, q7, q8, q9, q10, q11, q12⟩ := h'
  have hpm : ∀ k, pmS (S.set r R) k ≤ pmS (S.set r R') k := fun k => by
    rw [pm_set, pm_set]
    by_cases e : k = r
    · subst e; rw [va_up_self, va_up_self]; exact h10
    · rw [va_up_ne _ _ e, va_up_ne _ _ e]; exact Nat.le_refl _
  have hix : ∀ k, ixS (S.set r R) k ≤ ixS (S.set r R') k := fun k => by
    rw [ix_set, ix_set]
    by_cases e : k = r
    · subst e; rw [va_up_self, va_up_self]; exact h7
    · rw [va_up_ne _ _ e, va_up_ne _ _ e]; exact Nat.le_refl _
  exact h.step (Nat.le_refl _) (Gw_setr S r R R') q1 q2 q3 q4 (TI.m q6 rfl rfl rfl rfl (fun _ => rfl)) (fun s hs => SeI_set (q7 s hs) h6 h7) (q8.raise hpm (fun k _ => hix k)) (Ex.refl hpm) (fun k hk => by rw [set_ne _ _ hk, set_ne _ _ hk]) (fun _ _ _ _ _ w => w) (fun _ _ _ _ _ _ w => w) (fun m hm => Or.inl hm) (fun i i1 i2 => absurd i2 (Nat.not_le_of_lt i1)) hr
/-- it votes -/
theorem Cn.vote {K : Nat} {g : Gh} {S : Sx} {r b : Nat} {R R' : Rp} (h : Cn K g (S.set r R) r) (hr : r < S.N) (h6 : R'.1 6 = R.1 6) (h7 : R'.1 7 = R.1 7) (h10 : R'.1 10 = b) (hb : R.1 10 ≤ b) (hg : 0 < g.1 (R.1 7 + 1) b) : Cn K (gVote g (R.1 7 + 1) b r) (S.set r R') r := by
  have h' := h
  obtain ⟨q1, q2, q3, q4, q5, q6, q7, q8, q9, q10, q11, q12⟩ := h'
  have er : pmS (S.set r R) r = R.1 10 := by rw [pm_set, va_up_self]
  have ei : ixS (S.set r R) r = R.1 7 := by rw [ix_set, va_up_self]
  have ep : pmS (S.set r R') = va_up (pmS (S.set r R)) r b := by
    rw [pm_set, pm_set, h10]
    funext k
    by_cases e : k = r
    · subst e; rw [va_up_self, va_up_self]
    · rw [va_up_ne _ _ e, va_up_ne _ _ e, va_up_ne _ _ e]
  refine h.step (Nat.le_refl _) (Gw_setr S r R R') q1 q2 q3 q4 (TI.m q6 rfl rfl rfl rfl (fun _ => rfl)) (fun s hs => SeI_set (q7 s hs) h6 (Nat.le_of_eq h7.symm)) ?_ ?_ (fun k hk => by rw [set_ne _ _ hk, set_ne _ _ hk]) (fun k s b' _ hk w => ?_) (fun _ _ _ _ _ _ w => w) (fun m hm => Or.inl hm) (fun i i1 i2 => absurd i2 (Nat.not_le_of_lt i1)) hr
  · rw [ep, ix_ss h7]
    have := PI.vote (r := r) (b := b) q8 (by rw [er]; exact hb) (by rw [ei]; exact hg)
    rw [ei] at this
    exact this
  · rw [ep]
    exact Ex.vote (by rw [er]; exact hb)
  · rcases w with w | w
    · exact w
    · exact absurd w.2.2 hk
/-- it proposes (no one but it has that ballot) -/
theorem Cn.prop {K : Nat} {g : Gh} {S : Sx} {r b s q : Nat} {R : Rp} (h : Cn K g (S.set r R) r) (hr : r < S.N) (h0 : g.1 s b = 0) (hb0 : 0 < b) (hb : b % S.N = r) (h10 : b ≤ R.1 10) (hs : ∀ b', b' < b → g.1 s b' = q ∨ Blk S.N g (pmS (S.set r R)) s b') : Cn K (gProp g s b q) (S.set r R) r := by
  have h' := h
  obtain ⟨q1, q2, q3, q4, q5, q6, q7, q8, q9, q10, q11, q12⟩ := h'
  refine h.step (Nat.le_refl _) (Gw.refl _) q1 q2 q3 q4 q6 q7 ?_ (Ex.prop h0) (fun _ _ => rfl) (fun _ _ _ _ _ w => w) (fun k s' b' _ hk hb' w => ?_) (fun m hm => Or.inl hm) (fun i i1 i2 => absurd i2 (Nat.not_le_of_lt i1)) hr
  · refine PI.prop q8 h0 ⟨hb0, ?_⟩ hs
    show b ≤ pmS (S.set r R) (b % S.N)
    rw [hb, pm_set, va_up_self]; exact h10
  · have : ¬ (s' = s ∧ b' = b) := fun e => hk (by rw [← hb', e.2]; exact hb)
    have e : (gProp g s b q).1 s' b' = g.1 s' b' := if_neg this
    rw [e] at w; exact w
theorem Cn.opn {K : Nat} {g : Gh} {S : Sx} {r : Nat} (h : Cn K g S 9) (hr : r < S.N) : Cn K g S r ∧ RpI K (1 + 4 * K) g (pmS S) S r (S.rp r) := by
  obtain ⟨q1, q2, q3, q4, q5, q6, q7, q8, q9, q10, q11, q12⟩ := h
  have := q1.N
  exact ⟨⟨q1, q2, q3, q4, q5, q6, q7, q8, q9, q10, fun k k1 _ => q11 k k1 (by omega), q12⟩, q11 r hr (by omega)⟩
theorem Cn.close {K : Nat} {g : Gh} {S : Sx} {r : Nat} (h : Cn K g S r) (hR : RpI K (1 + 4 * K) g (pmS S) S r (S.rp r)) : Cn K g S 9 := by
  obtain ⟨q1, q2, q3, q4, q5, q6, q7, q8, q9, q10, q11, q12⟩ := h
  refine ⟨q1, q2, q3, q4, q5, q6, q7, q8, q9, q10, fun k k1 _ => ?_, q12⟩
  by_cases e : k = r
  · subst e; exact hR
  · exact q11 k k1 e
theorem Cn.up {K K' : Nat} {g : Gh} {S : Sx} {r : Nat} (h : Cn K g S r) (hK : K ≤ K') : Cn K' g S r := by
  obtain ⟨q1, q2, q3, q4, q5, q6, q7, q8, q9, q10, q11, q12⟩ := h
  exact ⟨q1, q2, by omega, by omega, q5, q6, fun s hs => (q7 s hs).m hK (Gw.refl S) (fun _ _ => ⟨rfl, Nat.le_refl _⟩), q8, fun m hm => (q9 m hm).m hK (Gw.refl S) (Ex.refl (fun _ => Nat.le_refl _)), q10, fun k k1 k2 => (q11 k k1 k2).m hK (by omega) (Gw.refl S) (Ex.refl (fun _ => Nat.le_refl _)) (fun _ _ w => w) (fun _ _ _ w => w), q12⟩
