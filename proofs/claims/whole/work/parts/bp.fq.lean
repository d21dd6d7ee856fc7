/-! ===== every run of calls ===== -/
theorem lw_c {ρ : Type} {a : Option (vC × Int32)} {b : Option (vM × Int32)} {c : vC} {M : vM} {o : Int64} {S' : Sx} {X : vL → Option ρ} {G : vL → Int32 → Option ρ} {Q : ρ → Prop} (h : Sim a b S') (hG : ∀ c' v, G (c', M, o) v = bM b (c', M, o) fun M13 v14 => if v = v14 then X M13 else none) (g : ∀ c' M', WC K0 c' S' → WM M' S' → tr (X (c', M', o)) Q) : tr (bC a (c, M, o) G) Q := by
  obtain ⟨v, ⟨⟨c', v1⟩, e1, e2, w1⟩, ⟨⟨M', v2⟩, f1, f2, w2⟩⟩ := h
  rw [e1]
  show tr (G (c', M, o) v1) Q
  rw [hG c' v1]
  rw [f1]
  show tr (if v1 = v2 then X (c', M', o) else none) Q
  have e : v1 = v2 := by
    have e2' : v1 = v := e2
    have f2' : v2 = v := f2
    rw [e2', f2']
  rw [if_pos e]
  exact g c' M' w1 w2
theorem lcI_0 (x : Int64) : lcI x x = 0 := by
  unfold lcI
  rw [if_neg (Int64.lt_irrefl), if_pos rfl]
theorem lw_8 {ρ : Type} {a : Option (vC × Int64)} {b : Option (vM × Int64)} {c : vC} {M : vM} {o : Int64} {S' : Sx} {X : vL → Option ρ} {G : vL → Int64 → Option ρ} {Q : ρ → Prop} (h : Sim8 a b S') (hG : ∀ c' v, G (c', M, o) v = bM b (c', M, o) fun M13 v14 => if lcI v v14 = 0 then X M13 else none) (g : ∀ c' M', WC K0 c' S' → WM M' S' → tr (X (c', M', o)) Q) : tr (bC a (c, M, o) G) Q := by
  obtain ⟨v, ⟨⟨c', v1⟩, e1, e2, w1⟩, ⟨⟨M', v2⟩, f1, f2, w2⟩⟩ := h
  rw [e1]
  show tr (G (c', M, o) v1) Q
  rw [hG c' v1]
  rw [f1]
  show tr (if lcI v1 v2 = 0 then X (c', M', o) else none) Q
  have e : v1 = v2 := by
    have e2' : v1 = v := e2
    have f2' : v2 = v := f2
    rw [e2', f2']
  rw [e, lcI_0, if_pos rfl]
  exact g c' M' w1 w2
theorem lw_k {ρ : Type} {a : Option (vC × Int32 × Int32)} {b : Option (vM × Int32)} {c : vC} {M : vM} {o : Int64} {S' : Sx} {X : vL → Option ρ} {G : vL → Int32 → Option ρ} {Q : ρ → Prop} (h : SimR a b S') (hG : ∀ c' o' v, G (c', M, o') v = bM b (c', M, o') fun M27 v28 => bM (F_X12_thrown M27.2.1) M27 fun M29 v30 => if v30 = v then (if v = 0 then (if (lcI ((M29).2.2) ((v28).toInt64)) = 0 then X M29 else none) else X M29) else none) (g : ∀ c' M' o', WC K0 c' S' → WM M' S' → tr (X (c', M', o')) Q) : tr (bK a (c, M, o) G) Q := by
  obtain ⟨t, u, v, ⟨⟨c', t1, v1⟩, e1, e2, e3, w1⟩, ⟨⟨M', v2⟩, f1, f2, f3, w2⟩, htu⟩ := h
  have e2' : t1 = t := e2
  have f3' : M'.1 0 = u := f3
  have ht : t = u ∧ ¬ t = 3 := by
    rcases htu with ⟨p, q⟩ | ⟨p, q⟩ | ⟨p, q⟩ | p
    · rw [p, q]; decide
    · rw [p, q]; decide
    · rw [p, q]; decide
    · exact p.elim
  rw [e1]
  show tr (if t1 = 3 then none else G (c', M, if t1 = 0 then v1.toInt64 else o) t1) Q
  rw [if_neg (by rw [e2']; exact ht.2), hG, f1]
  show tr (if M'.1 0 = t1 then (if t1 = 0 then (if (lcI (if t1 = 0 then v1.toInt64 else o) (v2.toInt64)) = 0 then X (c', M', if t1 = 0 then v1.toInt64 else o) else none) else X (c', M', if t1 = 0 then v1.toInt64 else o)) else none) Q
  rw [if_pos (by rw [f3', e2', ht.1])]
  by_cases c0 : t1 = 0
  · have ev : v1 = v2 := by
      have h1 : v1 = v := e3 (by rw [← e2']; exact c0)
      have h2 : v2 = v := f2 (by rw [← e2']; exact c0)
      rw [h1, h2]
    rw [if_pos c0, if_pos c0, ev, lcI_0, if_pos rfl]
    exact g c' M' _ w1 w2
  · rw [if_neg c0, if_neg c0]
    exact g c' M' _ w1 w2
theorem lw_v {ρ : Type} {a : Option (vC × Int32 × Int32)} {b : Option (vM × Int32)} {c : vC} {M : vM} {o : Int64} {S' : Sx} {X : vL → Option ρ} {G : vL → Int32 → Option ρ} {Q : ρ → Prop} (h : SimV a b S') (hG : ∀ c' o' v, G (c', M, o') v = bM b (c', M, o') fun M27 v28 => bM (F_X12_thrown M27.2.1) M27 fun M29 v30 => if v30 = v then (if v = 0 then (if (lcI ((M29).2.2) ((v28).toInt64)) = 0 then X M29 else none) else X M29) else none) (g : ∀ c' M' o', WC K0 c' S' → WM M' S' → tr (X (c', M', o')) Q) : tr (bV a (c, M, o) G) Q := by
  obtain ⟨t, u, v, ⟨⟨c', t1, v1⟩, e1, e2, e3, w1⟩, ⟨⟨M', v2⟩, f1, f2, f3, w2⟩, htu⟩ := h
  have e2' : t1 = t := e2
  have f3' : M'.1 0 = u := f3
  have ht : (t = 0 ∧ u = 0) ∨ (t = 3 ∧ u = 1) := by
    rcases htu with p | p | p | p
    · exact Or.inl p
    · exact p.elim
    · exact p.elim
    · exact Or.inr p
  rw [e1]
  show tr (if t1 = 1 ∨ t1 = 2 then none else G (c', M, if t1 = 0 then v1.toInt64 else o) (if t1 = 0 then 0 else 1)) Q
  have hn : ¬ (t1 = 1 ∨ t1 = 2) := by
    rw [e2']
    rcases ht with ⟨p, _⟩ | ⟨p, _⟩ <;> rw [p] <;> decide
  rw [if_neg hn, hG, f1]
  show tr (if M'.1 0 = (if t1 = 0 then 0 else 1) then (if (if t1 = 0 then (0 : Int32) else 1) = 0 then (if (lcI (if t1 = 0 then v1.toInt64 else o) (v2.toInt64)) = 0 then X (c', M', if t1 = 0 then v1.toInt64 else o) else none) else X (c', M', if t1 = 0 then v1.toInt64 else o)) else none) Q
  by_cases c0 : t1 = 0
  · have hu : u = 0 := by
      rcases ht with ⟨_, q⟩ | ⟨p, _⟩
      · exact q
      · rw [← e2', c0] at p; exact absurd p (by decide)
    have ev : v1 = v2 := by
      have h1 : v1 = v := e3 (by rw [← e2']; exact c0)
      have h2 : v2 = v := f2 (by rw [← e2']; exact c0)
      rw [h1, h2]
    rw [if_pos c0, if_pos c0, f3', hu, if_pos rfl, if_pos rfl, ev, lcI_0, if_pos rfl]
    exact g c' M' _ w1 w2
  · have hu : u = 1 := by
      rcases ht with ⟨p, _⟩ | ⟨_, q⟩
      · rw [← e2'] at p; exact absurd p c0
      · exact q
    rw [if_neg c0, if_neg c0, f3', hu, if_pos rfl, if_neg (by decide)]
    exact g c' M' _ w1 w2
theorem scr_n {L j : Nat} {xs : Nat → Int32} (h : j < L) (hL : L < 2 ^ 31) : scr L xs (nI j) = some (xs j) := by
  unfold scr
  rw [nIt (by omega), if_neg (fun q => by
    rcases q with q | q
    · exact nIn (by omega) q
    · omega)]
/-- the two machines and what is between them, K calls on -/
def Ag (N K : Nat) (c : vC) (M : vM) : Prop := ∃ S, S.1 1 = N ∧ WC K0 c S ∧ WM M S ∧ IvS K S
