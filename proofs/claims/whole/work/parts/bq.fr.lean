theorem tr_br {ρ : Type} {p : Prop} [Decidable p] {x y : Option ρ} {Q : ρ → Prop} (h1 : p → tr x Q) (h2 : ¬ p → tr y Q) : tr (if p then x else y) Q := by
  by_cases c : p
  · rw [if_pos c]; exact h1 c
  · rw [if_neg c]; exact h2 c
theorem tr_bs {α ρ : Type} {x : Option α} {a : α} {f : α → Option ρ} {Q : ρ → Prop} (e : x = some a) (h : tr (f a) Q) : tr (x.bind f) Q := by rw [e, Option.bind_some]; exact h
/-! each call, with what it leaves -/
def Nx (K : Nat) (S S' : Sx) : Prop := IvS (K + 1) S' ∧ S'.1 1 = S.1 1
theorem Nx.same {K : Nat} {S : Sx} (h : IvS K S) : Nx K S S := ⟨iv_up h (Nat.le_succ K), rfl⟩
theorem Nx.mk {K : Nat} {S S' : Sx} (h : IvS K S') (e : S'.1 1 = S.1 1) : Nx K S S' := ⟨iv_up h (Nat.le_succ K), e⟩
theorem t_begin {K : Nat} {c : vC} {M : vM} {S : Sx} (hW : WC K0 c S) (hM : WM M S) (hI : IvS K S) (hK : K < 600) (a1 a2 : Int32) (w : Nat) (hw : w ≤ 1) : ∃ S', Sim (F_X11_beginAt S.N c a1 a2 (nI w)) (F_X12_beginAt M a1 a2 (nI w)) S' ∧ Nx K S S' := by
  have hb := iv_bs hI hK
  obtain ⟨S', h1, h2⟩ := s_begin hW hM hb.1 a1 a2 w hw
  refine ⟨S', h1, ?_⟩
  rcases h2 with rfl | ⟨s, r, q1, q2, q3, _, _, rfl⟩
  · exact Nx.same hI
  · exact Nx.mk (iv_begin hI hK q1 q2 q3 hw) rfl
theorem t_read {K : Nat} {c : vC} {M : vM} {S : Sx} (hW : WC K0 c S) (hM : WM M S) (hI : IvS K S) (hK : K < 600) (a1 a2 : Int32) : ∃ S', SimR (F_X11_readKey S.N c a1 a2) (F_X12_readKey M a1 a2) S' ∧ Nx K S S' := by
  have hb := iv_bs hI hK
  obtain ⟨S', h1, h2⟩ := s_read hW hM hb.1 hb.2.2.2.1 hb.2.2.2.2.2.1 a1 a2
  refine ⟨S', h1, ?_⟩
  rcases h2 with rfl | ⟨s, k, q1, q2, q3, rfl | rfl⟩
  · exact Nx.same hI
  · exact Nx.mk (iv_read hI hK q1 q2) rfl
  · exact Nx.mk (iv_end hI hK q1 (Or.inr rfl)) rfl
theorem t_write {K : Nat} {c : vC} {M : vM} {S : Sx} (hW : WC K0 c S) (hM : WM M S) (hI : IvS K S) (hK : K < 600) (a1 a2 a3 : Int32) : ∃ S', Sim (F_X11_writeKey S.N c a1 a2 a3) (F_X12_writeKey M a1 a2 a3) S' ∧ Nx K S S' := by
  have hb := iv_bs hI hK
  obtain ⟨S', h1, h2⟩ := s_write hW hM hb.1 hb.2.2.2.2.1 a1 a2 a3
  refine ⟨S', h1, ?_⟩
  rcases h2 with rfl | ⟨s, k, q1, q2, q3, rfl⟩
  · exact Nx.same hI
  · exact Nx.mk (iv_write hI hK q1 q2) rfl
theorem iv_u {K : Nat} {S : Sx} (h : IvS K S) : (∀ q q', q < S.1 4 → q' < S.1 4 → (S.tb q).1 0 = (S.tb q').1 0 → (S.tb q).1 1 = (S.tb q').1 1 → q = q') ∧ ∀ s, s < 16 → (S.se s).1 46 = 2 → 0 < (S.se s).1 47 ∧ 0 < (S.se s).1 53 := by
  obtain ⟨g, hg⟩ := h
  refine ⟨hg.2.2.2.2.2.1.2.2.2.1, fun s hs z => ?_⟩
  have := (hg.2.2.2.2.2.2.1 s hs).2.2.2.2.2.2.2 z
  exact ⟨this.2.1, this.2.2.1⟩
theorem t_commit {K : Nat} {c : vC} {M : vM} {S : Sx} (hW : WC K0 c S) (hM : WM M S) (hI : IvS K S) (hK : K < 600) (a1 : Int32) : ∃ S', Sim (F_X11_commitIt S.N c a1) (F_X12_commitIt M a1) S' ∧ Nx K S S' := by
  have hb := iv_bs hI hK
  obtain ⟨S', h1, h2⟩ := s_commit hW hM hb.1 (iv_cm hI hK) (iv_u hI).1 a1
  refine ⟨S', h1, ?_⟩
  rcases h2 with rfl | ⟨s, q1, q2, rfl | rfl⟩
  · exact Nx.same hI
  · exact Nx.mk (iv_end hI hK q1 (Or.inl rfl)) rfl
  · exact ⟨iv_commit hI hK q1 q2, n_commit _ _⟩
theorem t_giveUp {K : Nat} {c : vC} {M : vM} {S : Sx} (hW : WC K0 c S) (hM : WM M S) (hI : IvS K S) (hK : K < 600) (a1 : Int32) : ∃ S', Sim (F_X11_giveUp S.N c a1) (F_X12_giveUp M a1) S' ∧ Nx K S S' := by
  have hb := iv_bs hI hK
  obtain ⟨S', h1, h2⟩ := s_giveUp hW hM hb.1 a1
  refine ⟨S', h1, ?_⟩
  rcases h2 with rfl | ⟨s, q1, q2, rfl⟩
  · exact Nx.same hI
  · exact Nx.mk (iv_end hI hK q1 (Or.inr rfl)) rfl
theorem t_retry {K : Nat} {c : vC} {M : vM} {S : Sx} (hW : WC K0 c S) (hM : WM M S) (hI : IvS K S) (hK : K < 600) (a1 a2 : Int32) : ∃ S', Sim (F_X11_retryAt S.N c a1 a2) (F_X12_retryAt M a1 a2) S' ∧ Nx K S S' := by
  have hb := iv_bs hI hK
  obtain ⟨S', h1, h2⟩ := s_retry hW hM hb.1 (iv_cm hI hK) (iv_u hI).2 (iv_u hI).1 a1 a2
  refine ⟨S', h1, ?_⟩
  rcases h2 with rfl | ⟨s, r, q1, q2, q3, q4, rfl⟩
  · exact Nx.same hI
  · exact Nx.mk (iv_retry hI hK q1 q2 q3 q4) (n_retry _ _ _)
theorem t_tick {K : Nat} {c : vC} {M : vM} {S : Sx} (hW : WC K0 c S) (hM : WM M S) (hI : IvS K S) (hK : K < 600) (a1 : Int32) : ∃ S', Sim (F_X11_tickOf S.N c a1) (F_X12_tickOf M a1) S' ∧ Nx K S S' := by
  have hb := iv_bs hI hK
  obtain ⟨S', h1, h2⟩ := s_tick hW hM hb.1 hb.2.1 (fun r hr h6 => by
    have o := iv_ok hI hK hr h6
    exact ⟨o.1, o.2.2.1, o.2.2.2.2.2.1, o.2.2.2.2.2.2.1⟩) a1
  refine ⟨S', h1, ?_⟩
  rcases h2 with rfl | ⟨r, q1, q2, rfl⟩
  · exact Nx.same hI
  · exact ⟨iv_tick hI hK q1 q2, n_tick _ _⟩
theorem t_deliver {K : Nat} {c : vC} {M : vM} {S : Sx} (hW : WC K0 c S) (hM : WM M S) (hI : IvS K S) (hK : K < 600) (a1 : Int32) : ∃ S', Sim (F_X11_deliverAt S.N c a1) (F_X12_deliverAt M a1) S' ∧ Nx K S S' := s_deliver hW hM hI hK a1
theorem t_lose {K : Nat} {c : vC} {M : vM} {S : Sx} (hW : WC K0 c S) (hM : WM M S) (hI : IvS K S) (hK : K < 600) (a1 : Int32) : ∃ S', Sim (F_X11_loseAt S.N c a1) (F_X12_loseAt M a1) S' ∧ Nx K S S' := by
  have hb := iv_bs hI hK
  obtain ⟨S', h1, h2⟩ := s_lose hW hM hb.1 hb.2.1 a1
  refine ⟨S', h1, ?_⟩
  rcases h2 with rfl | ⟨i, q1, rfl⟩
  · exact Nx.same hI
  · refine Nx.mk (iv_net hI (fun _ _ _ _ => rfl) rfl rfl rfl rfl ?_ (fun x hx => ?_)) rfl
    · show (S.fl.eraseIdx i).length ≤ 200
      have := hb.2.1
      rw [er_len q1]; omega
    · have hx' : x ∈ S.fl := List.mem_of_mem_eraseIdx hx
      obtain ⟨g, hg⟩ := hI
      exact ⟨x, hx', fun _ _ => rfl, (hg.2.2.2.2.2.2.2.2.1 x hx').1.2.2.2.2.2.2.2.2.1⟩
theorem t_double {K : Nat} {c : vC} {M : vM} {S : Sx} (hW : WC K0 c S) (hM : WM M S) (hI : IvS K S) (hK : K < 600) (a1 : Int32) : ∃ S', Sim (F_X11_doubleAt S.N c a1) (F_X12_doubleAt M a1) S' ∧ Nx K S S' := by
  have hb := iv_bs hI hK
  obtain ⟨S', h1, h2⟩ := s_double hW hM hb.1 hb.2.1 a1
  refine ⟨S', h1, ?_⟩
  rcases h2 with rfl | ⟨i, q1, q2, rfl⟩
  · exact Nx.same hI
  · refine Nx.mk (iv_net hI (fun _ _ _ _ => rfl) rfl rfl rfl rfl ?_ (fun x hx => ?_)) rfl
    · show (S.fl ++ [S.fl.getD i mgD]).length ≤ 200
      rw [List.length_append]
      show S.fl.length + 1 ≤ 200
      omega
    · have hx' : x ∈ S.fl := by
        rcases List.mem_append.mp hx with z | z
        · exact z
        · rw [List.mem_singleton.mp z]; exact getD_memM q1
      obtain ⟨g, hg⟩ := hI
      exact ⟨x, hx', fun _ _ => rfl, (hg.2.2.2.2.2.2.2.2.1 x hx').1.2.2.2.2.2.2.2.2.1⟩
theorem t_spoil {K : Nat} {c : vC} {M : vM} {S : Sx} (hW : WC K0 c S) (hM : WM M S) (hI : IvS K S) (hK : K < 600) (a1 a2 a3 : Int32) : ∃ S', Sim (F_X11_spoilAt S.N c a1 a2 a3) (F_X12_spoilAt M a1 a2 a3) S' ∧ Nx K S S' := by
  obtain ⟨S', h1, h2, h3⟩ := s_spoil hW hM hI hK a1 a2 a3
  exact ⟨S', h1, Nx.mk h2 h3⟩
theorem t_turn {K : Nat} {c : vC} {M : vM} {S : Sx} (hW : WC K0 c S) (hM : WM M S) (hI : IvS K S) (hK : K < 600) (a1 : Int32) (w : Nat) (hw : w ≤ 1) : ∃ S', Sim (F_X11_turnTo S.N c a1 (nI w)) (F_X12_turnTo M a1 (nI w)) S' ∧ Nx K S S' := by
  have hb := iv_bs hI hK
  obtain ⟨S', h1, h2⟩ := s_turn hW hM hb.1 hb.2.2.1 (fun r hr h6 => iv_dn hI hK hr h6) a1 w hw
  refine ⟨S', h1, ?_⟩
  rcases h2 with rfl | ⟨r, q1, ⟨q2, rfl⟩ | ⟨q2, rfl⟩⟩
  · exact Nx.same hI
  · exact Nx.mk (iv_down hI q1 q2) rfl
  · exact ⟨iv_turn hI hK q1 q2, n_up _ _⟩
theorem t_crash {K : Nat} {c : vC} {M : vM} {S : Sx} (hW : WC K0 c S) (hM : WM M S) (hI : IvS K S) (hK : K < 600) (a1 a2 : Int32) : ∃ S', Sim (F_X11_crashAfter S.N c a1 a2) (F_X12_crashAfter M a1 a2) S' ∧ Nx K S S' := by
  have hb := iv_bs hI hK
  obtain ⟨S', h1, h2⟩ := s_crash hW hM hb.1 a1 a2
  refine ⟨S', h1, ?_⟩
  rcases h2 with rfl | ⟨r, v, q1, q2, q3, rfl⟩
  · exact Nx.same hI
  · exact Nx.mk (iv_due hI q1 q2 q3) rfl
theorem law_run {Ln : Nat} {xs : Nat → Int32} (hL : Ln ≤ 2052) : ∀ (f K i : Nat) (c : vC) (M : vM) (o : Int64) (S : Sx), 1 ≤ f → Ln < i + 4 * f → i ≤ 2056 → K + f ≤ 513 → WC K0 c S → WM M S → IvS K S → tr (L_law S.N Ln xs f (c, M, o) (nI i)) (fun _ => True) := by
  intro f
  induction f with
  | zero => intro K i c M o S h1; omega
  | succ f ih =>
    intro K i c M o S h1 h2 h3 h4 hW hM hI
    have hK : K < 600 := by omega
    have hb := iv_bs hI hK
    rw [L_law]
    refine tr_br (fun _ => tr_some (P := fun _ => True) True.intro) (fun cE => ?_)
    have hi : i + 4 ≤ Ln := by
      rcases Nat.lt_or_ge Ln (i + 4) with q | q
      · exfalso
        apply cE
        by_cases c4 : 4 ≤ Ln
        · rw [show Int32.ofNat Ln - (4 : Int32) = nI (Ln - 4) from nI_sub (b := 4) c4]
          exact nI_lt (by omega) (by omega)
        · exact Int32.lt_of_lt_of_le (nI_subneg (x := Ln) (y := 4) (by omega) (by decide)) (Int32.not_lt.mp (nIn (by omega)))
      · exact q
    have s0 : scr Ln xs (nI i) = some (xs i) := scr_n (by omega) (by omega)
    have s1 : scr Ln xs (nI i + (1 : Int32)) = some (xs (i + 1)) := by rw [show nI i + (1 : Int32) = nI (i + 1) from nI_add i 1]; exact scr_n (by omega) (by omega)
    have s2 : scr Ln xs (nI i + (2 : Int32)) = some (xs (i + 2)) := by rw [show nI i + (2 : Int32) = nI (i + 2) from nI_add i 2]; exact scr_n (by omega) (by omega)
    have s3 : scr Ln xs (nI i + (3 : Int32)) = some (xs (i + 3)) := by rw [show nI i + (3 : Int32) = nI (i + 3) from nI_add i 3]; exact scr_n (by omega) (by omega)
    have fin : ∀ (S' : Sx), Nx K S S' → ∀ (c' : vC) (M' : vM) (o' : Int64), WC K0 c' S' → WM M' S' → tr (L_law S.N Ln xs f (c', M', o') (nI i + 4)) (fun _ => True) := fun S' hN c' M' o' w1 w2 => by
      have e : S.N = S'.N := hN.2.symm
      rw [e, show nI i + (4 : Int32) = nI (i + 4) from nI_add i 4]
      exact ih (K + 1) (i + 4) c' M' o' S' (by omega) (by omega) (by omega) (by omega) w1 w2 hN.1
    have same : ∀ (c' : vC) (M' : vM) (o' : Int64), WC K0 c' S → WM M' S → tr (L_law S.N Ln xs f (c', M', o') (nI i + 4)) (fun _ => True) := fin S (Nx.same hI)
    refine tr_bs s0 ?_
    refine tr_br (fun _ => ?_) (fun _ => ?_)
    · refine tr_bs s1 ?_
      refine tr_bs s2 ?_
      refine tr_bs s3 ?_
      refine tr_jn ?_
      refine tr_br (fun e5 => ?_) (fun e5 => ?_)
      · obtain ⟨S', g1, g2⟩ := t_begin hW hM hI hK (xs (i + 1)) (xs (i + 2)) 0 (by decide)
        exact lw_c (X := fun M' => L_law S.N Ln xs f M' (nI i + 4)) g1 (fun c' v => by dsimp only; rw [s1, Option.bind_some, s2, Option.bind_some, s3, Option.bind_some, if_pos e5]; rfl) (fun c' M' w1 w2 => fin S' g2 c' M' o w1 w2)
      · obtain ⟨S', g1, g2⟩ := t_begin hW hM hI hK (xs (i + 1)) (xs (i + 2)) 1 (by decide)
        exact lw_c (X := fun M' => L_law S.N Ln xs f M' (nI i + 4)) g1 (fun c' v => by dsimp only; rw [s1, Option.bind_some, s2, Option.bind_some, s3, Option.bind_some, if_neg e5]; rfl) (fun c' M' w1 w2 => fin S' g2 c' M' o w1 w2)
    refine tr_br (fun _ => ?_) (fun _ => ?_)
    · refine tr_bs s1 ?_
      refine tr_bs s2 ?_
      obtain ⟨S', g1, g2⟩ := t_read hW hM hI hK (xs (i + 1)) (xs (i + 2))
      exact lw_k (X := fun M' => L_law S.N Ln xs f M' (nI i + 4)) g1 (fun c' o' v => by dsimp only; rw [s1, Option.bind_some, s2, Option.bind_some]) (fun c' M' o' w1 w2 => fin S' g2 c' M' o' w1 w2)
    refine tr_br (fun _ => ?_) (fun _ => ?_)
    · refine tr_bs s1 ?_
      refine tr_bs s2 ?_
      refine tr_bs s3 ?_
      obtain ⟨S', g1, g2⟩ := t_write hW hM hI hK (xs (i + 1)) (xs (i + 2)) (xs (i + 3))
      exact lw_c (X := fun M' => L_law S.N Ln xs f M' (nI i + 4)) g1 (fun c' v => by dsimp only; rw [s1, Option.bind_some, s2, Option.bind_some, s3, Option.bind_some]) (fun c' M' w1 w2 => fin S' g2 c' M' o w1 w2)
    refine tr_br (fun _ => ?_) (fun _ => ?_)
    · refine tr_bs s1 ?_
      obtain ⟨S', g1, g2⟩ := t_commit hW hM hI hK (xs (i + 1))
      exact lw_c (X := fun M' => L_law S.N Ln xs f M' (nI i + 4)) g1 (fun c' v => by dsimp only; rw [s1, Option.bind_some]) (fun c' M' w1 w2 => fin S' g2 c' M' o w1 w2)
    refine tr_br (fun _ => ?_) (fun _ => ?_)
    · refine tr_bs s1 ?_
      obtain ⟨S', g1, g2⟩ := t_giveUp hW hM hI hK (xs (i + 1))
      exact lw_c (X := fun M' => L_law S.N Ln xs f M' (nI i + 4)) g1 (fun c' v => by dsimp only; rw [s1, Option.bind_some]) (fun c' M' w1 w2 => fin S' g2 c' M' o w1 w2)
    refine tr_br (fun _ => ?_) (fun _ => ?_)
    · refine tr_bs s1 ?_
      refine tr_bs s2 ?_
      obtain ⟨S', g1, g2⟩ := t_retry hW hM hI hK (xs (i + 1)) (xs (i + 2))
      exact lw_c (X := fun M' => L_law S.N Ln xs f M' (nI i + 4)) g1 (fun c' v => by dsimp only; rw [s1, Option.bind_some, s2, Option.bind_some]) (fun c' M' w1 w2 => fin S' g2 c' M' o w1 w2)
    refine tr_br (fun _ => ?_) (fun _ => ?_)
    · refine tr_bs s1 ?_
      obtain ⟨S', g1, g2⟩ := t_tick hW hM hI hK (xs (i + 1))
      exact lw_c (X := fun M' => L_law S.N Ln xs f M' (nI i + 4)) g1 (fun c' v => by dsimp only; rw [s1, Option.bind_some]) (fun c' M' w1 w2 => fin S' g2 c' M' o w1 w2)
    refine tr_br (fun _ => ?_) (fun _ => ?_)
    · refine tr_bs s1 ?_
      obtain ⟨S', g1, g2⟩ := t_deliver hW hM hI hK (xs (i + 1))
      exact lw_c (X := fun M' => L_law S.N Ln xs f M' (nI i + 4)) g1 (fun c' v => by dsimp only; rw [s1, Option.bind_some]) (fun c' M' w1 w2 => fin S' g2 c' M' o w1 w2)
    refine tr_br (fun _ => ?_) (fun _ => ?_)
    · refine tr_bs s1 ?_
      obtain ⟨S', g1, g2⟩ := t_lose hW hM hI hK (xs (i + 1))
      exact lw_c (X := fun M' => L_law S.N Ln xs f M' (nI i + 4)) g1 (fun c' v => by dsimp only; rw [s1, Option.bind_some]) (fun c' M' w1 w2 => fin S' g2 c' M' o w1 w2)
    refine tr_br (fun _ => ?_) (fun _ => ?_)
    · refine tr_bs s1 ?_
      obtain ⟨S', g1, g2⟩ := t_double hW hM hI hK (xs (i + 1))
      exact lw_c (X := fun M' => L_law S.N Ln xs f M' (nI i + 4)) g1 (fun c' v => by dsimp only; rw [s1, Option.bind_some]) (fun c' M' w1 w2 => fin S' g2 c' M' o w1 w2)
    refine tr_br (fun _ => ?_) (fun _ => ?_)
    · refine tr_bs s1 ?_
      refine tr_bs s2 ?_
      refine tr_bs s3 ?_
      obtain ⟨S', g1, g2⟩ := t_spoil hW hM hI hK (xs (i + 1)) (xs (i + 2)) (xs (i + 3))
      exact lw_c (X := fun M' => L_law S.N Ln xs f M' (nI i + 4)) g1 (fun c' v => by dsimp only; rw [s1, Option.bind_some, s2, Option.bind_some, s3, Option.bind_some]) (fun c' M' w1 w2 => fin S' g2 c' M' o w1 w2)
    refine tr_br (fun _ => ?_) (fun _ => ?_)
    · refine tr_bs s1 ?_
      refine tr_bs s2 ?_
      refine tr_jn ?_
      refine tr_br (fun e5 => ?_) (fun e5 => ?_)
      · obtain ⟨S', g1, g2⟩ := t_turn hW hM hI hK (xs (i + 1)) 0 (by decide)
        exact lw_c (X := fun M' => L_law S.N Ln xs f M' (nI i + 4)) g1 (fun c' v => by dsimp only; rw [s1, Option.bind_some, s2, Option.bind_some, if_pos e5]; rfl) (fun c' M' w1 w2 => fin S' g2 c' M' o w1 w2)
      · obtain ⟨S', g1, g2⟩ := t_turn hW hM hI hK (xs (i + 1)) 1 (by decide)
        exact lw_c (X := fun M' => L_law S.N Ln xs f M' (nI i + 4)) g1 (fun c' v => by dsimp only; rw [s1, Option.bind_some, s2, Option.bind_some, if_neg e5]; rfl) (fun c' M' w1 w2 => fin S' g2 c' M' o w1 w2)
    refine tr_br (fun _ => ?_) (fun _ => ?_)
    · refine tr_bs s1 ?_
      refine tr_bs s2 ?_
      obtain ⟨S', g1, g2⟩ := t_crash hW hM hI hK (xs (i + 1)) (xs (i + 2))
      exact lw_c (X := fun M' => L_law S.N Ln xs f M' (nI i + 4)) g1 (fun c' v => by dsimp only; rw [s1, Option.bind_some, s2, Option.bind_some]) (fun c' M' w1 w2 => fin S' g2 c' M' o w1 w2)
    refine tr_br (fun _ => ?_) (fun _ => ?_)
    · refine tr_bs s1 ?_
      refine tr_bs s2 ?_
      exact lw_c (X := fun M' => L_law S.N Ln xs f M' (nI i + 4)) (s_replica hW hM hb.1 (fun r hr h6 => ⟨(iv_ok hI hK hr h6).1, (iv_ok hI hK hr h6).2.2.2.2.2.2.2.2.2⟩) (xs (i + 1)) (xs (i + 2))) (fun c' v => by dsimp only; rw [s1, Option.bind_some, s2, Option.bind_some]) (fun c' M' w1 w2 => same c' M' o w1 w2)
    refine tr_br (fun _ => ?_) (fun _ => ?_)
    · refine tr_bs s1 ?_
      refine tr_bs s2 ?_
      exact lw_c (X := fun M' => L_law S.N Ln xs f M' (nI i + 4)) (s_journal hW hM hb.1 (xs (i + 1)) (xs (i + 2))) (fun c' v => by dsimp only; rw [s1, Option.bind_some, s2, Option.bind_some]) (fun c' M' w1 w2 => same c' M' o w1 w2)
    refine tr_br (fun _ => ?_) (fun _ => ?_)
    · refine tr_bs s1 ?_
      refine tr_bs s2 ?_
      refine tr_bs s3 ?_
      exact lw_8 (X := fun M' => L_law S.N Ln xs f M' (nI i + 4)) (s_blockOf hW hM hb.1 (xs (i + 1)) (xs (i + 2)) (xs (i + 3))) (fun c' v => by dsimp only; rw [s1, Option.bind_some, s2, Option.bind_some, s3, Option.bind_some]) (fun c' M' w1 w2 => same c' M' o w1 w2)
    refine tr_br (fun _ => ?_) (fun _ => ?_)
    · refine tr_bs s1 ?_
      refine tr_bs s2 ?_
      exact lw_8 (X := fun M' => L_law S.N Ln xs f M' (nI i + 4)) (s_frame hW hM hI hK (xs (i + 1)) (xs (i + 2))) (fun c' v => by dsimp only; rw [s1, Option.bind_some, s2, Option.bind_some]) (fun c' M' w1 w2 => same c' M' o w1 w2)
    refine tr_br (fun _ => ?_) (fun _ => ?_)
    · refine tr_bs s1 ?_
      refine tr_bs s2 ?_
      refine tr_bs s3 ?_
      exact lw_v (X := fun M' => L_law S.N Ln xs f M' (nI i + 4)) (s_value hW hM hb.1 hb.2.2.2.1 (xs (i + 1)) (xs (i + 2)) (xs (i + 3))) (fun c' o' v => by dsimp only; rw [s1, Option.bind_some, s2, Option.bind_some, s3, Option.bind_some]) (fun c' M' o' w1 w2 => same c' M' o' w1 w2)
    refine tr_br (fun _ => ?_) (fun _ => ?_)
    · refine tr_bs s1 ?_
      refine tr_bs s2 ?_
      refine tr_bs s3 ?_
      exact lw_c (X := fun M' => L_law S.N Ln xs f M' (nI i + 4)) (s_slot hW hM hb.1 (fun r hr h6 => (iv_ok hI hK hr h6).1) hb.2.2.2.2.2.2.1 (xs (i + 1)) (xs (i + 2)) (xs (i + 3))) (fun c' v => by dsimp only; rw [s1, Option.bind_some, s2, Option.bind_some, s3, Option.bind_some]) (fun c' M' w1 w2 => same c' M' o w1 w2)
    refine tr_br (fun _ => ?_) (fun _ => ?_)
    · refine tr_bs s1 ?_
      refine tr_bs s2 ?_
      refine tr_bs s3 ?_
      refine tr_jn ?_
      refine tr_br (fun e5 => ?_) (fun e5 => ?_)
      · exact lw_c (X := fun M' => L_law S.N Ln xs f M' (nI i + 4)) (s_known hW hM hb.1 (xs (i + 1)) (xs (i + 2)) 0) (fun c' v => by dsimp only; rw [s1, Option.bind_some, s2, Option.bind_some, s3, Option.bind_some, if_pos e5]) (fun c' M' w1 w2 => same c' M' o w1 w2)
      · exact lw_c (X := fun M' => L_law S.N Ln xs f M' (nI i + 4)) (s_known hW hM hb.1 (xs (i + 1)) (xs (i + 2)) 1) (fun c' v => by dsimp only; rw [s1, Option.bind_some, s2, Option.bind_some, s3, Option.bind_some, if_neg e5]) (fun c' M' w1 w2 => same c' M' o w1 w2)
    refine tr_br (fun _ => ?_) (fun _ => ?_)
    · refine tr_bs s1 ?_
      refine tr_bs s2 ?_
      exact lw_c (X := fun M' => L_law S.N Ln xs f M' (nI i + 4)) (s_session hW hM hb.1 (xs (i + 1)) (xs (i + 2))) (fun c' v => by dsimp only; rw [s1, Option.bind_some, s2, Option.bind_some]) (fun c' M' w1 w2 => same c' M' o w1 w2)
    refine tr_br (fun _ => ?_) (fun _ => ?_)
    · refine tr_bs s1 ?_
      refine tr_bs s2 ?_
      exact lw_c (X := fun M' => L_law S.N Ln xs f M' (nI i + 4)) (s_message hW hM hI hK (xs (i + 1)) (xs (i + 2))) (fun c' v => by dsimp only; rw [s1, Option.bind_some, s2, Option.bind_some]) (fun c' M' w1 w2 => same c' M' o w1 w2)
    refine tr_br (fun _ => ?_) (fun _ => ?_)
    · refine tr_bs s1 ?_
      exact lw_c (X := fun M' => L_law S.N Ln xs f M' (nI i + 4)) (s_look hW hM hb.1 (fun r hr => (hb.2.2.2.1 r hr).1) (xs (i + 1))) (fun c' v => by dsimp only; rw [s1, Option.bind_some]) (fun c' M' w1 w2 => same c' M' o w1 w2)
    exact same c M o hW hM
