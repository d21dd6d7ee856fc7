/-! ===== no step changes how many replicas there are ===== -/
theorem n_ite {p : Prop} [Decidable p] {x y : Sx} {n : Nat} (h1 : x.1 1 = n) (h2 : y.1 1 = n) : (if p then x else y).1 1 = n := by split <;> assumption
theorem n_it2 {p : Prop} [Decidable p] {x y : Sx × Bool} {n : Nat} (h1 : x.1.1 1 = n) (h2 : y.1.1 1 = n) : (if p then x else y).1.1 1 = n := by split <;> assumption
theorem n_down (S : Sx) (r : Nat) : (y_goDown S r).1 1 = S.1 1 := rfl
theorem n_note (S : Sx) (r : Nat) (n : Nt) : (y_note S r n).1.1 1 = S.1 1 := by
  unfold y_note
  dsimp only
  split <;> rfl
theorem n_ckp (S : Sx) (r : Nat) : (y_ckp S r).1.1 1 = S.1 1 := by
  unfold y_ckp
  dsimp only
  split
  · rfl
  · split
    · split <;> rfl
    · rfl
theorem n_send (S : Sx) (m : Mg) : (y_send S m).1 1 = S.1 1 := (send_o S m).2.2.2.2.1 1 (by decide) (by decide)
theorem n_sendL (kd r b s q : Nat) (ts : List Nat) (S : Sx) : (y_sendL kd r b s q ts S).1 1 = S.1 1 := (sendL_o kd r b s q ts S).2.2.2.2.1 1 (by decide) (by decide)
theorem n_all (S : Sx) (kd r b s q : Nat) : (y_sendAll S kd r b s q).1 1 = S.1 1 := n_sendL kd r b s q _ S
theorem n_sendP (r t i : Nat) (ts : List Nat) (S : Sx) : (y_sendP r t i ts S).1 1 = S.1 1 := (sendP_o r t i ts S).2.2.2.2.1 1 (by decide) (by decide)
theorem n_help (S : Sx) (r t s : Nat) : (y_help S r t s).1 1 = S.1 1 := by
  unfold y_help
  split
  · exact n_send _ _
  · exact n_sendP _ _ _ _ _
theorem n_tell (S : Sx) (r : Nat) : (y_tell S r).1 1 = S.1 1 := rfl
theorem n_notePr (S : Sx) (r b : Nat) : (y_notePr S r b).1.1 1 = S.1 1 := by
  unfold y_notePr
  dsimp only
  split
  · rw [n_ckp]; exact n_note _ _ _
  · exact n_note _ _ _
theorem n_camp (S : Sx) (r : Nat) : (y_campaign S r).1 1 = S.1 1 := by
  unfold y_campaign
  dsimp only
  split
  · rw [n_all]; exact n_notePr _ _ _
  · exact n_notePr _ _ _
theorem n_acc (S : Sx) (r b q : Nat) : (y_accepts S r b q).1.1 1 = S.1 1 := by
  unfold y_accepts
  dsimp only
  split
  · rw [n_ckp]; exact n_note _ _ _
  · exact n_note _ _ _
theorem n_propIt (S : Sx) (r q : Nat) : (y_proposeIt S r q).1 1 = S.1 1 := by
  unfold y_proposeIt
  dsimp only
  split
  · rw [n_all]; exact n_acc _ _ _ _
  · exact n_acc _ _ _ _
theorem n_prop (S : Sx) (r : Nat) : (y_propose S r).1.1 1 = S.1 1 := by
  unfold y_propose
  split
  · rfl
  · exact n_propIt _ _ _
theorem n_learnt (S : Sx) (r q : Nat) : (y_learnt S r q).1 1 = S.1 1 := by
  unfold y_learnt
  show va_up S.1 100 (max S.ll ((S.rp r).1 7 + 1)) 1 = S.1 1
  exact va_up_ne _ _ (by decide)
theorem n_learn (S : Sx) (r q : Nat) : (y_learn S r q).1.1 1 = S.1 1 := by
  have h : (y_ckp (y_learnt (y_note S r (3, 0, 0, q, 0)).1 r q) r).1.1 1 = S.1 1 := by rw [n_ckp, n_learnt]; exact n_note _ _ _
  unfold y_learn
  dsimp only
  split
  · split
    · rw [n_tell]; exact h
    · exact h
  · exact n_note _ _ _
theorem n_wait (S : Sx) (r q : Nat) : (y_wait S r q).1 1 = S.1 1 := by
  unfold y_wait
  dsimp only
  split <;> rfl
theorem n_comes (S : Sx) (m : Mg) : (y_comes S m).1 1 = S.1 1 := by
  have hs : ∀ R, (S.set (m 2) R).1 1 = S.1 1 := fun _ => rfl
  unfold y_comes
  dsimp only
  generalize (S.rp (m 2)).u 25 (max (m 3) ((S.rp (m 2)).1 25)) = R
  rw [← hs R]
  generalize S.set (m 2) R = S1
  split
  · have hp : (if (S1.rp (m 2)).1 10 < m 3 then y_notePr S1 (m 2) (m 3) else (S1, true)).1.1 1 = S1.1 1 := n_it2 (n_notePr _ _ _) rfl
    unfold y_prepared
    dsimp only
    exact n_ite (n_help _ _ _ _) (n_ite (n_send _ _) (n_ite ((n_send _ _).trans hp) hp))
  · unfold y_gotPromise
    dsimp only
    exact n_ite (n_ite (n_ite ((n_propIt _ _ _).trans rfl) ((n_prop _ _).trans rfl)) rfl) rfl
  · unfold y_gotAccept
    dsimp only
    split
    · exact n_help _ _ _ _
    · split
      · exact n_send _ _
      · split
        · exact n_send _ _
        · split
          · rw [n_send]; exact n_acc _ _ _ _
          · exact n_acc _ _ _ _
  · unfold y_gotAccepted
    dsimp only
    split
    · split
      · split
        · rw [n_prop, n_learn, n_all]; rfl
        · rw [n_learn, n_all]; rfl
      · rfl
    · rfl
  · split
    · exact n_learn _ _ _
    · split
      · exact n_send _ _
      · rfl
  · split
    · exact n_help _ _ _ _
    · rfl
  · rfl
  · have h1 : ∀ R, (y_note (S1.set (m 2) R) (m 2) (4, 0, 0, 0, m 4)).1.1 1 = S1.1 1 := fun R => n_note _ _ _
    have h2 : ∀ R X, (y_ckp ((y_note (S1.set (m 2) R) (m 2) (4, 0, 0, 0, m 4)).1.set (m 2) X) (m 2)).1.1 1 = S1.1 1 := fun R X => (n_ckp _ _).trans (h1 R)
    unfold y_gotState
    dsimp only
    exact n_ite rfl (n_ite (n_ite (n_ite (h2 _ _) (h2 _ _)) (h1 _)) rfl)
  · unfold y_gotForward
    split
    · rfl
    · exact n_wait _ _ _
  · unfold y_gotBeat
    dsimp only
    split
    · exact n_send _ _
    · split
      · rw [n_send]; rfl
      · split
        · rw [n_help]; rfl
        · rfl
theorem n_tick (S : Sx) (r : Nat) : (y_tick S r).1 1 = S.1 1 := by
  unfold y_tick
  dsimp only
  split
  · split
    · rw [n_all]; rfl
    · rfl
  · split
    · split
      · rw [n_prop]; rfl
      · split
        · rw [n_all]; rfl
        · rfl
    · split
      · split
        · rw [n_camp]; rfl
        · rfl
      · split
        · split
          · rw [n_camp]; rfl
          · split
            · rw [n_send]; rfl
            · rfl
        · split
          · rw [n_send]; rfl
          · rfl
theorem n_up (S : Sx) (r : Nat) : (y_up S r).1 1 = S.1 1 := by
  unfold y_up
  rw [n_ckp]; rfl
theorem n_com (S : Sx) (s : Nat) : (y_com S s).1 1 = S.1 1 := va_up_ne S.1 (k := 4) (j := 1) (S.1 4 + 1) (by decide)
theorem n_commit (S : Sx) (s : Nat) : (y_commit S s).1 1 = S.1 1 := (n_wait _ _ _).trans (n_com S s)
theorem n_retry (S : Sx) (s r : Nat) : (y_retry S s r).1 1 = S.1 1 := by
  unfold y_retry
  split
  · rfl
  · rw [n_wait]; rfl
