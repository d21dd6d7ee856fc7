/-- the nearest of lo .. hi -/
def clI (lo hi x : Int32) : Int32 := if lo ≤ x then (if x ≤ hi then x else hi) else lo

set_option maxRecDepth 100000 in
set_option maxHeartbeats 4000000 in
/-- new reference, its four numbers -/
theorem m_X12_init_b {E : vE} {sz m k n : Nat} {x1 x2 x3 x4 : Int32} {mc ms : Nat} {Z : State → Prop} {T : vS} (hk : vK T m = 13) (X : vX) (C : vi_C E X yX12_init cX12_init 6 none 3 mc ms (45 * 3)) (go : vi_W E X 6 Z 569 [(0, .ref m), (1, .int x1), (2, .int x2), (3, .int x3), (4, .int x4)] [] (sI (sI (sI (sI T 1201 m (clI 3 9 x1)) 1211 m (clI 2 40 x4)) 1202 m (clI 1 16 x2)) 1203 m (clI 1 32 x3)) sz k n) : vi_W E X 6 Z 466 [(0, .ref m), (1, .int x1), (2, .int x2), (3, .int x3), (4, .int x4)] [] T sz k n := by
  have k566 : vi_W E X 6 Z 566 [(0, .ref m), (1, .int x1), (2, .int x2), (3, .int x3), (4, .int x4)] [.int (clI 1 32 x3), .ref m] (sI (sI (sI T 1201 m (clI 3 9 x1)) 1211 m (clI 2 40 x4)) 1202 m (clI 1 16 x2)) sz k n := by
    refine vi_puti (i := 1203) C dX12_init_566 rfl fpX12_193 (by first | exact hk | (rw [qK_sI]; exact hk) | (rw [qK_sI, qK_sI]; exact hk) | (rw [qK_sI, qK_sI, qK_sI]; exact hk)) rfl rfl (by decide) rfl rfl ?_
    exact go
  have k544 : vi_W E X 6 Z 544 [(0, .ref m), (1, .int x1), (2, .int x2), (3, .int x3), (4, .int x4)] [] (sI (sI (sI T 1201 m (clI 3 9 x1)) 1211 m (clI 2 40 x4)) 1202 m (clI 1 16 x2)) sz k n := by
    refine vi_aload_n C dX12_init_544 rfl rfl ?_
    refine vi_iload_n C dX12_init_545 rfl rfl ?_
    refine vi_iconst (v := 1) C dX12_init_546 rfl (by decide) ?_
    refine vi_icmp_ge (t' := 554) C dX12_init_547 rfl (by decide) (fun hc547 => ?_) (fun hc547 => ?_)
    · refine vi_iload_n C dX12_init_554 rfl rfl ?_
      refine vi_bipush (v := 32) C dX12_init_555 rfl (by decide) ?_
      refine vi_icmp_le (t' := 565) C dX12_init_557 rfl (by decide) (fun hc557 => ?_) (fun hc557 => ?_)
      · refine vi_iload_n C dX12_init_565 rfl rfl ?_
        have e9 : clI 1 32 x3 = x3 := by unfold clI; first | rw [if_neg hc547] | rw [if_pos hc547, if_pos hc557] | rw [if_pos hc547, if_neg hc557]
        rw [e9] at k566
        exact k566
      · refine vi_bipush (v := 32) C dX12_init_560 rfl (by decide) ?_
        refine vi_goto (t' := 566) C dX12_init_562 (by decide) ?_
        have e9 : clI 1 32 x3 = (32 : Int32) := by unfold clI; first | rw [if_neg hc547] | rw [if_pos hc547, if_pos hc557] | rw [if_pos hc547, if_neg hc557]
        rw [e9] at k566
        exact k566
    · refine vi_iconst (v := 1) C dX12_init_550 rfl (by decide) ?_
      refine vi_goto (t' := 566) C dX12_init_551 (by decide) ?_
      have e9 : clI 1 32 x3 = (1 : Int32) := by unfold clI; first | rw [if_neg hc547] | rw [if_pos hc547, if_pos hc557] | rw [if_pos hc547, if_neg hc557]
      rw [e9] at k566
      exact k566
  have k541 : vi_W E X 6 Z 541 [(0, .ref m), (1, .int x1), (2, .int x2), (3, .int x3), (4, .int x4)] [.int (clI 1 16 x2), .ref m] (sI (sI T 1201 m (clI 3 9 x1)) 1211 m (clI 2 40 x4)) sz k n := by
    refine vi_puti (i := 1202) C dX12_init_541 rfl fpX12_190 (by first | exact hk | (rw [qK_sI]; exact hk) | (rw [qK_sI, qK_sI]; exact hk) | (rw [qK_sI, qK_sI, qK_sI]; exact hk)) rfl rfl (by decide) rfl rfl ?_
    exact k544
  have k519 : vi_W E X 6 Z 519 [(0, .ref m), (1, .int x1), (2, .int x2), (3, .int x3), (4, .int x4)] [] (sI (sI T 1201 m (clI 3 9 x1)) 1211 m (clI 2 40 x4)) sz k n := by
    refine vi_aload_n C dX12_init_519 rfl rfl ?_
    refine vi_iload_n C dX12_init_520 rfl rfl ?_
    refine vi_iconst (v := 1) C dX12_init_521 rfl (by decide) ?_
    refine vi_icmp_ge (t' := 529) C dX12_init_522 rfl (by decide) (fun hc522 => ?_) (fun hc522 => ?_)
    · refine vi_iload_n C dX12_init_529 rfl rfl ?_
      refine vi_bipush (v := 16) C dX12_init_530 rfl (by decide) ?_
      refine vi_icmp_le (t' := 540) C dX12_init_532 rfl (by decide) (fun hc532 => ?_) (fun hc532 => ?_)
      · refine vi_iload_n C dX12_init_540 rfl rfl ?_
        have e9 : clI 1 16 x2 = x2 := by unfold clI; first | rw [if_neg hc522] | rw [if_pos hc522, if_pos hc532] | rw [if_pos hc522, if_neg hc532]
        rw [e9] at k541
        exact k541
      · refine vi_bipush (v := 16) C dX12_init_535 rfl (by decide) ?_
        refine vi_goto (t' := 541) C dX12_init_537 (by decide) ?_
        have e9 : clI 1 16 x2 = (16 : Int32) := by unfold clI; first | rw [if_neg hc522] | rw [if_pos hc522, if_pos hc532] | rw [if_pos hc522, if_neg hc532]
        rw [e9] at k541
        exact k541
    · refine vi_iconst (v := 1) C dX12_init_525 rfl (by decide) ?_
      refine vi_goto (t' := 541) C dX12_init_526 (by decide) ?_
      have e9 : clI 1 16 x2 = (1 : Int32) := by unfold clI; first | rw [if_neg hc522] | rw [if_pos hc522, if_pos hc532] | rw [if_pos hc522, if_neg hc532]
      rw [e9] at k541
      exact k541
  have k516 : vi_W E X 6 Z 516 [(0, .ref m), (1, .int x1), (2, .int x2), (3, .int x3), (4, .int x4)] [.int (clI 2 40 x4), .ref m] (sI T 1201 m (clI 3 9 x1)) sz k n := by
    refine vi_puti (i := 1211) C dX12_init_516 rfl fpX12_187 (by first | exact hk | (rw [qK_sI]; exact hk) | (rw [qK_sI, qK_sI]; exact hk) | (rw [qK_sI, qK_sI, qK_sI]; exact hk)) rfl rfl (by decide) rfl rfl ?_
    exact k519
  have k491 : vi_W E X 6 Z 491 [(0, .ref m), (1, .int x1), (2, .int x2), (3, .int x3), (4, .int x4)] [] (sI T 1201 m (clI 3 9 x1)) sz k n := by
    refine vi_aload_n C dX12_init_491 rfl rfl ?_
    refine vi_iload C dX12_init_492 rfl rfl ?_
    refine vi_iconst (v := 2) C dX12_init_494 rfl (by decide) ?_
    refine vi_icmp_ge (t' := 502) C dX12_init_495 rfl (by decide) (fun hc495 => ?_) (fun hc495 => ?_)
    · refine vi_iload C dX12_init_502 rfl rfl ?_
      refine vi_bipush (v := 40) C dX12_init_504 rfl (by decide) ?_
      refine vi_icmp_le (t' := 514) C dX12_init_506 rfl (by decide) (fun hc506 => ?_) (fun hc506 => ?_)
      · refine vi_iload C dX12_init_514 rfl rfl ?_
        have e9 : clI 2 40 x4 = x4 := by unfold clI; first | rw [if_neg hc495] | rw [if_pos hc495, if_pos hc506] | rw [if_pos hc495, if_neg hc506]
        rw [e9] at k516
        exact k516
      · refine vi_bipush (v := 40) C dX12_init_509 rfl (by decide) ?_
        refine vi_goto (t' := 516) C dX12_init_511 (by decide) ?_
        have e9 : clI 2 40 x4 = (40 : Int32) := by unfold clI; first | rw [if_neg hc495] | rw [if_pos hc495, if_pos hc506] | rw [if_pos hc495, if_neg hc506]
        rw [e9] at k516
        exact k516
    · refine vi_iconst (v := 2) C dX12_init_498 rfl (by decide) ?_
      refine vi_goto (t' := 516) C dX12_init_499 (by decide) ?_
      have e9 : clI 2 40 x4 = (2 : Int32) := by unfold clI; first | rw [if_neg hc495] | rw [if_pos hc495, if_pos hc506] | rw [if_pos hc495, if_neg hc506]
      rw [e9] at k516
      exact k516
  have k488 : vi_W E X 6 Z 488 [(0, .ref m), (1, .int x1), (2, .int x2), (3, .int x3), (4, .int x4)] [.int (clI 3 9 x1), .ref m] T sz k n := by
    refine vi_puti (i := 1201) C dX12_init_488 rfl fpX12_184 (by first | exact hk | (rw [qK_sI]; exact hk) | (rw [qK_sI, qK_sI]; exact hk) | (rw [qK_sI, qK_sI, qK_sI]; exact hk)) rfl rfl (by decide) rfl rfl ?_
    exact k491
  have k466 : vi_W E X 6 Z 466 [(0, .ref m), (1, .int x1), (2, .int x2), (3, .int x3), (4, .int x4)] [] T sz k n := by
    refine vi_aload_n C dX12_init_466 rfl rfl ?_
    refine vi_iload_n C dX12_init_467 rfl rfl ?_
    refine vi_iconst (v := 3) C dX12_init_468 rfl (by decide) ?_
    refine vi_icmp_ge (t' := 476) C dX12_init_469 rfl (by decide) (fun hc469 => ?_) (fun hc469 => ?_)
    · refine vi_iload_n C dX12_init_476 rfl rfl ?_
      refine vi_bipush (v := 9) C dX12_init_477 rfl (by decide) ?_
      refine vi_icmp_le (t' := 487) C dX12_init_479 rfl (by decide) (fun hc479 => ?_) (fun hc479 => ?_)
      · refine vi_iload_n C dX12_init_487 rfl rfl ?_
        have e9 : clI 3 9 x1 = x1 := by unfold clI; first | rw [if_neg hc469] | rw [if_pos hc469, if_pos hc479] | rw [if_pos hc469, if_neg hc479]
        rw [e9] at k488
        exact k488
      · refine vi_bipush (v := 9) C dX12_init_482 rfl (by decide) ?_
        refine vi_goto (t' := 488) C dX12_init_484 (by decide) ?_
        have e9 : clI 3 9 x1 = (9 : Int32) := by unfold clI; first | rw [if_neg hc469] | rw [if_pos hc469, if_pos hc479] | rw [if_pos hc469, if_neg hc479]
        rw [e9] at k488
        exact k488
    · refine vi_iconst (v := 3) C dX12_init_472 rfl (by decide) ?_
      refine vi_goto (t' := 488) C dX12_init_473 (by decide) ?_
      have e9 : clI 3 9 x1 = (3 : Int32) := by unfold clI; first | rw [if_neg hc469] | rw [if_pos hc469, if_pos hc479] | rw [if_pos hc469, if_neg hc479]
      rw [e9] at k488
      exact k488
  exact k466
/-- the first i replicas of the reference are set up; all other places of these arrays are 0 -/
def MR (S : vS) (b i : Nat) : Prop := (∀ r, vR S (b + 6) r = if r < i then 1 else 0) ∧ (∀ r, vR S (b + 35) r = if r < i then -1 else 0) ∧ (∀ r, vR S (b + 32) r = if r < i then 1 else 0) ∧ (∀ r, vR S (b + 34) r = 0) ∧ ∀ p, vR S (b + 36) p = if p / 32768 < i ∧ 512 ≤ p % 32768 ∧ p % 32768 < 1024 then sb_b (byA (headL 1 0) (p % 32768 - 512)) else 0
theorem MR.st {S S1 : vS} {b i : Nat} (M : MR S b i) (h1 : vR S1 (b + 6) = upd (vR S (b + 6)) i 1) (h2 : ∀ r, vR S1 (b + 35) r = upd (vR S (b + 35)) i (-1) r) (h3 : vR S1 (b + 32) = upd (vR S (b + 32)) i 1) (h4 : ∀ r, vR S1 (b + 34) r = 0) (h5 : vR S1 (b + 36) = plM (vR S (b + 36)) (headL 1 0) (32768 * i + 512 * 1) 0 0 512) : MR S1 b (i + 1) := by
  obtain ⟨m1, m2, m3, m4, m5⟩ := M
  refine ⟨fun r => ?_, fun r => ?_, fun r => ?_, h4, fun p => ?_⟩
  · rw [h1]; unfold upd; rw [m1]
    by_cases c : r = i
    · rw [if_pos c, if_pos (by omega)]
    · rw [if_neg c]; by_cases d : r < i
      · rw [if_pos d, if_pos (by omega)]
      · rw [if_neg d, if_neg (by omega)]
  · rw [h2]; unfold upd; rw [m2]
    by_cases c : r = i
    · rw [if_pos c, if_pos (by omega)]
    · rw [if_neg c]; by_cases d : r < i
      · rw [if_pos d, if_pos (by omega)]
      · rw [if_neg d, if_neg (by omega)]
  · rw [h3]; unfold upd; rw [m3]
    by_cases c : r = i
    · rw [if_pos c, if_pos (by omega)]
    · rw [if_neg c]; by_cases d : r < i
      · rw [if_pos d, if_pos (by omega)]
      · rw [if_neg d, if_neg (by omega)]
  · rw [h5]; unfold plM
    by_cases c : 32768 * i + 512 * 1 ≤ p ∧ p < 32768 * i + 512 * 1 + 512 ∧ 0 ≤ 0 + (p - (32768 * i + 512 * 1))
    · rw [if_pos c, if_pos ⟨by omega, by omega, by omega⟩]
      rw [show 0 + (p - (32768 * i + 512 * 1)) - 0 = p % 32768 - 512 by omega]
    · rw [if_neg c, m5]
      by_cases d : p / 32768 < i ∧ 512 ≤ p % 32768 ∧ p % 32768 < 1024
      · rw [if_pos d, if_pos ⟨by omega, d.2⟩]
      · rw [if_neg d, if_neg (fun z => d ⟨by omega, z.2⟩)]

