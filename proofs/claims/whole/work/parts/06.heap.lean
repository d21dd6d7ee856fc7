/-! ===== rows on references, returns, fields, arrays and new cells over the maps ===== -/
theorem vi_cls : ∀ (k : Nat) (r : vw_C), vwCl[k]? = some r → (∀ w ∈ u_ws r.1 r.2.1 r.2.2, w ∈ vi_tb) ∧ (∀ j, j < r.2.2 → parseFieldDescriptor (r.2.1 j).2.2.1 = some (vi_fty k j)) ∧ (∀ a, a < r.2.2 → ∀ b, b < r.2.2 → a ≠ b → (r.2.1 a).2.1 ≠ (r.2.1 b).2.1) ∧ r.2.2 < 100 := by
  intro k r h
  match k, h with
  | 0, h =>
    cases h
    exact ⟨fun w hw => vi_mem ((show ∀ w ∈ wsX00, w ∈ lw_tbl by decide +kernel) w hw) ((show ∀ w ∈ wsX00, goodWord w = true by decide +kernel) w hw), tyX0_ok, nmX0, by decide⟩
  | 1, h =>
    cases h
    exact ⟨fun w hw => vi_mem ((show ∀ w ∈ wsX10, w ∈ lw_tbl by decide +kernel) w hw) ((show ∀ w ∈ wsX10, goodWord w = true by decide +kernel) w hw), tyX1_ok, nmX1, by decide⟩
  | 2, h =>
    cases h
    exact ⟨fun w hw => vi_mem ((show ∀ w ∈ wsX20, w ∈ lw_tbl by decide +kernel) w hw) ((show ∀ w ∈ wsX20, goodWord w = true by decide +kernel) w hw), tyX2_ok, nmX2, by decide⟩
  | 3, h =>
    cases h
    exact ⟨fun w hw => vi_mem ((show ∀ w ∈ wsX30, w ∈ lw_tbl by decide +kernel) w hw) ((show ∀ w ∈ wsX30, goodWord w = true by decide +kernel) w hw), tyX3_ok, nmX3, by decide⟩
  | 4, h =>
    cases h
    exact ⟨fun w hw => vi_mem ((show ∀ w ∈ wsX40, w ∈ lw_tbl by decide +kernel) w hw) ((show ∀ w ∈ wsX40, goodWord w = true by decide +kernel) w hw), tyX4_ok, nmX4, by decide⟩
  | 5, h =>
    cases h
    exact ⟨fun w hw => vi_mem ((show ∀ w ∈ wsX50, w ∈ lw_tbl by decide +kernel) w hw) ((show ∀ w ∈ wsX50, goodWord w = true by decide +kernel) w hw), tyX5_ok, nmX5, by decide⟩
  | 6, h =>
    cases h
    exact ⟨fun w hw => vi_mem ((show ∀ w ∈ wsX60, w ∈ lw_tbl by decide +kernel) w hw) ((show ∀ w ∈ wsX60, goodWord w = true by decide +kernel) w hw), tyX6_ok, nmX6, by decide⟩
  | 7, h =>
    cases h
    exact ⟨fun w hw => vi_mem ((show ∀ w ∈ wsX70, w ∈ lw_tbl by decide +kernel) w hw) ((show ∀ w ∈ wsX70, goodWord w = true by decide +kernel) w hw), tyX7_ok, nmX7, by decide⟩
  | 8, h =>
    cases h
    exact ⟨fun w hw => vi_mem ((show ∀ w ∈ wsX80, w ∈ lw_tbl by decide +kernel) w hw) ((show ∀ w ∈ wsX80, goodWord w = true by decide +kernel) w hw), tyX8_ok, nmX8, by decide⟩
  | 9, h =>
    cases h
    exact ⟨fun w hw => vi_mem ((show ∀ w ∈ wsX90, w ∈ lw_tbl by decide +kernel) w hw) ((show ∀ w ∈ wsX90, goodWord w = true by decide +kernel) w hw), tyX9_ok, nmX9, by decide⟩
  | 10, h =>
    cases h
    exact ⟨fun w hw => vi_mem ((show ∀ w ∈ wsX100, w ∈ lw_tbl by decide +kernel) w hw) ((show ∀ w ∈ wsX100, goodWord w = true by decide +kernel) w hw), tyX10_ok, nmX10, by decide⟩
  | 11, h =>
    cases h
    exact ⟨fun w hw => vi_mem ((show ∀ w ∈ wsX110, w ∈ lw_tbl by decide +kernel) w hw) ((show ∀ w ∈ wsX110, goodWord w = true by decide +kernel) w hw), tyX11_ok, nmX11, by decide⟩
  | 12, h =>
    cases h
    exact ⟨fun w hw => vi_mem ((show ∀ w ∈ wsX120, w ∈ lw_tbl by decide +kernel) w hw) ((show ∀ w ∈ wsX120, goodWord w = true by decide +kernel) w hw), tyX12_ok, nmX12, by decide⟩
  | k + 13, h => simp [vwCl] at h
/-- a field's link, for reading -/
def vi_Fl (own : String) (idx k j : Nat) : Prop := ∃ r : vw_C, vwCl[k]? = some r ∧ j < r.2.2 ∧ (Cond.fieldLink own idx (r.2.1 j).1 (r.2.1 j).2.1 (r.2.1 j).2.2.1 ∈ vi_tb ∨ ∃ host, Cond.fieldLinkNest own idx (r.2.1 j).1 (r.2.1 j).2.1 (r.2.1 j).2.2.1 host ∈ vi_nt)
/-- a field's link, for writing: not final, or final and in a constructor of its own class -/
def vi_Fp (own nm : String) (idx k j : Nat) : Prop := ∃ r : vw_C, vwCl[k]? = some r ∧ j < r.2.2 ∧ (((r.2.1 j).2.2.2 = false ∧ (Cond.fieldLink own idx (r.2.1 j).1 (r.2.1 j).2.1 (r.2.1 j).2.2.1 ∈ vi_tb ∨ ∃ host, Cond.fieldLinkNest own idx (r.2.1 j).1 (r.2.1 j).2.1 (r.2.1 j).2.2.1 host ∈ vi_nt)) ∨ ((r.2.1 j).2.2.2 = true ∧ nm = "<init>" ∧ (r.2.1 j).1 = own ∧ Cond.fieldLink own idx (r.2.1 j).1 (r.2.1 j).2.1 (r.2.1 j).2.2.1 ∈ vi_tb))
def vi_Qc (E : vE) (Q : Option Value → vS → Nat → Prop) : Array Value → State → Outcome → State → Prop := fun _ s oc t => (∃ (v : Option Value) (S : vS) (sz : Nat), oc = .returned v ∧ Q v S sz ∧ vi_H E S sz t.heap) ∧ ∀ q : Nat, q < E.2.2.2.1 → t.heap[q]? = s.heap[q]?
def vi_Z (E : vE) (X : vX) (Q : Option Value → vS → Nat → Prop) (mc ms : Nat) : State → Prop := MQ X.2.2.2.2.2.2.1 (vi_Qc E Q) X.2.2.2.2.2.1 X.2.2.2.1 mc ms (fun q => E.2.2.2.1 ≤ q)
section VIH
variable {E : vE} {X : vX} {y : MethodName} {cc : ByteArray} {nL : Nat} {ret : Option FieldType} {d mc ms lo : Nat} {Z : State → Prop} {pc : Nat} {lv : List (Nat × Value)} {st : List Value} {S : vS} {sz k n : Nat}
theorem vi_aload_nq (C : vi_C E X y cc nL ret d mc ms lo) {p' : Nat} {q : Fin 4} {o : Option Nat} (hd : decode cc pc = .ok (.aload_n q, 1)) (hp : pc + 1 = p') (hv : vi_lk lv q.val = some (va_rf o)) (kk : vi_W E X nL Z p' lv (va_rf o :: st) S sz k n) : vi_W E X nL Z pc lv (st) S sz k n := by
  subst hp
  intro H locs ls hl hH hS
  cases o with
  | none => exact lv_aload_nN C.1 C.2.1 hd rfl (vi_lk_at hl hv) (kk H locs ls hl hH hS)
  | some a => exact lv_aload_n C.1 C.2.1 hd rfl (vi_lk_at hl hv) (kk H locs ls hl hH hS)
theorem vi_aloadq (C : vi_C E X y cc nL ret d mc ms lo) {p' : Nat} {q : Nat} {o : Option Nat} (hd : decode cc pc = .ok (.aload q, 2)) (hp : pc + 2 = p') (hv : vi_lk lv q = some (va_rf o)) (kk : vi_W E X nL Z p' lv (va_rf o :: st) S sz k n) : vi_W E X nL Z pc lv (st) S sz k n := by
  subst hp
  intro H locs ls hl hH hS
  cases o with
  | none => exact lv_aloadN C.1 C.2.1 hd (vi_lk_at hl hv) (kk H locs ls hl hH hS)
  | some a => exact lv_aload C.1 C.2.1 hd (vi_lk_at hl hv) (kk H locs ls hl hH hS)
theorem vi_astore_nq (C : vi_C E X y cc nL ret d mc ms lo) {p' : Nat} {q : Fin 4} {o : Option Nat} (hd : decode cc pc = .ok (.astore_n q, 1)) (hp : pc + 1 = p') (hn : q.val < nL) (kk : vi_W E X nL Z p' (vi_s1 lv q.val (va_rf o)) (st) S sz k n) : vi_W E X nL Z pc lv (va_rf o :: st) S sz k n := by
  subst hp
  intro H locs ls hl hH hS
  cases o with
  | none => exact lv_astore_nN C.1 C.2.1 hd rfl hl hn rfl (fun ls hl => (kk H locs ls hl hH hS))
  | some a => exact lv_astore_n C.1 C.2.1 hd rfl hl hn rfl (fun ls hl => (kk H locs ls hl hH hS))
theorem vi_astoreq (C : vi_C E X y cc nL ret d mc ms lo) {p' : Nat} {q : Nat} {o : Option Nat} (hd : decode cc pc = .ok (.astore q, 2)) (hp : pc + 2 = p') (hn : q < nL) (kk : vi_W E X nL Z p' (vi_s1 lv q (va_rf o)) (st) S sz k n) : vi_W E X nL Z pc lv (va_rf o :: st) S sz k n := by
  subst hp
  intro H locs ls hl hH hS
  cases o with
  | none => exact lv_astoreN C.1 C.2.1 hd hl hn rfl (fun ls hl => (kk H locs ls hl hH hS))
  | some a => exact lv_astore C.1 C.2.1 hd hl hn rfl (fun ls hl => (kk H locs ls hl hH hS))
theorem vi_ifnull (C : vi_C E X y cc nL ret d mc ms lo) {p' t' : Nat} {off : Int} {o : Option Nat} (hd : decode cc pc = .ok (.ifnull off, 3)) (hp : pc + 3 = p') (ht : (pc : Int) + off = (t' : Int)) (kt : o = none → vi_W E X nL Z t' lv st S sz k n) (kf : ¬ o = none → vi_W E X nL Z p' lv st S sz k n) : vi_W E X nL Z pc lv (va_rf o :: st) S sz k n := by
  subst hp
  intro H locs ls hl hH hS
  cases o with
  | none => exact lv_ifnullN C.1 C.2.1 hd ht (kt rfl H locs ls hl hH hS)
  | some a => exact lv_ifnull C.1 C.2.1 hd (kf (fun h => by cases h) H locs ls hl hH hS)
theorem vi_ifnonnull (C : vi_C E X y cc nL ret d mc ms lo) {p' t' : Nat} {off : Int} {o : Option Nat} (hd : decode cc pc = .ok (.ifnonnull off, 3)) (hp : pc + 3 = p') (ht : (pc : Int) + off = (t' : Int)) (kt : ¬ o = none → vi_W E X nL Z t' lv st S sz k n) (kf : o = none → vi_W E X nL Z p' lv st S sz k n) : vi_W E X nL Z pc lv (va_rf o :: st) S sz k n := by
  subst hp
  intro H locs ls hl hH hS
  cases o with
  | none => exact lv_ifnonnullN C.1 C.2.1 hd (kf rfl H locs ls hl hH hS)
  | some a => exact lv_ifnonnull C.1 C.2.1 hd ht (kt (fun h => by cases h) H locs ls hl hH hS)
theorem vi_ireturn (C : vi_C E X y cc nL ret d mc ms lo) {v : Int32} {ty : FieldType} {Q : Option Value → vS → Nat → Prop} {mc' ms' : Nat} (hd : decode cc pc = .ok (.ireturn, 1)) (hr : ret = some ty) (hv : narrow ty (.int v) = .int v) (hk : k ≤ mc') (hm : n ≤ ms') (hq : Q (some (.int v)) S sz) : vi_W E X nL (vi_Z E X Q mc' ms') pc lv [.int v] S sz k n := by
  intro H locs ls hl hH hS
  refine W.widen hk hm ?_
  exact W.zret C.1 C.2.1 (C.2.2.2.1.trans hr) hv (fun t ht hW => ⟨⟨_, S, sz, rfl, hq, by rw [ht]; exact hH⟩, fun q h => by rw [ht]; exact hS.1 q h⟩) hS.2 hd C.2.2.2.2.1
theorem vi_lreturn (C : vi_C E X y cc nL ret d mc ms lo) {v : Int64} {Q : Option Value → vS → Nat → Prop} {mc' ms' : Nat} (hd : decode cc pc = .ok (.lreturn, 1)) (hr : ret = some .long) (hk : k ≤ mc') (hm : n ≤ ms') (hq : Q (some (.long v)) S sz) : vi_W E X nL (vi_Z E X Q mc' ms') pc lv [.long v] S sz k n := by
  intro H locs ls hl hH hS
  refine W.widen hk hm ?_
  exact W.lret C.1 C.2.1 (C.2.2.2.1.trans hr) (fun t ht hW => ⟨⟨_, S, sz, rfl, hq, by rw [ht]; exact hH⟩, fun q h => by rw [ht]; exact hS.1 q h⟩) hS.2 hd C.2.2.2.2.1
theorem vi_areturn (C : vi_C E X y cc nL ret d mc ms lo) {o : Option Nat} {ty : FieldType} {Q : Option Value → vS → Nat → Prop} {mc' ms' : Nat} (hd : decode cc pc = .ok (.areturn, 1)) (hr : ret = some ty) (hrt : (∃ n, ty = .object n) ∨ ∃ t, ty = .array t) (hk : k ≤ mc') (hm : n ≤ ms') (hq : Q (some (va_rf o)) S sz) : vi_W E X nL (vi_Z E X Q mc' ms') pc lv [va_rf o] S sz k n := by
  intro H locs ls hl hH hS
  refine W.widen hk hm ?_
  exact W.aret C.1 C.2.1 (C.2.2.2.1.trans hr) hrt (by cases o with | none => exact Or.inl rfl | some a => exact Or.inr ⟨a, rfl⟩) (fun t ht hW => ⟨⟨_, S, sz, rfl, hq, by rw [ht]; exact hH⟩, fun q h => by rw [ht]; exact hS.1 q h⟩) hS.2 hd C.2.2.2.2.1
theorem vi_return (C : vi_C E X y cc nL ret d mc ms lo)  {Q : Option Value → vS → Nat → Prop} {mc' ms' : Nat} (hd : decode cc pc = .ok (.return_, 1)) (hr : ret = none) (hk : k ≤ mc') (hm : n ≤ ms') (hq : Q (none) S sz) : vi_W E X nL (vi_Z E X Q mc' ms') pc lv [] S sz k n := by
  intro H locs ls hl hH hS
  refine W.widen hk hm ?_
  exact W.vret C.1 C.2.1 (C.2.2.2.1.trans hr) (fun t ht hW => ⟨⟨_, S, sz, rfl, hq, by rw [ht]; exact hH⟩, fun q h => by rw [ht]; exact hS.1 q h⟩) hS.2 hd C.2.2.2.2.1
theorem vi_getv (C : vi_C E X y cc nL ret d mc ms lo) {p' : Nat} {idx c j a : Nat} (hd : decode cc pc = .ok (.getfield idx, 3)) (hp : pc + 3 = p') (hf : vi_Fl y.cls idx c j) (ha : vK S a = c + 1) (kk : vi_W E X nL Z p' lv (vV S c j a :: st) S sz k n) : vi_W E X nL Z pc lv (.ref a :: st) S sz k n := by
  subst hp
  intro H locs ls hl hH hS
  obtain ⟨r, hc, hj, hlk⟩ := hf
  obtain ⟨-, -, h1, -⟩ := hH.2.2 a (by omega)
  obtain ⟨cell, q1, q2, q3, q4⟩ := h1 c r ha hc
  obtain ⟨hin, hty, hnm, -⟩ := vi_cls c r hc
  obtain ⟨hSl, hfc, kC, hkC, hkind⟩ := C.2.2.2.2.2.2.2.2.1.1.1 c r hc
  obtain ⟨cf, kf, fi, f, hi, hsl⟩ := hSl j hj
  have hst := (u_facts hfc hkC (u_lays C.2.2.2.2.2.2.2.1 hin hj) hi).1
  rcases hlk with hlk | ⟨host, hlk⟩
  · exact W.getf C.1 C.2.1 C.2.2.2.2.2.1 (C.2.2.2.2.2.2.2.1 _ hlk) hi hst q1 (by rw [q3]; exact fun h => by cases h) (v := vV S c j a) (by rw [hsl]; exact q4 j hj) rfl rfl hd (kk H locs ls hl hH hS)
  · exact va_Wgetf C.1 C.2.1 C.2.2.2.2.2.1 (va_Nw.use (vi_nt_tab hlk) (C.2.2.2.2.2.2.2.2.1.2.2.1 _ hlk)) hi hst q1 (by rw [q3]; exact fun h => by cases h) (v := vV S c j a) (by rw [hsl]; exact q4 j hj) rfl rfl hd (kk H locs ls hl hH hS)
theorem vi_geti (C : vi_C E X y cc nL ret d mc ms lo) {p' : Nat} {idx c j a i : Nat} (hd : decode cc pc = .ok (.getfield idx, 3)) (hp : pc + 3 = p') (hf : vi_Fl y.cls idx c j) (ha : vK S a = c + 1) (hr : (vi_fty c j).isReference = false) (hi : 100 * c + j = i) (kk : vi_W E X nL Z p' lv (.int (vI S i a) :: st) S sz k n) : vi_W E X nL Z pc lv (.ref a :: st) S sz k n := by
  subst hi
  refine vi_getv C hd hp hf ha ?_
  rw [show vV S c j a = .int (vI S (100 * c + j) a) by simp [vV, hr]]
  exact kk
theorem vi_getp (C : vi_C E X y cc nL ret d mc ms lo) {p' : Nat} {idx c j a i : Nat} (hd : decode cc pc = .ok (.getfield idx, 3)) (hp : pc + 3 = p') (hf : vi_Fl y.cls idx c j) (ha : vK S a = c + 1) (hr : (vi_fty c j).isReference = true) (hi : 100 * c + j = i) (kk : vi_W E X nL Z p' lv (va_rf (vP S i a) :: st) S sz k n) : vi_W E X nL Z pc lv (.ref a :: st) S sz k n := by
  subst hi
  refine vi_getv C hd hp hf ha ?_
  rw [show vV S c j a = va_rf (vP S (100 * c + j) a) by simp [vV, hr]]
  exact kk
theorem vi_getr (C : vi_C E X y cc nL ret d mc ms lo) {p' : Nat} {idx c j a i q : Nat} (hd : decode cc pc = .ok (.getfield idx, 3)) (hp : pc + 3 = p') (hf : vi_Fl y.cls idx c j) (ha : vK S a = c + 1) (hr : (vi_fty c j).isReference = true) (hi : 100 * c + j = i) (hq : vP S i a = some q) (kk : vi_W E X nL Z p' lv (.ref q :: st) S sz k n) : vi_W E X nL Z pc lv (.ref a :: st) S sz k n := by
  refine vi_getp C hd hp hf ha hr hi ?_
  rw [hq]
  exact kk
theorem vi_putv (C : vi_C E X y cc nL ret d mc ms lo) {p' : Nat} {idx c j a : Nat} {v : Value} {S' : vS} (hd : decode cc pc = .ok (.putfield idx, 3)) (hp : pc + 3 = p') (hf : vi_Fp y.cls y.name idx c j) (ha : vK S a = c + 1) (hn : narrow (vi_fty c j) v = v) (hfit : fits (vi_fty c j) v = true)
    (hK : vK S' = vK S) (hO : ∀ b, b ≠ a → (∀ k j, vV S' k j b = vV S k j b) ∧ vN S' b = vN S b ∧ vR S' b = vR S b ∧ vJ S' b = vJ S b ∧ vQ S' b = vQ S b) (hV : ∀ i, i < 100 → vV S' c i a = updV (fun i => vV S c i a) j v i) (hc13 : c < 13) (kk : vi_W E X nL Z p' lv st S' sz k n) : vi_W E X nL Z pc lv (v :: .ref a :: st) S sz k n := by
  subst hp
  intro H locs ls hl hH hS
  obtain ⟨r, hc, hj, hlk⟩ := hf
  obtain ⟨ha0, -, h1, -⟩ := hH.2.2 a (by omega)
  obtain ⟨cell, q1, q2, q3, q4⟩ := h1 c r ha hc
  obtain ⟨hin, hty, hnm, h100⟩ := vi_cls c r hc
  have hap := va_apart (own := y.cls) C.2.2.2.2.2.2.2.1 hin (vi_fty c) hty hnm C.2.2.2.2.2.2.2.2.1.1 hc
  obtain ⟨hSl, hfc, kC, hkC, hkind⟩ := C.2.2.2.2.2.2.2.2.1.1.1 c r hc
  obtain ⟨cf, kf, fi, f, hi, hsl⟩ := hSl j hj
  have hst := (u_facts hfc hkC (u_lays C.2.2.2.2.2.2.2.1 hin hj) hi).1
  have hlay := C.2.2.2.2.2.2.2.1 _ (hin _ (u_in_lay hj))
  unfold u_lay at hlay
  have fin : ∀ H1 : Heap, H1[a]? = some (cell.setSlot f.slot v) → H1.size = H.size → (∀ q, q ≠ a → H1[q]? = H[q]?) → W X.1 E.1 X.2.1 X.2.2.1 X.2.2.2.1 X.2.2.2.2.1 X.2.2.2.2.2.1 X.2.2.2.2.2.2.1 X.2.2.2.2.2.2.2.1 X.2.2.2.2.2.2.2.2 H1 (locs ++ [⟨a, f.slot⟩]) k n Z (F0 X.2.2.2.2.1 (pc + 3) ls st) := by
    intro H1 e1 e2 e3
    refine kk H1 _ ls hl (hH.set e2 e3 hK hO (fun _ => ?_)) (hS.put ha0 e3)
    rw [hsl] at e1
    refine ⟨fun c' r' h5 h6 => ?_, fun h5 => ?_, fun h5 => ?_, fun h5 => ?_⟩
    · rw [hK, ha] at h5
      have : c' = c := by omega
      subst this
      rw [hc] at h6
      cases h6
      exact t_OB.to (V := updV (fun i => vV S c' i a) j v) ⟨_, e1, q2, q3, t_set q4 hap hj v⟩ (fun i h7 => (hV i (by omega)).symm)
    · rw [hK, ha] at h5; omega
    · rw [hK, ha] at h5; omega
    · rw [hK, ha] at h5; omega
  rcases hlk with ⟨hfin, hlk⟩ | ⟨hfin, hini, hdecl, hlk⟩
  · rw [if_neg (by rw [hfin]; decide)] at hlay
    have h6 := u_store hfc hkC hkind hlay hi (hty j hj) hn hfit
    rcases hlk with hlk | ⟨host, hlk⟩
    · exact W.putK C.1 C.2.1 (f := f) ⟨C.2.2.2.2.2.1, C.2.2.2.2.2.2.2.1 _ hlk, ⟨_, _, _, hi⟩, hst⟩ (by rw [q2]; exact h6) q1 q3 (by rw [hsl]; exact k2_hasslot (q4 j hj)) rfl rfl hd fin
    · exact va_WputK C.1 C.2.1 C.2.2.2.2.2.1 (va_Nw.use (vi_nt_tab hlk) (C.2.2.2.2.2.2.2.2.1.2.2.1 _ hlk)) hi hst (by rw [q2]; exact h6) q1 q3 (by rw [hsl]; exact k2_hasslot (q4 j hj)) rfl rfl hd fin
  · rw [if_pos hfin] at hlay
    have hcf : X.2.2.2.2.1.cls = cf := by
      obtain ⟨_, _, c', _, _, _, -, -, hf', -, -, -, hown2, -⟩ := Cond.laysFinal_spec hlay
      have e1 : c' = cf := by have := hi.symm.trans hf'; simp at this; exact this.1.symm
      rw [hdecl] at hown2
      rw [← e1]; exact Option.some.inj (C.2.2.2.2.2.1.symm.trans hown2)
    have h6 := u_fits hfc hkC hkind (Or.inr hlay) hi (hty j hj) hn hfit
    exact W.putFinK C.1 C.2.1 C.2.2.2.2.2.1 (C.2.2.2.2.2.2.2.1 _ hlk) hi hst hcf (C.2.2.2.2.2.2.1 hini) (by rw [q2]; exact h6) q1 q3 (by rw [hsl]; exact k2_hasslot (q4 j hj)) rfl rfl hd fin
theorem vi_puti (C : vi_C E X y cc nL ret d mc ms lo) {p' : Nat} {idx c j a i : Nat} {v : Int32} (hd : decode cc pc = .ok (.putfield idx, 3)) (hp : pc + 3 = p') (hf : vi_Fp y.cls y.name idx c j) (ha : vK S a = c + 1) (hr : (vi_fty c j).isReference = false) (hi : 100 * c + j = i) (hc13 : c < 13) (hn : narrow (vi_fty c j) (.int v) = .int v) (hfit : fits (vi_fty c j) (.int v) = true) (kk : vi_W E X nL Z p' lv st (sI S i a v) sz k n) : vi_W E X nL Z pc lv (.int v :: .ref a :: st) S sz k n := by
  subst hi
  refine vi_putv (S' := sI S (100 * c + j) a v) C hd hp hf ha hn hfit rfl (fun b hb => ⟨fun k' j' => ?_, rfl, rfl, rfl, rfl⟩) (fun i h => ?_) hc13 kk
  · show (if _ then _ else Value.int (vi_u2 (vI S) (100 * c + j) a v (100 * k' + j') b)) = _
    rw [vi_u2a _ _ hb]; rfl
  · by_cases e : i = j
    · subst e
      simp [vV, hr, updV, sI, vI, vi_u2]
    · have h2 : 100 * c + i ≠ 100 * c + j := by omega
      show (if _ then _ else Value.int (vi_u2 (vI S) (100 * c + j) a v (100 * c + i) a)) = _
      rw [vi_u2i _ _ h2]
      simp only [updV, if_neg e]; rfl
theorem vi_putp (C : vi_C E X y cc nL ret d mc ms lo) {p' : Nat} {idx c j a i : Nat} {o : Option Nat} (hd : decode cc pc = .ok (.putfield idx, 3)) (hp : pc + 3 = p') (hf : vi_Fp y.cls y.name idx c j) (ha : vK S a = c + 1) (hr : (vi_fty c j).isReference = true) (hi : 100 * c + j = i) (hc13 : c < 13) (kk : vi_W E X nL Z p' lv st (sP S i a o) sz k n) : vi_W E X nL Z pc lv (va_rf o :: .ref a :: st) S sz k n := by
  subst hi
  have h8 : narrow (vi_fty c j) (va_rf o) = va_rf o ∧ fits (vi_fty c j) (va_rf o) = true := by
    revert hr
    cases vi_fty c j <;> cases o <;> simp [FieldType.isReference, narrow, fits, va_rf]
  refine vi_putv (S' := sP S (100 * c + j) a o) C hd hp hf ha h8.1 h8.2 rfl (fun b hb => ⟨fun k' j' => ?_, rfl, rfl, rfl, rfl⟩) (fun i h => ?_) hc13 kk
  · show (if _ then va_rf (vi_u2 (vP S) (100 * c + j) a o (100 * k' + j') b) else _) = _
    rw [vi_u2a _ _ hb]; rfl
  · by_cases e : i = j
    · subst e
      simp [vV, hr, updV, sP, vP, vi_u2]
    · have h2 : 100 * c + i ≠ 100 * c + j := by omega
      show (if _ then va_rf (vi_u2 (vP S) (100 * c + j) a o (100 * c + i) a) else _) = _
      rw [vi_u2i _ _ h2]
      simp only [updV, if_neg e]; rfl
end VIH
