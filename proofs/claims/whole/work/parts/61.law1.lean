def scr (L : Nat) (xs : Nat → Int32) (j : Int32) : Option Int32 := if j < 0 ∨ L ≤ j.toNatClampNeg then none else some (xs j.toNatClampNeg)
theorem l_scr {E : vE} {X : vX} {y : MethodName} {cc : ByteArray} {nL : Nat} {ret : Option FieldType} {d mc ms lo : Nat} {Z : State → Prop} {pc : Nat} {lv : List (Nat × Value)} {st : List Value} {S : vS} {q n : Nat} {M : vL} {ρ : Type} {R : ρ} (C : vi_C E X y cc nL ret d mc ms lo) {p' : Nat} {j : Int32} {K : Int32 → Option ρ} (hd : decode cc pc = .ok (.iaload, 1)) (hp : pc + 1 = p') (h : (scr E.2.2.2.2.2.1 E.2.2.2.2.2.2 j).bind K = some R) (kk : ∀ v, K v = some R → vi_W E X nL Z p' lv (.int v :: st) S (cz M.1) q n) : vi_W E X nL Z pc lv (.int j :: .ref E.2.2.2.2.1 :: st) S (cz M.1) q n := l_sc C hd hp h kk
def L_law (N L : Nat) (xs : Nat → Int32) : Nat → vL → Int32 → Option vL
  | 0, _, _ => none
  | f + 1, M, i => if ((Int32.ofNat L) - (4 : Int32)) < i then (some M) else ((scr L xs (i)).bind fun v1 => if (v1 &&& (31 : Int32)) = 0 then ((scr L xs ((i + (1 : Int32)))).bind fun v3 => (scr L xs ((i + (2 : Int32)))).bind fun v4 => (scr L xs ((i + (3 : Int32)))).bind fun v5 => jn (fun (s3_211 : Int32) => bC (F_X11_beginAt N M.1 (v3) (v4) (s3_211)) M fun M8 v9 => (scr L xs ((i + (1 : Int32)))).bind fun v10 => (scr L xs ((i + (2 : Int32)))).bind fun v11 => (scr L xs ((i + (3 : Int32)))).bind fun v12 => if v12 = 0 then (bM (F_X12_beginAt M8.2.1 (v10) (v11) ((0 : Int32))) M8 fun M13 v14 => if v9 = v14 then (L_law N L xs f M13 ((i + (4)))) else (none)) else (bM (F_X12_beginAt M8.2.1 (v10) (v11) ((1 : Int32))) M8 fun M16 v17 => if v9 = v17 then (L_law N L xs f M16 ((i + (4)))) else (none))) (fun k211_6 => if v5 = 0 then ((k211_6 ((0 : Int32)))) else ((k211_6 ((1 : Int32)))))) else if (v1 &&& (31 : Int32)) = 1 then ((scr L xs ((i + (1 : Int32)))).bind fun v21 => (scr L xs ((i + (2 : Int32)))).bind fun v22 => bK (F_X11_readKey N M.1 (v21) (v22)) M fun M23 v24 => (scr L xs ((i + (1 : Int32)))).bind fun v25 => (scr L xs ((i + (2 : Int32)))).bind fun v26 => bM (F_X12_readKey M23.2.1 (v25) (v26)) M23 fun M27 v28 => bM (F_X12_thrown M27.2.1 ) M27 fun M29 v30 => if v30 = v24 then (if v24 = 0 then (if (lcI ((M29).2.2) ((v28).toInt64)) = 0 then (L_law N L xs f M29 ((i + (4)))) else (none)) else (L_law N L xs f M29 ((i + (4))))) else (none)) else if (v1 &&& (31 : Int32)) = 2 then ((scr L xs ((i + (1 : Int32)))).bind fun v35 => (scr L xs ((i + (2 : Int32)))).bind fun v36 => (scr L xs ((i + (3 : Int32)))).bind fun v37 => bC (F_X11_writeKey N M.1 (v35) (v36) (v37)) M fun M38 v39 => (scr L xs ((i + (1 : Int32)))).bind fun v40 => (scr L xs ((i + (2 : Int32)))).bind fun v41 => (scr L xs ((i + (3 : Int32)))).bind fun v42 => bM (F_X12_writeKey M38.2.1 (v40) (v41) (v42)) M38 fun M43 v44 => if v39 = v44 then (L_law N L xs f M43 ((i + (4)))) else (none)) else if (v1 &&& (31 : Int32)) = 3 then ((scr L xs ((i + (1 : Int32)))).bind fun v47 => bC (F_X11_commitIt N M.1 (v47)) M fun M48 v49 => (scr L xs ((i + (1 : Int32)))).bind fun v50 => bM (F_X12_commitIt M48.2.1 (v50)) M48 fun M51 v52 => if v49 = v52 then (L_law N L xs f M51 ((i + (4)))) else (none)) else if (v1 &&& (31 : Int32)) = 4 then ((scr L xs ((i + (1 : Int32)))).bind fun v55 => bC (F_X11_giveUp N M.1 (v55)) M fun M56 v57 => (scr L xs ((i + (1 : Int32)))).bind fun v58 => bM (F_X12_giveUp M56.2.1 (v58)) M56 fun M59 v60 => if v57 = v60 then (L_law N L xs f M59 ((i + (4)))) else (none)) else if (v1 &&& (31 : Int32)) = 5 then ((scr L xs ((i + (1 : Int32)))).bind fun v63 => (scr L xs ((i + (2 : Int32)))).bind fun v64 => bC (F_X11_retryAt N M.1 (v63) (v64)) M fun M65 v66 => (scr L xs ((i + (1 : Int32)))).bind fun v67 => (scr L xs ((i + (2 : Int32)))).bind fun v68 => bM (F_X12_retryAt M65.2.1 (v67) (v68)) M65 fun M69 v70 => if v66 = v70 then (L_law N L xs f M69 ((i + (4)))) else (none)) else if (v1 &&& (31 : Int32)) = 6 then ((scr L xs ((i + (1 : Int32)))).bind fun v73 => bC (F_X11_tickOf N M.1 (v73)) M fun M74 v75 => (scr L xs ((i + (1 : Int32)))).bind fun v76 => bM (F_X12_tickOf M74.2.1 (v76)) M74 fun M77 v78 => if v75 = v78 then (L_law N L xs f M77 ((i + (4)))) else (none)) else if (v1 &&& (31 : Int32)) = 7 then ((scr L xs ((i + (1 : Int32)))).bind fun v81 => bC (F_X11_deliverAt N M.1 (v81)) M fun M82 v83 => (scr L xs ((i + (1 : Int32)))).bind fun v84 => bM (F_X12_deliverAt M82.2.1 (v84)) M82 fun M85 v86 => if v83 = v86 then (L_law N L xs f M85 ((i + (4)))) else (none)) else if (v1 &&& (31 : Int32)) = 8 then ((scr L xs ((i + (1 : Int32)))).bind fun v89 => bC (F_X11_loseAt N M.1 (v89)) M fun M90 v91 => (scr L xs ((i + (1 : Int32)))).bind fun v92 => bM (F_X12_loseAt M90.2.1 (v92)) M90 fun M93 v94 => if v91 = v94 then (L_law N L xs f M93 ((i + (4)))) else (none)) else if (v1 &&& (31 : Int32)) = 9 then ((scr L xs ((i + (1 : Int32)))).bind fun v97 => bC (F_X11_doubleAt N M.1 (v97)) M fun M98 v99 => (scr L xs ((i + (1 : Int32)))).bind fun v100 => bM (F_X12_doubleAt M98.2.1 (v100)) M98 fun M101 v102 => if v99 = v102 then (L_law N L xs f M101 ((i + (4)))) else (none)) else if (v1 &&& (31 : Int32)) = 10 then ((scr L xs ((i + (1 : Int32)))).bind fun v105 => (scr L xs ((i + (2 : Int32)))).bind fun v106 => (scr L xs ((i + (3 : Int32)))).bind fun v107 => bC (F_X11_spoilAt N M.1 (v105) (v106) (v107)) M fun M108 v109 => (scr L xs ((i + (1 : Int32)))).bind fun v110 => (scr L xs ((i + (2 : Int32)))).bind fun v111 => (scr L xs ((i + (3 : Int32)))).bind fun v112 => bM (F_X12_spoilAt M108.2.1 (v110) (v111) (v112)) M108 fun M113 v114 => if v109 = v114 then (L_law N L xs f M113 ((i + (4)))) else (none)) else if (v1 &&& (31 : Int32)) = 11 then ((scr L xs ((i + (1 : Int32)))).bind fun v117 => (scr L xs ((i + (2 : Int32)))).bind fun v118 => jn (fun (s2_623 : Int32) => bC (F_X11_turnTo N M.1 (v117) (s2_623)) M fun M121 v122 => (scr L xs ((i + (1 : Int32)))).bind fun v123 => (scr L xs ((i + (2 : Int32)))).bind fun v124 => if v124 = 0 then (bM (F_X12_turnTo M121.2.1 (v123) ((0 : Int32))) M121 fun M125 v126 => if v122 = v126 then (L_law N L xs f M125 ((i + (4)))) else (none)) else (bM (F_X12_turnTo M121.2.1 (v123) ((1 : Int32))) M121 fun M128 v129 => if v122 = v129 then (L_law N L xs f M128 ((i + (4)))) else (none))) (fun k623_119 => if v118 = 0 then ((k623_119 ((0 : Int32)))) else ((k623_119 ((1 : Int32)))))) else if (v1 &&& (31 : Int32)) = 12 then ((scr L xs ((i + (1 : Int32)))).bind fun v133 => (scr L xs ((i + (2 : Int32)))).bind fun v134 => bC (F_X11_crashAfter N M.1 (v133) (v134)) M fun M135 v136 => (scr L xs ((i + (1 : Int32)))).bind fun v137 => (scr L xs ((i + (2 : Int32)))).bind fun v138 => bM (F_X12_crashAfter M135.2.1 (v137) (v138)) M135 fun M139 v140 => if v136 = v140 then (L_law N L xs f M139 ((i + (4)))) else (none)) else if (v1 &&& (31 : Int32)) = 13 then ((scr L xs ((i + (1 : Int32)))).bind fun v143 => (scr L xs ((i + (2 : Int32)))).bind fun v144 => bC (F_X11_replicaOf N M.1 (v143) (v144)) M fun M145 v146 => (scr L xs ((i + (1 : Int32)))).bind fun v147 => (scr L xs ((i + (2 : Int32)))).bind fun v148 => bM (F_X12_replicaOf M145.2.1 (v147) (v148)) M145 fun M149 v150 => if v146 = v150 then (L_law N L xs f M149 ((i + (4)))) else (none)) else if (v1 &&& (31 : Int32)) = 14 then ((scr L xs ((i + (1 : Int32)))).bind fun v153 => (scr L xs ((i + (2 : Int32)))).bind fun v154 => bC (F_X11_journalOf N M.1 (v153) (v154)) M fun M155 v156 => (scr L xs ((i + (1 : Int32)))).bind fun v157 => (scr L xs ((i + (2 : Int32)))).bind fun v158 => bM (F_X12_journalOf M155.2.1 (v157) (v158)) M155 fun M159 v160 => if v156 = v160 then (L_law N L xs f M159 ((i + (4)))) else (none)) else if (v1 &&& (31 : Int32)) = 15 then ((scr L xs ((i + (1 : Int32)))).bind fun v163 => (scr L xs ((i + (2 : Int32)))).bind fun v164 => (scr L xs ((i + (3 : Int32)))).bind fun v165 => bC (F_X11_blockOf N M.1 (v163) (v164) (v165)) M fun M166 v167 => (scr L xs ((i + (1 : Int32)))).bind fun v168 => (scr L xs ((i + (2 : Int32)))).bind fun v169 => (scr L xs ((i + (3 : Int32)))).bind fun v170 => bM (F_X12_blockOf M166.2.1 (v168) (v169) (v170)) M166 fun M171 v172 => if (lcI (v167) (v172)) = 0 then (L_law N L xs f M171 ((i + (4)))) else (none)) else if (v1 &&& (31 : Int32)) = 16 then ((scr L xs ((i + (1 : Int32)))).bind fun v175 => (scr L xs ((i + (2 : Int32)))).bind fun v176 => bC (F_X11_frameOf N M.1 (v175) (v176)) M fun M177 v178 => (scr L xs ((i + (1 : Int32)))).bind fun v179 => (scr L xs ((i + (2 : Int32)))).bind fun v180 => bM (F_X12_frameOf M177.2.1 (v179) (v180)) M177 fun M181 v182 => if (lcI (v178) (v182)) = 0 then (L_law N L xs f M181 ((i + (4)))) else (none)) else if (v1 &&& (31 : Int32)) = 17 then ((scr L xs ((i + (1 : Int32)))).bind fun v185 => (scr L xs ((i + (2 : Int32)))).bind fun v186 => (scr L xs ((i + (3 : Int32)))).bind fun v187 => bV (F_X11_valueAt N M.1 (v185) (v186) (v187)) M fun M188 v189 => (scr L xs ((i + (1 : Int32)))).bind fun v190 => (scr L xs ((i + (2 : Int32)))).bind fun v191 => (scr L xs ((i + (3 : Int32)))).bind fun v192 => bM (F_X12_valueAt M188.2.1 (v190) (v191) (v192)) M188 fun M193 v194 => bM (F_X12_thrown M193.2.1 ) M193 fun M195 v196 => if v196 = v189 then (if v189 = 0 then (if (lcI ((M195).2.2) ((v194).toInt64)) = 0 then (L_law N L xs f M195 ((i + (4)))) else (none)) else (L_law N L xs f M195 ((i + (4))))) else (none)) else if (v1 &&& (31 : Int32)) = 18 then ((scr L xs ((i + (1 : Int32)))).bind fun v201 => (scr L xs ((i + (2 : Int32)))).bind fun v202 => (scr L xs ((i + (3 : Int32)))).bind fun v203 => bC (F_X11_slotOf N M.1 (v201) (v202) (v203)) M fun M204 v205 => (scr L xs ((i + (1 : Int32)))).bind fun v206 => (scr L xs ((i + (2 : Int32)))).bind fun v207 => (scr L xs ((i + (3 : Int32)))).bind fun v208 => bM (F_X12_slotOf M204.2.1 (v206) (v207) (v208)) M204 fun M209 v210 => if v205 = v210 then (L_law N L xs f M209 ((i + (4)))) else (none)) else if (v1 &&& (31 : Int32)) = 19 then ((scr L xs ((i + (1 : Int32)))).bind fun v213 => (scr L xs ((i + (2 : Int32)))).bind fun v214 => (scr L xs ((i + (3 : Int32)))).bind fun v215 => jn (fun (s3_1010 : Int32) => bC (F_X11_knownOf N M.1 (v213) (v214) (s3_1010)) M fun M218 v219 => (scr L xs ((i + (1 : Int32)))).bind fun v220 => (scr L xs ((i + (2 : Int32)))).bind fun v221 => (scr L xs ((i + (3 : Int32)))).bind fun v222 => if v222 = 0 then (bM (F_X12_knownOf M218.2.1 (v220) (v221) ((0 : Int32))) M218 fun M223 v224 => if v219 = v224 then (L_law N L xs f M223 ((i + (4)))) else (none)) else (bM (F_X12_knownOf M218.2.1 (v220) (v221) ((1 : Int32))) M218 fun M226 v227 => if v219 = v227 then (L_law N L xs f M226 ((i + (4)))) else (none))) (fun k1010_216 => if v215 = 0 then ((k1010_216 ((0 : Int32)))) else ((k1010_216 ((1 : Int32)))))) else if (v1 &&& (31 : Int32)) = 20 then ((scr L xs ((i + (1 : Int32)))).bind fun v231 => (scr L xs ((i + (2 : Int32)))).bind fun v232 => bC (F_X11_sessionOf N M.1 (v231) (v232)) M fun M233 v234 => (scr L xs ((i + (1 : Int32)))).bind fun v235 => (scr L xs ((i + (2 : Int32)))).bind fun v236 => bM (F_X12_sessionOf M233.2.1 (v235) (v236)) M233 fun M237 v238 => if v234 = v238 then (L_law N L xs f M237 ((i + (4)))) else (none)) else if (v1 &&& (31 : Int32)) = 21 then ((scr L xs ((i + (1 : Int32)))).bind fun v241 => (scr L xs ((i + (2 : Int32)))).bind fun v242 => bC (F_X11_messageOf N M.1 (v241) (v242)) M fun M243 v244 => (scr L xs ((i + (1 : Int32)))).bind fun v245 => (scr L xs ((i + (2 : Int32)))).bind fun v246 => bM (F_X12_messageOf M243.2.1 (v245) (v246)) M243 fun M247 v248 => if v244 = v248 then (L_law N L xs f M247 ((i + (4)))) else (none)) else if (v1 &&& (31 : Int32)) = 22 then ((scr L xs ((i + (1 : Int32)))).bind fun v251 => bC (F_X11_lookAt N M.1 (v251)) M fun M252 v253 => (scr L xs ((i + (1 : Int32)))).bind fun v254 => bM (F_X12_lookAt M252.2.1 (v254)) M252 fun M255 v256 => if v253 = v256 then (L_law N L xs f M255 ((i + (4)))) else (none)) else (L_law N L xs f M ((i + (4)))))

set_option maxRecDepth 100000 in
set_option maxHeartbeats 8000000 in
theorem w_law {E : vE} {X : vX} {z x N d0 m b o : Nat} {R : vL} {Z : State → Prop} (C : vi_C E X yL_law cL_law 7 (some .boolean) 14 601024 7293000 576) (hZ : vi_Zs E X.2.2.2.1 X.2.2.2.1.heap) (hx : ∀ S, LW S z x N d0 m b o R → vi_W E X 7 Z 1153 [] [] S (cz R.1) 132328 2044608) : ∀ (f : Nat) (M : vL) (i : Int32), L_law N E.2.2.2.2.2.1 E.2.2.2.2.2.2 f M i = some R → ∀ q n, q + 256 * f ≤ 132328 → n + 2816 * f ≤ 2044608 → ∀ S, LW S z x N d0 m b o M → vi_W E X 7 Z 63 [(0, .ref E.2.2.2.2.1), (1, .ref x), (2, .ref m), (3, .ref o), (4, .int (i))] [] S (cz M.1) q n := by
  intro f
  induction f with
  | zero => intro M i h; cases h
  | succ f ih =>
    intro M i h q n hq1 hq2 S hL
    rw [L_law] at h
    refine vi_iload C dL_law_63 rfl rfl ?_
    refine vi_aload_n C dL_law_65 rfl rfl ?_
    refine vi_slen C dL_law_66 rfl ?_
    refine vi_iconst (v := 4) C dL_law_67 rfl (by decide) ?_
    refine vi_isub C dL_law_68 rfl ?_
    refine vi_icmp_gt (t' := 1153) C dL_law_69 rfl (by decide) (fun c259 => ?_) (fun c259 => ?_)
    · replace h := iT c259 h
      obtain rfl := Option.some.inj h
      exact vi_widen (by omega) (by omega) (vi_cut [] trivial (hx _ hL))
    · replace h := iN c259 h
      refine vi_aload_n C dL_law_72 rfl rfl ?_
      refine vi_iload C dL_law_73 rfl rfl ?_
      refine l_scr (M := M) C dL_law_75 rfl h (fun v1 h => ?_)
      refine vi_bipush (v := 31) C dL_law_76 rfl (by decide) ?_
      refine vi_iand C dL_law_78 rfl ?_
      by_cases c20 : (v1 &&& (31 : Int32)) = 0
      · replace h := iT c20 h
        refine vi_tswI (v := 0) (t' := 184) C c20 dL_law_79 (by decide) (by decide) rfl (by decide) ?_
        refine vi_aload_n C dL_law_184 rfl rfl ?_
        refine vi_aload_n C dL_law_185 rfl rfl ?_
        refine vi_iload C dL_law_186 rfl rfl ?_
        refine vi_iconst (v := 1) C dL_law_188 rfl (by decide) ?_
        refine vi_iadd C dL_law_189 rfl ?_
        refine l_scr (M := M) C dL_law_190 rfl h (fun v3 h => ?_)
        refine vi_aload_n C dL_law_191 rfl rfl ?_
        refine vi_iload C dL_law_192 rfl rfl ?_
        refine vi_iconst (v := 2) C dL_law_194 rfl (by decide) ?_
        refine vi_iadd C dL_law_195 rfl ?_
        refine l_scr (M := M) C dL_law_196 rfl h (fun v4 h => ?_)
        refine vi_aload_n C dL_law_197 rfl rfl ?_
        refine vi_iload C dL_law_198 rfl rfl ?_
        refine vi_iconst (v := 3) C dL_law_200 rfl (by decide) ?_
        refine vi_iadd C dL_law_201 rfl ?_
        refine l_scr (M := M) C dL_law_202 rfl h (fun v5 h => ?_)
        refine r_jn h (fun k => ∀ (s3_211 : Int32), k s3_211 = some R → ∀ S, LW S z x N d0 m b o M → vi_W E X 7 Z 211 [(0, .ref E.2.2.2.2.1), (1, .ref x), (2, .ref m), (3, .ref o), (4, .int (i))] [.int (s3_211), .int (v4), .int (v3), .ref x] S (cz M.1) (q + 0) (n + 0)) ?_ ?_
        · intro s3_211 h S hL
          refine l_cx1 C [.int (v3), .int (v4), .int (s3_211)] [] dL_law_211 rfl ivL_35 imX11_beginAt rfl hL h (fun _ e => p_X11_beginAt e hL.2.1) rfl (Nat.le_of_ble_eq_true rfl) ⟨by decide, by decide⟩ ⟨by omega, by omega⟩ (fun S M8 v9 h hL => ?_)
          refine vi_aload_n C dL_law_214 rfl rfl ?_
          refine vi_aload_n C dL_law_215 rfl rfl ?_
          refine vi_iload C dL_law_216 rfl rfl ?_
          refine vi_iconst (v := 1) C dL_law_218 rfl (by decide) ?_
          refine vi_iadd C dL_law_219 rfl ?_
          refine l_scr (M := M8) C dL_law_220 rfl h (fun v10 h => ?_)
          refine vi_aload_n C dL_law_221 rfl rfl ?_
          refine vi_iload C dL_law_222 rfl rfl ?_
          refine vi_iconst (v := 2) C dL_law_224 rfl (by decide) ?_
          refine vi_iadd C dL_law_225 rfl ?_
          refine l_scr (M := M8) C dL_law_226 rfl h (fun v11 h => ?_)
          refine vi_aload_n C dL_law_227 rfl rfl ?_
          refine vi_iload C dL_law_228 rfl rfl ?_
          refine vi_iconst (v := 3) C dL_law_230 rfl (by decide) ?_
          refine vi_iadd C dL_law_231 rfl ?_
          refine l_scr (M := M8) C dL_law_232 rfl h (fun v12 h => ?_)
          refine vi_if_eq (t' := 240) C dL_law_233 rfl (by decide) (fun c19 => ?_) (fun c19 => ?_)
          · replace h := iT c19 h
            refine vi_iconst (v := 0) C dL_law_240 rfl (by decide) ?_
            refine l_cm1 C [.int (v10), .int (v11), .int ((0 : Int32))] [.int (v9)] dL_law_241 rfl ivL_39 imX12_beginAt rfl hL h (fun _ e => p_X12_beginAt e hL.2.2.1) rfl (Nat.le_of_ble_eq_true rfl) ⟨by decide, by decide⟩ ⟨by omega, by omega⟩ (fun S M13 v14 h hL => ?_)
            refine vi_icmp_eq (t' := 1147) C dL_law_244 rfl (by decide) (fun c15 => ?_) (fun c15 => ?_)
            · replace h := iT c15 h
              refine vi_iincv (v := 4) C dL_law_1147 rfl rfl (by decide) (by decide) ?_
              refine vi_goto (t' := 63) C dL_law_1150 (by decide) ?_
              exact vi_cut [(0, .ref E.2.2.2.2.1), (1, .ref x), (2, .ref m), (3, .ref o), (4, .int ((i + (4))))] ⟨rfl, rfl, rfl, rfl, rfl, trivial⟩ (ih _ _ h _ _ (by omega) (by omega) _ hL)
            · replace h := iN c15 h
              refine vi_iconst (v := 0) C dL_law_247 rfl (by decide) ?_
              cases h
          · replace h := iN c19 h
            refine vi_iconst (v := 1) C dL_law_236 rfl (by decide) ?_
            refine vi_goto (t' := 241) C dL_law_237 (by decide) ?_
            refine l_cm1 C [.int (v10), .int (v11), .int ((1 : Int32))] [.int (v9)] dL_law_241 rfl ivL_39 imX12_beginAt rfl hL h (fun _ e => p_X12_beginAt e hL.2.2.1) rfl (Nat.le_of_ble_eq_true rfl) ⟨by decide, by decide⟩ ⟨by omega, by omega⟩ (fun S M16 v17 h hL => ?_)
            refine vi_icmp_eq (t' := 1147) C dL_law_244 rfl (by decide) (fun c18 => ?_) (fun c18 => ?_)
            · replace h := iT c18 h
              refine vi_iincv (v := 4) C dL_law_1147 rfl rfl (by decide) (by decide) ?_
              refine vi_goto (t' := 63) C dL_law_1150 (by decide) ?_
              exact vi_cut [(0, .ref E.2.2.2.2.1), (1, .ref x), (2, .ref m), (3, .ref o), (4, .int ((i + (4))))] ⟨rfl, rfl, rfl, rfl, rfl, trivial⟩ (ih _ _ h _ _ (by omega) (by omega) _ hL)
            · replace h := iN c18 h
              refine vi_iconst (v := 0) C dL_law_247 rfl (by decide) ?_
              cases h
        · intro k211_6 h211_6 h
          refine vi_if_eq (t' := 210) C dL_law_203 rfl (by decide) (fun c7 => ?_) (fun c7 => ?_)
          · replace h := iT c7 h
            refine vi_iconst (v := 0) C dL_law_210 rfl (by decide) ?_
            exact (vi_cut [(0, .ref E.2.2.2.2.1), (1, .ref x), (2, .ref m), (3, .ref o), (4, .int (i))] ⟨rfl, rfl, rfl, rfl, rfl, trivial⟩ (h211_6 _ h _ hL))
          · replace h := iN c7 h
            refine vi_iconst (v := 1) C dL_law_206 rfl (by decide) ?_
            refine vi_goto (t' := 211) C dL_law_207 (by decide) ?_
            exact (vi_cut [(0, .ref E.2.2.2.2.1), (1, .ref x), (2, .ref m), (3, .ref o), (4, .int (i))] ⟨rfl, rfl, rfl, rfl, rfl, trivial⟩ (h211_6 _ h _ hL))
      replace h := iN c20 h
      by_cases c34 : (v1 &&& (31 : Int32)) = 1
      · replace h := iT c34 h
        refine vi_tswI (v := 1) (t' := 249) C c34 dL_law_79 (by decide) (by decide) rfl (by decide) ?_
        refine vi_aload_n C dL_law_249 rfl rfl ?_
        refine vi_aload_n C dL_law_250 rfl rfl ?_
        refine vi_iload C dL_law_251 rfl rfl ?_
        refine vi_iconst (v := 1) C dL_law_253 rfl (by decide) ?_
        refine vi_iadd C dL_law_254 rfl ?_
        refine l_scr (M := M) C dL_law_255 rfl h (fun v21 h => ?_)
        refine vi_aload_n C dL_law_256 rfl rfl ?_
        refine vi_iload C dL_law_257 rfl rfl ?_
        refine vi_iconst (v := 2) C dL_law_259 rfl (by decide) ?_
        refine vi_iadd C dL_law_260 rfl ?_
        refine l_scr (M := M) C dL_law_261 rfl h (fun v22 h => ?_)
        refine vi_aload_n C dL_law_262 rfl rfl ?_
        refine l_hK C hZ [] dL_law_263 rfl hk_l hL h rfl (Nat.le_of_ble_eq_true rfl) ⟨by decide, by decide⟩ ⟨by omega, by omega⟩ (fun S M23 v24 h hL => ?_)
        refine vi_istore C dL_law_266 rfl (by decide) ?_
        refine vi_aload_n C dL_law_268 rfl rfl ?_
        refine vi_aload_n C dL_law_269 rfl rfl ?_
        refine vi_iload C dL_law_270 rfl rfl ?_
        refine vi_iconst (v := 1) C dL_law_272 rfl (by decide) ?_
        refine vi_iadd C dL_law_273 rfl ?_
        refine l_scr (M := M23) C dL_law_274 rfl h (fun v25 h => ?_)
        refine vi_aload_n C dL_law_275 rfl rfl ?_
        refine vi_iload C dL_law_276 rfl rfl ?_
        refine vi_iconst (v := 2) C dL_law_278 rfl (by decide) ?_
        refine vi_iadd C dL_law_279 rfl ?_
        refine l_scr (M := M23) C dL_law_280 rfl h (fun v26 h => ?_)
        refine l_cm1 C [.int (v25), .int (v26)] [] dL_law_281 rfl ivL_43 imX12_readKey rfl hL h (fun _ e => p_X12_readKey e hL.2.2.1) rfl (Nat.le_of_ble_eq_true rfl) ⟨by decide, by decide⟩ ⟨by omega, by omega⟩ (fun S M27 v28 h hL => ?_)
        refine vi_istore C dL_law_284 rfl (by decide) ?_
        refine vi_aload_n C dL_law_286 rfl rfl ?_
        refine l_cm1 C [] [] dL_law_287 rfl ivL_44 imX12_thrown rfl hL h (fun _ e => p_X12_thrown e hL.2.2.1) rfl (Nat.le_of_ble_eq_true rfl) ⟨by decide, by decide⟩ ⟨by omega, by omega⟩ (fun S M29 v30 h hL => ?_)
        refine vi_iload C dL_law_290 rfl rfl ?_
        refine vi_icmp_eq (t' := 297) C dL_law_292 rfl (by decide) (fun c33 => ?_) (fun c33 => ?_)
        · replace h := iT c33 h
          refine vi_iload C dL_law_297 rfl rfl ?_
          refine vi_if_ne (t' := 314) C dL_law_299 rfl (by decide) (fun c32 => ?_) (fun c32 => ?_)
          · replace h := iN c32 h
            refine vi_goto (t' := 1147) C dL_law_314 (by decide) ?_
            refine vi_iincv (v := 4) C dL_law_1147 rfl rfl (by decide) (by decide) ?_
            refine vi_goto (t' := 63) C dL_law_1150 (by decide) ?_
            exact vi_cut [(0, .ref E.2.2.2.2.1), (1, .ref x), (2, .ref m), (3, .ref o), (4, .int ((i + (4))))] ⟨rfl, rfl, rfl, rfl, rfl, trivial⟩ (ih _ _ h _ _ (by omega) (by omega) _ hL)
          · replace h := iT c32 h
            refine vi_aload_n C dL_law_302 rfl rfl ?_
            refine vi_iconst (v := 0) C dL_law_303 rfl (by decide) ?_
            refine l_out C dL_law_304 rfl hL ?_
            refine vi_iload C dL_law_305 rfl rfl ?_
            refine vi_i2l C dL_law_307 rfl ?_
            refine vi_lcmp C dL_law_308 rfl ?_
            refine vi_if_eq (t' := 314) C dL_law_309 rfl (by decide) (fun c31 => ?_) (fun c31 => ?_)
            · replace h := iT c31 h
              refine vi_goto (t' := 1147) C dL_law_314 (by decide) ?_
              refine vi_iincv (v := 4) C dL_law_1147 rfl rfl (by decide) (by decide) ?_
              refine vi_goto (t' := 63) C dL_law_1150 (by decide) ?_
              exact vi_cut [(0, .ref E.2.2.2.2.1), (1, .ref x), (2, .ref m), (3, .ref o), (4, .int ((i + (4))))] ⟨rfl, rfl, rfl, rfl, rfl, trivial⟩ (ih _ _ h _ _ (by omega) (by omega) _ hL)
            · replace h := iN c31 h
              refine vi_iconst (v := 0) C dL_law_312 rfl (by decide) ?_
              cases h
        · replace h := iN c33 h
          refine vi_iconst (v := 0) C dL_law_295 rfl (by decide) ?_
          cases h
      replace h := iN c34 h
      by_cases c46 : (v1 &&& (31 : Int32)) = 2
      · replace h := iT c46 h
        refine vi_tswI (v := 2) (t' := 317) C c46 dL_law_79 (by decide) (by decide) rfl (by decide) ?_
        refine vi_aload_n C dL_law_317 rfl rfl ?_
        refine vi_aload_n C dL_law_318 rfl rfl ?_
        refine vi_iload C dL_law_319 rfl rfl ?_
        refine vi_iconst (v := 1) C dL_law_321 rfl (by decide) ?_
        refine vi_iadd C dL_law_322 rfl ?_
        refine l_scr (M := M) C dL_law_323 rfl h (fun v35 h => ?_)
        refine vi_aload_n C dL_law_324 rfl rfl ?_
        refine vi_iload C dL_law_325 rfl rfl ?_
        refine vi_iconst (v := 2) C dL_law_327 rfl (by decide) ?_
        refine vi_iadd C dL_law_328 rfl ?_
        refine l_scr (M := M) C dL_law_329 rfl h (fun v36 h => ?_)
        refine vi_aload_n C dL_law_330 rfl rfl ?_
        refine vi_iload C dL_law_331 rfl rfl ?_
        refine vi_iconst (v := 3) C dL_law_333 rfl (by decide) ?_
        refine vi_iadd C dL_law_334 rfl ?_
        refine l_scr (M := M) C dL_law_335 rfl h (fun v37 h => ?_)
        refine l_cx1 C [.int (v35), .int (v36), .int (v37)] [] dL_law_336 rfl ivL_48 imX11_writeKey rfl hL h (fun _ e => p_X11_writeKey e hL.2.1) rfl (Nat.le_of_ble_eq_true rfl) ⟨by decide, by decide⟩ ⟨by omega, by omega⟩ (fun S M38 v39 h hL => ?_)
        refine vi_aload_n C dL_law_339 rfl rfl ?_
        refine vi_aload_n C dL_law_340 rfl rfl ?_
        refine vi_iload C dL_law_341 rfl rfl ?_
        refine vi_iconst (v := 1) C dL_law_343 rfl (by decide) ?_
        refine vi_iadd C dL_law_344 rfl ?_
        refine l_scr (M := M38) C dL_law_345 rfl h (fun v40 h => ?_)
        refine vi_aload_n C dL_law_346 rfl rfl ?_
        refine vi_iload C dL_law_347 rfl rfl ?_
        refine vi_iconst (v := 2) C dL_law_349 rfl (by decide) ?_
        refine vi_iadd C dL_law_350 rfl ?_
        refine l_scr (M := M38) C dL_law_351 rfl h (fun v41 h => ?_)
        refine vi_aload_n C dL_law_352 rfl rfl ?_
        refine vi_iload C dL_law_353 rfl rfl ?_
        refine vi_iconst (v := 3) C dL_law_355 rfl (by decide) ?_
        refine vi_iadd C dL_law_356 rfl ?_
        refine l_scr (M := M38) C dL_law_357 rfl h (fun v42 h => ?_)
        refine l_cm1 C [.int (v40), .int (v41), .int (v42)] [.int (v39)] dL_law_358 rfl ivL_52 imX12_writeKey rfl hL h (fun _ e => p_X12_writeKey e hL.2.2.1) rfl (Nat.le_of_ble_eq_true rfl) ⟨by decide, by decide⟩ ⟨by omega, by omega⟩ (fun S M43 v44 h hL => ?_)
        refine vi_icmp_eq (t' := 1147) C dL_law_361 rfl (by decide) (fun c45 => ?_) (fun c45 => ?_)
        · replace h := iT c45 h
          refine vi_iincv (v := 4) C dL_law_1147 rfl rfl (by decide) (by decide) ?_
          refine vi_goto (t' := 63) C dL_law_1150 (by decide) ?_
          exact vi_cut [(0, .ref E.2.2.2.2.1), (1, .ref x), (2, .ref m), (3, .ref o), (4, .int ((i + (4))))] ⟨rfl, rfl, rfl, rfl, rfl, trivial⟩ (ih _ _ h _ _ (by omega) (by omega) _ hL)
        · replace h := iN c45 h
          refine vi_iconst (v := 0) C dL_law_364 rfl (by decide) ?_
          cases h
      replace h := iN c46 h
      by_cases c54 : (v1 &&& (31 : Int32)) = 3
      · replace h := iT c54 h
        refine vi_tswI (v := 3) (t' := 366) C c54 dL_law_79 (by decide) (by decide) rfl (by decide) ?_
        refine vi_aload_n C dL_law_366 rfl rfl ?_
        refine vi_aload_n C dL_law_367 rfl rfl ?_
        refine vi_iload C dL_law_368 rfl rfl ?_
        refine vi_iconst (v := 1) C dL_law_370 rfl (by decide) ?_
        refine vi_iadd C dL_law_371 rfl ?_
        refine l_scr (M := M) C dL_law_372 rfl h (fun v47 h => ?_)
        refine l_cx1 C [.int (v47)] [] dL_law_373 rfl ivL_53 imX11_commitIt rfl hL h (fun _ e => p_X11_commitIt e hL.2.1) rfl (Nat.le_of_ble_eq_true rfl) ⟨by decide, by decide⟩ ⟨by omega, by omega⟩ (fun S M48 v49 h hL => ?_)
        refine vi_aload_n C dL_law_376 rfl rfl ?_
        refine vi_aload_n C dL_law_377 rfl rfl ?_
        refine vi_iload C dL_law_378 rfl rfl ?_
        refine vi_iconst (v := 1) C dL_law_380 rfl (by decide) ?_
        refine vi_iadd C dL_law_381 rfl ?_
        refine l_scr (M := M48) C dL_law_382 rfl h (fun v50 h => ?_)
        refine l_cm1 C [.int (v50)] [.int (v49)] dL_law_383 rfl ivL_57 imX12_commitIt rfl hL h (fun _ e => p_X12_commitIt e hL.2.2.1) rfl (Nat.le_of_ble_eq_true rfl) ⟨by decide, by decide⟩ ⟨by omega, by omega⟩ (fun S M51 v52 h hL => ?_)
        refine vi_icmp_eq (t' := 1147) C dL_law_386 rfl (by decide) (fun c53 => ?_) (fun c53 => ?_)
        · replace h := iT c53 h
          refine vi_iincv (v := 4) C dL_law_1147 rfl rfl (by decide) (by decide) ?_
          refine vi_goto (t' := 63) C dL_law_1150 (by decide) ?_
          exact vi_cut [(0, .ref E.2.2.2.2.1), (1, .ref x), (2, .ref m), (3, .ref o), (4, .int ((i + (4))))] ⟨rfl, rfl, rfl, rfl, rfl, trivial⟩ (ih _ _ h _ _ (by omega) (by omega) _ hL)
        · replace h := iN c53 h
          refine vi_iconst (v := 0) C dL_law_389 rfl (by decide) ?_
          cases h
      replace h := iN c54 h
      by_cases c62 : (v1 &&& (31 : Int32)) = 4
      · replace h := iT c62 h
        refine vi_tswI (v := 4) (t' := 391) C c62 dL_law_79 (by decide) (by decide) rfl (by decide) ?_
        refine vi_aload_n C dL_law_391 rfl rfl ?_
        refine vi_aload_n C dL_law_392 rfl rfl ?_
        refine vi_iload C dL_law_393 rfl rfl ?_
        refine vi_iconst (v := 1) C dL_law_395 rfl (by decide) ?_
        refine vi_iadd C dL_law_396 rfl ?_
        refine l_scr (M := M) C dL_law_397 rfl h (fun v55 h => ?_)
        refine l_cx1 C [.int (v55)] [] dL_law_398 rfl ivL_58 imX11_giveUp rfl hL h (fun _ e => p_X11_giveUp e hL.2.1) rfl (Nat.le_of_ble_eq_true rfl) ⟨by decide, by decide⟩ ⟨by omega, by omega⟩ (fun S M56 v57 h hL => ?_)
        refine vi_aload_n C dL_law_401 rfl rfl ?_
        refine vi_aload_n C dL_law_402 rfl rfl ?_
        refine vi_iload C dL_law_403 rfl rfl ?_
        refine vi_iconst (v := 1) C dL_law_405 rfl (by decide) ?_
        refine vi_iadd C dL_law_406 rfl ?_
        refine l_scr (M := M56) C dL_law_407 rfl h (fun v58 h => ?_)
        refine l_cm1 C [.int (v58)] [.int (v57)] dL_law_408 rfl ivL_62 imX12_giveUp rfl hL h (fun _ e => p_X12_giveUp e hL.2.2.1) rfl (Nat.le_of_ble_eq_true rfl) ⟨by decide, by decide⟩ ⟨by omega, by omega⟩ (fun S M59 v60 h hL => ?_)
        refine vi_icmp_eq (t' := 1147) C dL_law_411 rfl (by decide) (fun c61 => ?_) (fun c61 => ?_)
        · replace h := iT c61 h
          refine vi_iincv (v := 4) C dL_law_1147 rfl rfl (by decide) (by decide) ?_
          refine vi_goto (t' := 63) C dL_law_1150 (by decide) ?_
          exact vi_cut [(0, .ref E.2.2.2.2.1), (1, .ref x), (2, .ref m), (3, .ref o), (4, .int ((i + (4))))] ⟨rfl, rfl, rfl, rfl, rfl, trivial⟩ (ih _ _ h _ _ (by omega) (by omega) _ hL)
        · replace h := iN c61 h
          refine vi_iconst (v := 0) C dL_law_414 rfl (by decide) ?_
          cases h
      replace h := iN c62 h
      by_cases c72 : (v1 &&& (31 : Int32)) = 5
      · replace h := iT c72 h
        refine vi_tswI (v := 5) (t' := 416) C c72 dL_law_79 (by decide) (by decide) rfl (by decide) ?_
        refine vi_aload_n C dL_law_416 rfl rfl ?_
        refine vi_aload_n C dL_law_417 rfl rfl ?_
        refine vi_iload C dL_law_418 rfl rfl ?_
        refine vi_iconst (v := 1) C dL_law_420 rfl (by decide) ?_
        refine vi_iadd C dL_law_421 rfl ?_
        refine l_scr (M := M) C dL_law_422 rfl h (fun v63 h => ?_)
        refine vi_aload_n C dL_law_423 rfl rfl ?_
        refine vi_iload C dL_law_424 rfl rfl ?_
        refine vi_iconst (v := 2) C dL_law_426 rfl (by decide) ?_
        refine vi_iadd C dL_law_427 rfl ?_
        refine l_scr (M := M) C dL_law_428 rfl h (fun v64 h => ?_)
        refine l_cx1 C [.int (v63), .int (v64)] [] dL_law_429 rfl ivL_63 imX11_retryAt rfl hL h (fun _ e => p_X11_retryAt e hL.2.1) rfl (Nat.le_of_ble_eq_true rfl) ⟨by decide, by decide⟩ ⟨by omega, by omega⟩ (fun S M65 v66 h hL => ?_)
        refine vi_aload_n C dL_law_432 rfl rfl ?_
        refine vi_aload_n C dL_law_433 rfl rfl ?_
        refine vi_iload C dL_law_434 rfl rfl ?_
        refine vi_iconst (v := 1) C dL_law_436 rfl (by decide) ?_
        refine vi_iadd C dL_law_437 rfl ?_
        refine l_scr (M := M65) C dL_law_438 rfl h (fun v67 h => ?_)
        refine vi_aload_n C dL_law_439 rfl rfl ?_
        refine vi_iload C dL_law_440 rfl rfl ?_
        refine vi_iconst (v := 2) C dL_law_442 rfl (by decide) ?_
        refine vi_iadd C dL_law_443 rfl ?_
        refine l_scr (M := M65) C dL_law_444 rfl h (fun v68 h => ?_)
        refine l_cm1 C [.int (v67), .int (v68)] [.int (v66)] dL_law_445 rfl ivL_66 imX12_retryAt rfl hL h (fun _ e => p_X12_retryAt e hL.2.2.1) rfl (Nat.le_of_ble_eq_true rfl) ⟨by decide, by decide⟩ ⟨by omega, by omega⟩ (fun S M69 v70 h hL => ?_)
        refine vi_icmp_eq (t' := 1147) C dL_law_448 rfl (by decide) (fun c71 => ?_) (fun c71 => ?_)
        · replace h := iT c71 h
          refine vi_iincv (v := 4) C dL_law_1147 rfl rfl (by decide) (by decide) ?_
          refine vi_goto (t' := 63) C dL_law_1150 (by decide) ?_
          exact vi_cut [(0, .ref E.2.2.2.2.1), (1, .ref x), (2, .ref m), (3, .ref o), (4, .int ((i + (4))))] ⟨rfl, rfl, rfl, rfl, rfl, trivial⟩ (ih _ _ h _ _ (by omega) (by omega) _ hL)
        · replace h := iN c71 h
          refine vi_iconst (v := 0) C dL_law_451 rfl (by decide) ?_
          cases h
      replace h := iN c72 h
      by_cases c80 : (v1 &&& (31 : Int32)) = 6
      · replace h := iT c80 h
        refine vi_tswI (v := 6) (t' := 453) C c80 dL_law_79 (by decide) (by decide) rfl (by decide) ?_
        refine vi_aload_n C dL_law_453 rfl rfl ?_
        refine vi_aload_n C dL_law_454 rfl rfl ?_
        refine vi_iload C dL_law_455 rfl rfl ?_
        refine vi_iconst (v := 1) C dL_law_457 rfl (by decide) ?_
        refine vi_iadd C dL_law_458 rfl ?_
        refine l_scr (M := M) C dL_law_459 rfl h (fun v73 h => ?_)
        refine l_cx1 C [.int (v73)] [] dL_law_460 rfl ivL_67 imX11_tickOf rfl hL h (fun _ e => p_X11_tickOf e hL.2.1) rfl (Nat.le_of_ble_eq_true rfl) ⟨by decide, by decide⟩ ⟨by omega, by omega⟩ (fun S M74 v75 h hL => ?_)
        refine vi_aload_n C dL_law_463 rfl rfl ?_
        refine vi_aload_n C dL_law_464 rfl rfl ?_
        refine vi_iload C dL_law_465 rfl rfl ?_
        refine vi_iconst (v := 1) C dL_law_467 rfl (by decide) ?_
        refine vi_iadd C dL_law_468 rfl ?_
        refine l_scr (M := M74) C dL_law_469 rfl h (fun v76 h => ?_)
        refine l_cm1 C [.int (v76)] [.int (v75)] dL_law_470 rfl ivL_70 imX12_tickOf rfl hL h (fun _ e => p_X12_tickOf e hL.2.2.1) rfl (Nat.le_of_ble_eq_true rfl) ⟨by decide, by decide⟩ ⟨by omega, by omega⟩ (fun S M77 v78 h hL => ?_)
        refine vi_icmp_eq (t' := 1147) C dL_law_473 rfl (by decide) (fun c79 => ?_) (fun c79 => ?_)
        · replace h := iT c79 h
          refine vi_iincv (v := 4) C dL_law_1147 rfl rfl (by decide) (by decide) ?_
          refine vi_goto (t' := 63) C dL_law_1150 (by decide) ?_
          exact vi_cut [(0, .ref E.2.2.2.2.1), (1, .ref x), (2, .ref m), (3, .ref o), (4, .int ((i + (4))))] ⟨rfl, rfl, rfl, rfl, rfl, trivial⟩ (ih _ _ h _ _ (by omega) (by omega) _ hL)
        · replace h := iN c79 h
          refine vi_iconst (v := 0) C dL_law_476 rfl (by decide) ?_
          cases h
      replace h := iN c80 h
      by_cases c88 : (v1 &&& (31 : Int32)) = 7
      · replace h := iT c88 h
        refine vi_tswI (v := 7) (t' := 478) C c88 dL_law_79 (by decide) (by decide) rfl (by decide) ?_
        refine vi_aload_n C dL_law_478 rfl rfl ?_
        refine vi_aload_n C dL_law_479 rfl rfl ?_
        refine vi_iload C dL_law_480 rfl rfl ?_
        refine vi_iconst (v := 1) C dL_law_482 rfl (by decide) ?_
        refine vi_iadd C dL_law_483 rfl ?_
        refine l_scr (M := M) C dL_law_484 rfl h (fun v81 h => ?_)
        refine l_cx1 C [.int (v81)] [] dL_law_485 rfl ivL_71 imX11_deliverAt rfl hL h (fun _ e => p_X11_deliverAt e hL.2.1) rfl (Nat.le_of_ble_eq_true rfl) ⟨by decide, by decide⟩ ⟨by omega, by omega⟩ (fun S M82 v83 h hL => ?_)
        refine vi_aload_n C dL_law_488 rfl rfl ?_
        refine vi_aload_n C dL_law_489 rfl rfl ?_
        refine vi_iload C dL_law_490 rfl rfl ?_
        refine vi_iconst (v := 1) C dL_law_492 rfl (by decide) ?_
        refine vi_iadd C dL_law_493 rfl ?_
        refine l_scr (M := M82) C dL_law_494 rfl h (fun v84 h => ?_)
        refine l_cm1 C [.int (v84)] [.int (v83)] dL_law_495 rfl ivL_74 imX12_deliverAt rfl hL h (fun _ e => p_X12_deliverAt e hL.2.2.1) rfl (Nat.le_of_ble_eq_true rfl) ⟨by decide, by decide⟩ ⟨by omega, by omega⟩ (fun S M85 v86 h hL => ?_)
        refine vi_icmp_eq (t' := 1147) C dL_law_498 rfl (by decide) (fun c87 => ?_) (fun c87 => ?_)
        · replace h := iT c87 h
          refine vi_iincv (v := 4) C dL_law_1147 rfl rfl (by decide) (by decide) ?_
          refine vi_goto (t' := 63) C dL_law_1150 (by decide) ?_
          exact vi_cut [(0, .ref E.2.2.2.2.1), (1, .ref x), (2, .ref m), (3, .ref o), (4, .int ((i + (4))))] ⟨rfl, rfl, rfl, rfl, rfl, trivial⟩ (ih _ _ h _ _ (by omega) (by omega) _ hL)
        · replace h := iN c87 h
          refine vi_iconst (v := 0) C dL_law_501 rfl (by decide) ?_
          cases h
      replace h := iN c88 h
      by_cases c96 : (v1 &&& (31 : Int32)) = 8
      · replace h := iT c96 h
        refine vi_tswI (v := 8) (t' := 503) C c96 dL_law_79 (by decide) (by decide) rfl (by decide) ?_
        refine vi_aload_n C dL_law_503 rfl rfl ?_
        refine vi_aload_n C dL_law_504 rfl rfl ?_
        refine vi_iload C dL_law_505 rfl rfl ?_
        refine vi_iconst (v := 1) C dL_law_507 rfl (by decide) ?_
        refine vi_iadd C dL_law_508 rfl ?_
        refine l_scr (M := M) C dL_law_509 rfl h (fun v89 h => ?_)
        refine l_cx1 C [.int (v89)] [] dL_law_510 rfl ivL_75 imX11_loseAt rfl hL h (fun _ e => p_X11_loseAt e hL.2.1) rfl (Nat.le_of_ble_eq_true rfl) ⟨by decide, by decide⟩ ⟨by omega, by omega⟩ (fun S M90 v91 h hL => ?_)
        refine vi_aload_n C dL_law_513 rfl rfl ?_
        refine vi_aload_n C dL_law_514 rfl rfl ?_
        refine vi_iload C dL_law_515 rfl rfl ?_
        refine vi_iconst (v := 1) C dL_law_517 rfl (by decide) ?_
        refine vi_iadd C dL_law_518 rfl ?_
        refine l_scr (M := M90) C dL_law_519 rfl h (fun v92 h => ?_)
        refine l_cm1 C [.int (v92)] [.int (v91)] dL_law_520 rfl ivL_78 imX12_loseAt rfl hL h (fun _ e => p_X12_loseAt e hL.2.2.1) rfl (Nat.le_of_ble_eq_true rfl) ⟨by decide, by decide⟩ ⟨by omega, by omega⟩ (fun S M93 v94 h hL => ?_)
        refine vi_icmp_eq (t' := 1147) C dL_law_523 rfl (by decide) (fun c95 => ?_) (fun c95 => ?_)
        · replace h := iT c95 h
          refine vi_iincv (v := 4) C dL_law_1147 rfl rfl (by decide) (by decide) ?_
          refine vi_goto (t' := 63) C dL_law_1150 (by decide) ?_
          exact vi_cut [(0, .ref E.2.2.2.2.1), (1, .ref x), (2, .ref m), (3, .ref o), (4, .int ((i + (4))))] ⟨rfl, rfl, rfl, rfl, rfl, trivial⟩ (ih _ _ h _ _ (by omega) (by omega) _ hL)
        · replace h := iN c95 h
          refine vi_iconst (v := 0) C dL_law_526 rfl (by decide) ?_
          cases h
      replace h := iN c96 h
      by_cases c104 : (v1 &&& (31 : Int32)) = 9
      · replace h := iT c104 h
        refine vi_tswI (v := 9) (t' := 528) C c104 dL_law_79 (by decide) (by decide) rfl (by decide) ?_
        refine vi_aload_n C dL_law_528 rfl rfl ?_
        refine vi_aload_n C dL_law_529 rfl rfl ?_
        refine vi_iload C dL_law_530 rfl rfl ?_
        refine vi_iconst (v := 1) C dL_law_532 rfl (by decide) ?_
        refine vi_iadd C dL_law_533 rfl ?_
        refine l_scr (M := M) C dL_law_534 rfl h (fun v97 h => ?_)
        refine l_cx1 C [.int (v97)] [] dL_law_535 rfl ivL_79 imX11_doubleAt rfl hL h (fun _ e => p_X11_doubleAt e hL.2.1) rfl (Nat.le_of_ble_eq_true rfl) ⟨by decide, by decide⟩ ⟨by omega, by omega⟩ (fun S M98 v99 h hL => ?_)
        refine vi_aload_n C dL_law_538 rfl rfl ?_
        refine vi_aload_n C dL_law_539 rfl rfl ?_
        refine vi_iload C dL_law_540 rfl rfl ?_
        refine vi_iconst (v := 1) C dL_law_542 rfl (by decide) ?_
        refine vi_iadd C dL_law_543 rfl ?_
        refine l_scr (M := M98) C dL_law_544 rfl h (fun v100 h => ?_)
        refine l_cm1 C [.int (v100)] [.int (v99)] dL_law_545 rfl ivL_82 imX12_doubleAt rfl hL h (fun _ e => p_X12_doubleAt e hL.2.2.1) rfl (Nat.le_of_ble_eq_true rfl) ⟨by decide, by decide⟩ ⟨by omega, by omega⟩ (fun S M101 v102 h hL => ?_)
        refine vi_icmp_eq (t' := 1147) C dL_law_548 rfl (by decide) (fun c103 => ?_) (fun c103 => ?_)
        · replace h := iT c103 h
          refine vi_iincv (v := 4) C dL_law_1147 rfl rfl (by decide) (by decide) ?_
          refine vi_goto (t' := 63) C dL_law_1150 (by decide) ?_
          exact vi_cut [(0, .ref E.2.2.2.2.1), (1, .ref x), (2, .ref m), (3, .ref o), (4, .int ((i + (4))))] ⟨rfl, rfl, rfl, rfl, rfl, trivial⟩ (ih _ _ h _ _ (by omega) (by omega) _ hL)
        · replace h := iN c103 h
          refine vi_iconst (v := 0) C dL_law_551 rfl (by decide) ?_
          cases h
      replace h := iN c104 h
      by_cases c116 : (v1 &&& (31 : Int32)) = 10
      · replace h := iT c116 h
        refine vi_tswI (v := 10) (t' := 553) C c116 dL_law_79 (by decide) (by decide) rfl (by decide) ?_
        refine vi_aload_n C dL_law_553 rfl rfl ?_
        refine vi_aload_n C dL_law_554 rfl rfl ?_
        refine vi_iload C dL_law_555 rfl rfl ?_
        refine vi_iconst (v := 1) C dL_law_557 rfl (by decide) ?_
        refine vi_iadd C dL_law_558 rfl ?_
        refine l_scr (M := M) C dL_law_559 rfl h (fun v105 h => ?_)
        refine vi_aload_n C dL_law_560 rfl rfl ?_
        refine vi_iload C dL_law_561 rfl rfl ?_
        refine vi_iconst (v := 2) C dL_law_563 rfl (by decide) ?_
        refine vi_iadd C dL_law_564 rfl ?_
        refine l_scr (M := M) C dL_law_565 rfl h (fun v106 h => ?_)
        refine vi_aload_n C dL_law_566 rfl rfl ?_
        refine vi_iload C dL_law_567 rfl rfl ?_
        refine vi_iconst (v := 3) C dL_law_569 rfl (by decide) ?_
        refine vi_iadd C dL_law_570 rfl ?_
        refine l_scr (M := M) C dL_law_571 rfl h (fun v107 h => ?_)
        refine l_cx1 C [.int (v105), .int (v106), .int (v107)] [] dL_law_572 rfl ivL_83 imX11_spoilAt rfl hL h (fun _ e => p_X11_spoilAt e hL.2.1) rfl (Nat.le_of_ble_eq_true rfl) ⟨by decide, by decide⟩ ⟨by omega, by omega⟩ (fun S M108 v109 h hL => ?_)
        refine vi_aload_n C dL_law_575 rfl rfl ?_
        refine vi_aload_n C dL_law_576 rfl rfl ?_
        refine vi_iload C dL_law_577 rfl rfl ?_
        refine vi_iconst (v := 1) C dL_law_579 rfl (by decide) ?_
        refine vi_iadd C dL_law_580 rfl ?_
        refine l_scr (M := M108) C dL_law_581 rfl h (fun v110 h => ?_)
        refine vi_aload_n C dL_law_582 rfl rfl ?_
        refine vi_iload C dL_law_583 rfl rfl ?_
        refine vi_iconst (v := 2) C dL_law_585 rfl (by decide) ?_
        refine vi_iadd C dL_law_586 rfl ?_
        refine l_scr (M := M108) C dL_law_587 rfl h (fun v111 h => ?_)
        refine vi_aload_n C dL_law_588 rfl rfl ?_
        refine vi_iload C dL_law_589 rfl rfl ?_
        refine vi_iconst (v := 3) C dL_law_591 rfl (by decide) ?_
        refine vi_iadd C dL_law_592 rfl ?_
        refine l_scr (M := M108) C dL_law_593 rfl h (fun v112 h => ?_)
        refine l_cm1 C [.int (v110), .int (v111), .int (v112)] [.int (v109)] dL_law_594 rfl ivL_86 imX12_spoilAt rfl hL h (fun _ e => p_X12_spoilAt e hL.2.2.1) rfl (Nat.le_of_ble_eq_true rfl) ⟨by decide, by decide⟩ ⟨by omega, by omega⟩ (fun S M113 v114 h hL => ?_)
        refine vi_icmp_eq (t' := 1147) C dL_law_597 rfl (by decide) (fun c115 => ?_) (fun c115 => ?_)
        · replace h := iT c115 h
          refine vi_iincv (v := 4) C dL_law_1147 rfl rfl (by decide) (by decide) ?_
          refine vi_goto (t' := 63) C dL_law_1150 (by decide) ?_
          exact vi_cut [(0, .ref E.2.2.2.2.1), (1, .ref x), (2, .ref m), (3, .ref o), (4, .int ((i + (4))))] ⟨rfl, rfl, rfl, rfl, rfl, trivial⟩ (ih _ _ h _ _ (by omega) (by omega) _ hL)
        · replace h := iN c115 h
          refine vi_iconst (v := 0) C dL_law_600 rfl (by decide) ?_
          cases h
      replace h := iN c116 h
      by_cases c132 : (v1 &&& (31 : Int32)) = 11
      · replace h := iT c132 h
        refine vi_tswI (v := 11) (t' := 602) C c132 dL_law_79 (by decide) (by decide) rfl (by decide) ?_
        refine vi_aload_n C dL_law_602 rfl rfl ?_
        refine vi_aload_n C dL_law_603 rfl rfl ?_
        refine vi_iload C dL_law_604 rfl rfl ?_
        refine vi_iconst (v := 1) C dL_law_606 rfl (by decide) ?_
        refine vi_iadd C dL_law_607 rfl ?_
        refine l_scr (M := M) C dL_law_608 rfl h (fun v117 h => ?_)
        refine vi_aload_n C dL_law_609 rfl rfl ?_
        refine vi_iload C dL_law_610 rfl rfl ?_
        refine vi_iconst (v := 2) C dL_law_612 rfl (by decide) ?_
        refine vi_iadd C dL_law_613 rfl ?_
        refine l_scr (M := M) C dL_law_614 rfl h (fun v118 h => ?_)
        refine r_jn h (fun k => ∀ (s2_623 : Int32), k s2_623 = some R → ∀ S, LW S z x N d0 m b o M → vi_W E X 7 Z 623 [(0, .ref E.2.2.2.2.1), (1, .ref x), (2, .ref m), (3, .ref o), (4, .int (i))] [.int (s2_623), .int (v117), .ref x] S (cz M.1) (q + 0) (n + 0)) ?_ ?_
        · intro s2_623 h S hL
          refine l_cx1 C [.int (v117), .int (s2_623)] [] dL_law_623 rfl ivL_87 imX11_turnTo rfl hL h (fun _ e => p_X11_turnTo e hL.2.1) rfl (Nat.le_of_ble_eq_true rfl) ⟨by decide, by decide⟩ ⟨by omega, by omega⟩ (fun S M121 v122 h hL => ?_)
          refine vi_aload_n C dL_law_626 rfl rfl ?_
          refine vi_aload_n C dL_law_627 rfl rfl ?_
          refine vi_iload C dL_law_628 rfl rfl ?_
          refine vi_iconst (v := 1) C dL_law_630 rfl (by decide) ?_
          refine vi_iadd C dL_law_631 rfl ?_
          refine l_scr (M := M121) C dL_law_632 rfl h (fun v123 h => ?_)
          refine vi_aload_n C dL_law_633 rfl rfl ?_
          refine vi_iload C dL_law_634 rfl rfl ?_
          refine vi_iconst (v := 2) C dL_law_636 rfl (by decide) ?_
          refine vi_iadd C dL_law_637 rfl ?_
          refine l_scr (M := M121) C dL_law_638 rfl h (fun v124 h => ?_)
          refine vi_if_eq (t' := 646) C dL_law_639 rfl (by decide) (fun c131 => ?_) (fun c131 => ?_)
          · replace h := iT c131 h
            refine vi_iconst (v := 0) C dL_law_646 rfl (by decide) ?_
            refine l_cm1 C [.int (v123), .int ((0 : Int32))] [.int (v122)] dL_law_647 rfl ivL_91 imX12_turnTo rfl hL h (fun _ e => p_X12_turnTo e hL.2.2.1) rfl (Nat.le_of_ble_eq_true rfl) ⟨by decide, by decide⟩ ⟨by omega, by omega⟩ (fun S M125 v126 h hL => ?_)
            refine vi_icmp_eq (t' := 1147) C dL_law_650 rfl (by decide) (fun c127 => ?_) (fun c127 => ?_)
            · replace h := iT c127 h
              refine vi_iincv (v := 4) C dL_law_1147 rfl rfl (by decide) (by decide) ?_
              refine vi_goto (t' := 63) C dL_law_1150 (by decide) ?_
              exact vi_cut [(0, .ref E.2.2.2.2.1), (1, .ref x), (2, .ref m), (3, .ref o), (4, .int ((i + (4))))] ⟨rfl, rfl, rfl, rfl, rfl, trivial⟩ (ih _ _ h _ _ (by omega) (by omega) _ hL)
            · replace h := iN c127 h
              refine vi_iconst (v := 0) C dL_law_653 rfl (by decide) ?_
              cases h
          · replace h := iN c131 h
            refine vi_iconst (v := 1) C dL_law_642 rfl (by decide) ?_
            refine vi_goto (t' := 647) C dL_law_643 (by decide) ?_
            refine l_cm1 C [.int (v123), .int ((1 : Int32))] [.int (v122)] dL_law_647 rfl ivL_91 imX12_turnTo rfl hL h (fun _ e => p_X12_turnTo e hL.2.2.1) rfl (Nat.le_of_ble_eq_true rfl) ⟨by decide, by decide⟩ ⟨by omega, by omega⟩ (fun S M128 v129 h hL => ?_)
            refine vi_icmp_eq (t' := 1147) C dL_law_650 rfl (by decide) (fun c130 => ?_) (fun c130 => ?_)
            · replace h := iT c130 h
              refine vi_iincv (v := 4) C dL_law_1147 rfl rfl (by decide) (by decide) ?_
              refine vi_goto (t' := 63) C dL_law_1150 (by decide) ?_
              exact vi_cut [(0, .ref E.2.2.2.2.1), (1, .ref x), (2, .ref m), (3, .ref o), (4, .int ((i + (4))))] ⟨rfl, rfl, rfl, rfl, rfl, trivial⟩ (ih _ _ h _ _ (by omega) (by omega) _ hL)
            · replace h := iN c130 h
              refine vi_iconst (v := 0) C dL_law_653 rfl (by decide) ?_
              cases h
        · intro k623_119 h623_119 h
          refine vi_if_eq (t' := 622) C dL_law_615 rfl (by decide) (fun c120 => ?_) (fun c120 => ?_)
          · replace h := iT c120 h
            refine vi_iconst (v := 0) C dL_law_622 rfl (by decide) ?_
            exact (vi_cut [(0, .ref E.2.2.2.2.1), (1, .ref x), (2, .ref m), (3, .ref o), (4, .int (i))] ⟨rfl, rfl, rfl, rfl, rfl, trivial⟩ (h623_119 _ h _ hL))
          · replace h := iN c120 h
            refine vi_iconst (v := 1) C dL_law_618 rfl (by decide) ?_
            refine vi_goto (t' := 623) C dL_law_619 (by decide) ?_
            exact (vi_cut [(0, .ref E.2.2.2.2.1), (1, .ref x), (2, .ref m), (3, .ref o), (4, .int (i))] ⟨rfl, rfl, rfl, rfl, rfl, trivial⟩ (h623_119 _ h _ hL))
      replace h := iN c132 h
      by_cases c142 : (v1 &&& (31 : Int32)) = 12
      · replace h := iT c142 h
        refine vi_tswI (v := 12) (t' := 655) C c142 dL_law_79 (by decide) (by decide) rfl (by decide) ?_
        refine vi_aload_n C dL_law_655 rfl rfl ?_
        refine vi_aload_n C dL_law_656 rfl rfl ?_
        refine vi_iload C dL_law_657 rfl rfl ?_
        refine vi_iconst (v := 1) C dL_law_659 rfl (by decide) ?_
        refine vi_iadd C dL_law_660 rfl ?_
        refine l_scr (M := M) C dL_law_661 rfl h (fun v133 h => ?_)
        refine vi_aload_n C dL_law_662 rfl rfl ?_
        refine vi_iload C dL_law_663 rfl rfl ?_
        refine vi_iconst (v := 2) C dL_law_665 rfl (by decide) ?_
        refine vi_iadd C dL_law_666 rfl ?_
        refine l_scr (M := M) C dL_law_667 rfl h (fun v134 h => ?_)
        refine l_cx1 C [.int (v133), .int (v134)] [] dL_law_668 rfl ivL_92 imX11_crashAfter rfl hL h (fun _ e => p_X11_crashAfter e hL.2.1) rfl (Nat.le_of_ble_eq_true rfl) ⟨by decide, by decide⟩ ⟨by omega, by omega⟩ (fun S M135 v136 h hL => ?_)
        refine vi_aload_n C dL_law_671 rfl rfl ?_
        refine vi_aload_n C dL_law_672 rfl rfl ?_
        refine vi_iload C dL_law_673 rfl rfl ?_
        refine vi_iconst (v := 1) C dL_law_675 rfl (by decide) ?_
        refine vi_iadd C dL_law_676 rfl ?_
        refine l_scr (M := M135) C dL_law_677 rfl h (fun v137 h => ?_)
        refine vi_aload_n C dL_law_678 rfl rfl ?_
        refine vi_iload C dL_law_679 rfl rfl ?_
        refine vi_iconst (v := 2) C dL_law_681 rfl (by decide) ?_
        refine vi_iadd C dL_law_682 rfl ?_
        refine l_scr (M := M135) C dL_law_683 rfl h (fun v138 h => ?_)
        refine l_cm1 C [.int (v137), .int (v138)] [.int (v136)] dL_law_684 rfl ivL_96 imX12_crashAfter rfl hL h (fun _ e => p_X12_crashAfter e hL.2.2.1) rfl (Nat.le_of_ble_eq_true rfl) ⟨by decide, by decide⟩ ⟨by omega, by omega⟩ (fun S M139 v140 h hL => ?_)
        refine vi_icmp_eq (t' := 1147) C dL_law_687 rfl (by decide) (fun c141 => ?_) (fun c141 => ?_)
        · replace h := iT c141 h
          refine vi_iincv (v := 4) C dL_law_1147 rfl rfl (by decide) (by decide) ?_
          refine vi_goto (t' := 63) C dL_law_1150 (by decide) ?_
          exact vi_cut [(0, .ref E.2.2.2.2.1), (1, .ref x), (2, .ref m), (3, .ref o), (4, .int ((i + (4))))] ⟨rfl, rfl, rfl, rfl, rfl, trivial⟩ (ih _ _ h _ _ (by omega) (by omega) _ hL)
        · replace h := iN c141 h
          refine vi_iconst (v := 0) C dL_law_690 rfl (by decide) ?_
          cases h
      replace h := iN c142 h
      by_cases c152 : (v1 &&& (31 : Int32)) = 13
      · replace h := iT c152 h
        refine vi_tswI (v := 13) (t' := 692) C c152 dL_law_79 (by decide) (by decide) rfl (by decide) ?_
        refine vi_aload_n C dL_law_692 rfl rfl ?_
        refine vi_aload_n C dL_law_693 rfl rfl ?_
        refine vi_iload C dL_law_694 rfl rfl ?_
        refine vi_iconst (v := 1) C dL_law_696 rfl (by decide) ?_
        refine vi_iadd C dL_law_697 rfl ?_
        refine l_scr (M := M) C dL_law_698 rfl h (fun v143 h => ?_)
        refine vi_aload_n C dL_law_699 rfl rfl ?_
        refine vi_iload C dL_law_700 rfl rfl ?_
        refine vi_iconst (v := 2) C dL_law_702 rfl (by decide) ?_
        refine vi_iadd C dL_law_703 rfl ?_
        refine l_scr (M := M) C dL_law_704 rfl h (fun v144 h => ?_)
        refine l_cx1 C [.int (v143), .int (v144)] [] dL_law_705 rfl ivL_97 imX11_replicaOf rfl hL h (fun _ e => p_X11_replicaOf e hL.2.1) rfl (Nat.le_of_ble_eq_true rfl) ⟨by decide, by decide⟩ ⟨by omega, by omega⟩ (fun S M145 v146 h hL => ?_)
        refine vi_aload_n C dL_law_708 rfl rfl ?_
        refine vi_aload_n C dL_law_709 rfl rfl ?_
        refine vi_iload C dL_law_710 rfl rfl ?_
        refine vi_iconst (v := 1) C dL_law_712 rfl (by decide) ?_
        refine vi_iadd C dL_law_713 rfl ?_
        refine l_scr (M := M145) C dL_law_714 rfl h (fun v147 h => ?_)
        refine vi_aload_n C dL_law_715 rfl rfl ?_
        refine vi_iload C dL_law_716 rfl rfl ?_
        refine vi_iconst (v := 2) C dL_law_718 rfl (by decide) ?_
        refine vi_iadd C dL_law_719 rfl ?_
        refine l_scr (M := M145) C dL_law_720 rfl h (fun v148 h => ?_)
        refine l_cm1 C [.int (v147), .int (v148)] [.int (v146)] dL_law_721 rfl ivL_100 imX12_replicaOf rfl hL h (fun _ e => p_X12_replicaOf e hL.2.2.1) rfl (Nat.le_of_ble_eq_true rfl) ⟨by decide, by decide⟩ ⟨by omega, by omega⟩ (fun S M149 v150 h hL => ?_)
        refine vi_icmp_eq (t' := 1147) C dL_law_724 rfl (by decide) (fun c151 => ?_) (fun c151 => ?_)
        · replace h := iT c151 h
          refine vi_iincv (v := 4) C dL_law_1147 rfl rfl (by decide) (by decide) ?_
          refine vi_goto (t' := 63) C dL_law_1150 (by decide) ?_
          exact vi_cut [(0, .ref E.2.2.2.2.1), (1, .ref x), (2, .ref m), (3, .ref o), (4, .int ((i + (4))))] ⟨rfl, rfl, rfl, rfl, rfl, trivial⟩ (ih _ _ h _ _ (by omega) (by omega) _ hL)
        · replace h := iN c151 h
          refine vi_iconst (v := 0) C dL_law_727 rfl (by decide) ?_
          cases h
      replace h := iN c152 h
      by_cases c162 : (v1 &&& (31 : Int32)) = 14
      · replace h := iT c162 h
        refine vi_tswI (v := 14) (t' := 729) C c162 dL_law_79 (by decide) (by decide) rfl (by decide) ?_
        refine vi_aload_n C dL_law_729 rfl rfl ?_
        refine vi_aload_n C dL_law_730 rfl rfl ?_
        refine vi_iload C dL_law_731 rfl rfl ?_
        refine vi_iconst (v := 1) C dL_law_733 rfl (by decide) ?_
        refine vi_iadd C dL_law_734 rfl ?_
        refine l_scr (M := M) C dL_law_735 rfl h (fun v153 h => ?_)
        refine vi_aload_n C dL_law_736 rfl rfl ?_
        refine vi_iload C dL_law_737 rfl rfl ?_
        refine vi_iconst (v := 2) C dL_law_739 rfl (by decide) ?_
        refine vi_iadd C dL_law_740 rfl ?_
        refine l_scr (M := M) C dL_law_741 rfl h (fun v154 h => ?_)
        refine l_cx1 C [.int (v153), .int (v154)] [] dL_law_742 rfl ivL_101 imX11_journalOf rfl hL h (fun _ e => p_X11_journalOf e hL.2.1) rfl (Nat.le_of_ble_eq_true rfl) ⟨by decide, by decide⟩ ⟨by omega, by omega⟩ (fun S M155 v156 h hL => ?_)
        refine vi_aload_n C dL_law_745 rfl rfl ?_
        refine vi_aload_n C dL_law_746 rfl rfl ?_
        refine vi_iload C dL_law_747 rfl rfl ?_
        refine vi_iconst (v := 1) C dL_law_749 rfl (by decide) ?_
        refine vi_iadd C dL_law_750 rfl ?_
        refine l_scr (M := M155) C dL_law_751 rfl h (fun v157 h => ?_)
        refine vi_aload_n C dL_law_752 rfl rfl ?_
        refine vi_iload C dL_law_753 rfl rfl ?_
        refine vi_iconst (v := 2) C dL_law_755 rfl (by decide) ?_
        refine vi_iadd C dL_law_756 rfl ?_
        refine l_scr (M := M155) C dL_law_757 rfl h (fun v158 h => ?_)
        refine l_cm1 C [.int (v157), .int (v158)] [.int (v156)] dL_law_758 rfl ivL_104 imX12_journalOf rfl hL h (fun _ e => p_X12_journalOf e hL.2.2.1) rfl (Nat.le_of_ble_eq_true rfl) ⟨by decide, by decide⟩ ⟨by omega, by omega⟩ (fun S M159 v160 h hL => ?_)
        refine vi_icmp_eq (t' := 1147) C dL_law_761 rfl (by decide) (fun c161 => ?_) (fun c161 => ?_)
        · replace h := iT c161 h
          refine vi_iincv (v := 4) C dL_law_1147 rfl rfl (by decide) (by decide) ?_
          refine vi_goto (t' := 63) C dL_law_1150 (by decide) ?_
          exact vi_cut [(0, .ref E.2.2.2.2.1), (1, .ref x), (2, .ref m), (3, .ref o), (4, .int ((i + (4))))] ⟨rfl, rfl, rfl, rfl, rfl, trivial⟩ (ih _ _ h _ _ (by omega) (by omega) _ hL)
        · replace h := iN c161 h
          refine vi_iconst (v := 0) C dL_law_764 rfl (by decide) ?_
          cases h
      replace h := iN c162 h
      by_cases c174 : (v1 &&& (31 : Int32)) = 15
      · replace h := iT c174 h
        refine vi_tswI (v := 15) (t' := 766) C c174 dL_law_79 (by decide) (by decide) rfl (by decide) ?_
        refine vi_aload_n C dL_law_766 rfl rfl ?_
        refine vi_aload_n C dL_law_767 rfl rfl ?_
        refine vi_iload C dL_law_768 rfl rfl ?_
        refine vi_iconst (v := 1) C dL_law_770 rfl (by decide) ?_
        refine vi_iadd C dL_law_771 rfl ?_
        refine l_scr (M := M) C dL_law_772 rfl h (fun v163 h => ?_)
        refine vi_aload_n C dL_law_773 rfl rfl ?_
        refine vi_iload C dL_law_774 rfl rfl ?_
        refine vi_iconst (v := 2) C dL_law_776 rfl (by decide) ?_
        refine vi_iadd C dL_law_777 rfl ?_
        refine l_scr (M := M) C dL_law_778 rfl h (fun v164 h => ?_)
        refine vi_aload_n C dL_law_779 rfl rfl ?_
        refine vi_iload C dL_law_780 rfl rfl ?_
        refine vi_iconst (v := 3) C dL_law_782 rfl (by decide) ?_
        refine vi_iadd C dL_law_783 rfl ?_
        refine l_scr (M := M) C dL_law_784 rfl h (fun v165 h => ?_)
        refine l_cx2 C [.int (v163), .int (v164), .int (v165)] [] dL_law_785 rfl ivL_105 imX11_blockOf rfl hL h (fun _ e => p_X11_blockOf e hL.2.1) rfl (Nat.le_of_ble_eq_true rfl) ⟨by decide, by decide⟩ ⟨by omega, by omega⟩ (fun S M166 v167 h hL => ?_)
        refine vi_aload_n C dL_law_788 rfl rfl ?_
        refine vi_aload_n C dL_law_789 rfl rfl ?_
        refine vi_iload C dL_law_790 rfl rfl ?_
        refine vi_iconst (v := 1) C dL_law_792 rfl (by decide) ?_
        refine vi_iadd C dL_law_793 rfl ?_
        refine l_scr (M := M166) C dL_law_794 rfl h (fun v168 h => ?_)
        refine vi_aload_n C dL_law_795 rfl rfl ?_
        refine vi_iload C dL_law_796 rfl rfl ?_
        refine vi_iconst (v := 2) C dL_law_798 rfl (by decide) ?_
        refine vi_iadd C dL_law_799 rfl ?_
        refine l_scr (M := M166) C dL_law_800 rfl h (fun v169 h => ?_)
        refine vi_aload_n C dL_law_801 rfl rfl ?_
        refine vi_iload C dL_law_802 rfl rfl ?_
        refine vi_iconst (v := 3) C dL_law_804 rfl (by decide) ?_
        refine vi_iadd C dL_law_805 rfl ?_
        refine l_scr (M := M166) C dL_law_806 rfl h (fun v170 h => ?_)
        refine l_cm2 C [.int (v168), .int (v169), .int (v170)] [.long (v167)] dL_law_807 rfl ivL_109 imX12_blockOf rfl hL h (fun _ e => p_X12_blockOf e hL.2.2.1) rfl (Nat.le_of_ble_eq_true rfl) ⟨by decide, by decide⟩ ⟨by omega, by omega⟩ (fun S M171 v172 h hL => ?_)
        refine vi_lcmp C dL_law_810 rfl ?_
        refine vi_if_eq (t' := 1147) C dL_law_811 rfl (by decide) (fun c173 => ?_) (fun c173 => ?_)
        · replace h := iT c173 h
          refine vi_iincv (v := 4) C dL_law_1147 rfl rfl (by decide) (by decide) ?_
          refine vi_goto (t' := 63) C dL_law_1150 (by decide) ?_
          exact vi_cut [(0, .ref E.2.2.2.2.1), (1, .ref x), (2, .ref m), (3, .ref o), (4, .int ((i + (4))))] ⟨rfl, rfl, rfl, rfl, rfl, trivial⟩ (ih _ _ h _ _ (by omega) (by omega) _ hL)
        · replace h := iN c173 h
          refine vi_iconst (v := 0) C dL_law_814 rfl (by decide) ?_
          cases h
      replace h := iN c174 h
      by_cases c184 : (v1 &&& (31 : Int32)) = 16
      · replace h := iT c184 h
        refine vi_tswI (v := 16) (t' := 816) C c184 dL_law_79 (by decide) (by decide) rfl (by decide) ?_
        refine vi_aload_n C dL_law_816 rfl rfl ?_
        refine vi_aload_n C dL_law_817 rfl rfl ?_
        refine vi_iload C dL_law_818 rfl rfl ?_
        refine vi_iconst (v := 1) C dL_law_820 rfl (by decide) ?_
        refine vi_iadd C dL_law_821 rfl ?_
        refine l_scr (M := M) C dL_law_822 rfl h (fun v175 h => ?_)
        refine vi_aload_n C dL_law_823 rfl rfl ?_
        refine vi_iload C dL_law_824 rfl rfl ?_
        refine vi_iconst (v := 2) C dL_law_826 rfl (by decide) ?_
        refine vi_iadd C dL_law_827 rfl ?_
        refine l_scr (M := M) C dL_law_828 rfl h (fun v176 h => ?_)
        refine l_cx2 C [.int (v175), .int (v176)] [] dL_law_829 rfl ivL_110 imX11_frameOf rfl hL h (fun _ e => p_X11_frameOf e hL.2.1) rfl (Nat.le_of_ble_eq_true rfl) ⟨by decide, by decide⟩ ⟨by omega, by omega⟩ (fun S M177 v178 h hL => ?_)
        refine vi_aload_n C dL_law_832 rfl rfl ?_
        refine vi_aload_n C dL_law_833 rfl rfl ?_
        refine vi_iload C dL_law_834 rfl rfl ?_
        refine vi_iconst (v := 1) C dL_law_836 rfl (by decide) ?_
        refine vi_iadd C dL_law_837 rfl ?_
        refine l_scr (M := M177) C dL_law_838 rfl h (fun v179 h => ?_)
        refine vi_aload_n C dL_law_839 rfl rfl ?_
        refine vi_iload C dL_law_840 rfl rfl ?_
        refine vi_iconst (v := 2) C dL_law_842 rfl (by decide) ?_
        refine vi_iadd C dL_law_843 rfl ?_
        refine l_scr (M := M177) C dL_law_844 rfl h (fun v180 h => ?_)
        refine l_cm2 C [.int (v179), .int (v180)] [.long (v178)] dL_law_845 rfl ivL_114 imX12_frameOf rfl hL h (fun _ e => p_X12_frameOf e hL.2.2.1) rfl (Nat.le_of_ble_eq_true rfl) ⟨by decide, by decide⟩ ⟨by omega, by omega⟩ (fun S M181 v182 h hL => ?_)
        refine vi_lcmp C dL_law_848 rfl ?_
        refine vi_if_eq (t' := 1147) C dL_law_849 rfl (by decide) (fun c183 => ?_) (fun c183 => ?_)
        · replace h := iT c183 h
          refine vi_iincv (v := 4) C dL_law_1147 rfl rfl (by decide) (by decide) ?_
          refine vi_goto (t' := 63) C dL_law_1150 (by decide) ?_
          exact vi_cut [(0, .ref E.2.2.2.2.1), (1, .ref x), (2, .ref m), (3, .ref o), (4, .int ((i + (4))))] ⟨rfl, rfl, rfl, rfl, rfl, trivial⟩ (ih _ _ h _ _ (by omega) (by omega) _ hL)
        · replace h := iN c183 h
          refine vi_iconst (v := 0) C dL_law_852 rfl (by decide) ?_
          cases h
      replace h := iN c184 h
      by_cases c200 : (v1 &&& (31 : Int32)) = 17
      · replace h := iT c200 h
        refine vi_tswI (v := 17) (t' := 854) C c200 dL_law_79 (by decide) (by decide) rfl (by decide) ?_
        refine vi_aload_n C dL_law_854 rfl rfl ?_
        refine vi_aload_n C dL_law_855 rfl rfl ?_
        refine vi_iload C dL_law_856 rfl rfl ?_
        refine vi_iconst (v := 1) C dL_law_858 rfl (by decide) ?_
        refine vi_iadd C dL_law_859 rfl ?_
        refine l_scr (M := M) C dL_law_860 rfl h (fun v185 h => ?_)
        refine vi_aload_n C dL_law_861 rfl rfl ?_
        refine vi_iload C dL_law_862 rfl rfl ?_
        refine vi_iconst (v := 2) C dL_law_864 rfl (by decide) ?_
        refine vi_iadd C dL_law_865 rfl ?_
        refine l_scr (M := M) C dL_law_866 rfl h (fun v186 h => ?_)
        refine vi_aload_n C dL_law_867 rfl rfl ?_
        refine vi_iload C dL_law_868 rfl rfl ?_
        refine vi_iconst (v := 3) C dL_law_870 rfl (by decide) ?_
        refine vi_iadd C dL_law_871 rfl ?_
        refine l_scr (M := M) C dL_law_872 rfl h (fun v187 h => ?_)
        refine vi_aload_n C dL_law_873 rfl rfl ?_
        refine l_hV C hZ [] dL_law_874 rfl hv_l hL h rfl (Nat.le_of_ble_eq_true rfl) ⟨by decide, by decide⟩ ⟨by omega, by omega⟩ (fun S M188 v189 h hL => ?_)
        refine vi_istore C dL_law_877 rfl (by decide) ?_
        refine vi_aload_n C dL_law_879 rfl rfl ?_
        refine vi_aload_n C dL_law_880 rfl rfl ?_
        refine vi_iload C dL_law_881 rfl rfl ?_
        refine vi_iconst (v := 1) C dL_law_883 rfl (by decide) ?_
        refine vi_iadd C dL_law_884 rfl ?_
        refine l_scr (M := M188) C dL_law_885 rfl h (fun v190 h => ?_)
        refine vi_aload_n C dL_law_886 rfl rfl ?_
        refine vi_iload C dL_law_887 rfl rfl ?_
        refine vi_iconst (v := 2) C dL_law_889 rfl (by decide) ?_
        refine vi_iadd C dL_law_890 rfl ?_
        refine l_scr (M := M188) C dL_law_891 rfl h (fun v191 h => ?_)
        refine vi_aload_n C dL_law_892 rfl rfl ?_
        refine vi_iload C dL_law_893 rfl rfl ?_
        refine vi_iconst (v := 3) C dL_law_895 rfl (by decide) ?_
        refine vi_iadd C dL_law_896 rfl ?_
        refine l_scr (M := M188) C dL_law_897 rfl h (fun v192 h => ?_)
        refine l_cm1 C [.int (v190), .int (v191), .int (v192)] [] dL_law_898 rfl ivL_118 imX12_valueAt rfl hL h (fun _ e => p_X12_valueAt e hL.2.2.1) rfl (Nat.le_of_ble_eq_true rfl) ⟨by decide, by decide⟩ ⟨by omega, by omega⟩ (fun S M193 v194 h hL => ?_)
        refine vi_istore C dL_law_901 rfl (by decide) ?_
        refine vi_aload_n C dL_law_903 rfl rfl ?_
        refine l_cm1 C [] [] dL_law_904 rfl ivL_44 imX12_thrown rfl hL h (fun _ e => p_X12_thrown e hL.2.2.1) rfl (Nat.le_of_ble_eq_true rfl) ⟨by decide, by decide⟩ ⟨by omega, by omega⟩ (fun S M195 v196 h hL => ?_)
        refine vi_iload C dL_law_907 rfl rfl ?_
        refine vi_icmp_eq (t' := 914) C dL_law_909 rfl (by decide) (fun c199 => ?_) (fun c199 => ?_)
        · replace h := iT c199 h
          refine vi_iload C dL_law_914 rfl rfl ?_
          refine vi_if_ne (t' := 931) C dL_law_916 rfl (by decide) (fun c198 => ?_) (fun c198 => ?_)
          · replace h := iN c198 h
            refine vi_goto (t' := 1147) C dL_law_931 (by decide) ?_
            refine vi_iincv (v := 4) C dL_law_1147 rfl rfl (by decide) (by decide) ?_
            refine vi_goto (t' := 63) C dL_law_1150 (by decide) ?_
            exact vi_cut [(0, .ref E.2.2.2.2.1), (1, .ref x), (2, .ref m), (3, .ref o), (4, .int ((i + (4))))] ⟨rfl, rfl, rfl, rfl, rfl, trivial⟩ (ih _ _ h _ _ (by omega) (by omega) _ hL)
          · replace h := iT c198 h
            refine vi_aload_n C dL_law_919 rfl rfl ?_
            refine vi_iconst (v := 0) C dL_law_920 rfl (by decide) ?_
            refine l_out C dL_law_921 rfl hL ?_
            refine vi_iload C dL_law_922 rfl rfl ?_
            refine vi_i2l C dL_law_924 rfl ?_
            refine vi_lcmp C dL_law_925 rfl ?_
            refine vi_if_eq (t' := 931) C dL_law_926 rfl (by decide) (fun c197 => ?_) (fun c197 => ?_)
            · replace h := iT c197 h
              refine vi_goto (t' := 1147) C dL_law_931 (by decide) ?_
              refine vi_iincv (v := 4) C dL_law_1147 rfl rfl (by decide) (by decide) ?_
              refine vi_goto (t' := 63) C dL_law_1150 (by decide) ?_
              exact vi_cut [(0, .ref E.2.2.2.2.1), (1, .ref x), (2, .ref m), (3, .ref o), (4, .int ((i + (4))))] ⟨rfl, rfl, rfl, rfl, rfl, trivial⟩ (ih _ _ h _ _ (by omega) (by omega) _ hL)
            · replace h := iN c197 h
              refine vi_iconst (v := 0) C dL_law_929 rfl (by decide) ?_
              cases h
        · replace h := iN c199 h
          refine vi_iconst (v := 0) C dL_law_912 rfl (by decide) ?_
          cases h
      replace h := iN c200 h
      by_cases c212 : (v1 &&& (31 : Int32)) = 18
      · replace h := iT c212 h
        refine vi_tswI (v := 18) (t' := 934) C c212 dL_law_79 (by decide) (by decide) rfl (by decide) ?_
        refine vi_aload_n C dL_law_934 rfl rfl ?_
        refine vi_aload_n C dL_law_935 rfl rfl ?_
        refine vi_iload C dL_law_936 rfl rfl ?_
        refine vi_iconst (v := 1) C dL_law_938 rfl (by decide) ?_
        refine vi_iadd C dL_law_939 rfl ?_
        refine l_scr (M := M) C dL_law_940 rfl h (fun v201 h => ?_)
        refine vi_aload_n C dL_law_941 rfl rfl ?_
        refine vi_iload C dL_law_942 rfl rfl ?_
        refine vi_iconst (v := 2) C dL_law_944 rfl (by decide) ?_
        refine vi_iadd C dL_law_945 rfl ?_
        refine l_scr (M := M) C dL_law_946 rfl h (fun v202 h => ?_)
        refine vi_aload_n C dL_law_947 rfl rfl ?_
        refine vi_iload C dL_law_948 rfl rfl ?_
        refine vi_iconst (v := 3) C dL_law_950 rfl (by decide) ?_
        refine vi_iadd C dL_law_951 rfl ?_
        refine l_scr (M := M) C dL_law_952 rfl h (fun v203 h => ?_)
        refine l_cx1 C [.int (v201), .int (v202), .int (v203)] [] dL_law_953 rfl ivL_119 imX11_slotOf rfl hL h (fun _ e => p_X11_slotOf e hL.2.1) rfl (Nat.le_of_ble_eq_true rfl) ⟨by decide, by decide⟩ ⟨by omega, by omega⟩ (fun S M204 v205 h hL => ?_)
        refine vi_aload_n C dL_law_956 rfl rfl ?_
        refine vi_aload_n C dL_law_957 rfl rfl ?_
        refine vi_iload C dL_law_958 rfl rfl ?_
        refine vi_iconst (v := 1) C dL_law_960 rfl (by decide) ?_
        refine vi_iadd C dL_law_961 rfl ?_
        refine l_scr (M := M204) C dL_law_962 rfl h (fun v206 h => ?_)
        refine vi_aload_n C dL_law_963 rfl rfl ?_
        refine vi_iload C dL_law_964 rfl rfl ?_
        refine vi_iconst (v := 2) C dL_law_966 rfl (by decide) ?_
        refine vi_iadd C dL_law_967 rfl ?_
        refine l_scr (M := M204) C dL_law_968 rfl h (fun v207 h => ?_)
        refine vi_aload_n C dL_law_969 rfl rfl ?_
        refine vi_iload C dL_law_970 rfl rfl ?_
        refine vi_iconst (v := 3) C dL_law_972 rfl (by decide) ?_
        refine vi_iadd C dL_law_973 rfl ?_
        refine l_scr (M := M204) C dL_law_974 rfl h (fun v208 h => ?_)
        refine l_cm1 C [.int (v206), .int (v207), .int (v208)] [.int (v205)] dL_law_975 rfl ivL_122 imX12_slotOf rfl hL h (fun _ e => p_X12_slotOf e hL.2.2.1) rfl (Nat.le_of_ble_eq_true rfl) ⟨by decide, by decide⟩ ⟨by omega, by omega⟩ (fun S M209 v210 h hL => ?_)
        refine vi_icmp_eq (t' := 1147) C dL_law_978 rfl (by decide) (fun c211 => ?_) (fun c211 => ?_)
        · replace h := iT c211 h
          refine vi_iincv (v := 4) C dL_law_1147 rfl rfl (by decide) (by decide) ?_
          refine vi_goto (t' := 63) C dL_law_1150 (by decide) ?_
          exact vi_cut [(0, .ref E.2.2.2.2.1), (1, .ref x), (2, .ref m), (3, .ref o), (4, .int ((i + (4))))] ⟨rfl, rfl, rfl, rfl, rfl, trivial⟩ (ih _ _ h _ _ (by omega) (by omega) _ hL)
        · replace h := iN c211 h
          refine vi_iconst (v := 0) C dL_law_981 rfl (by decide) ?_
          cases h
      replace h := iN c212 h
      by_cases c230 : (v1 &&& (31 : Int32)) = 19
      · replace h := iT c230 h
        refine vi_tswI (v := 19) (t' := 983) C c230 dL_law_79 (by decide) (by decide) rfl (by decide) ?_
        refine vi_aload_n C dL_law_983 rfl rfl ?_
        refine vi_aload_n C dL_law_984 rfl rfl ?_
        refine vi_iload C dL_law_985 rfl rfl ?_
        refine vi_iconst (v := 1) C dL_law_987 rfl (by decide) ?_
        refine vi_iadd C dL_law_988 rfl ?_
        refine l_scr (M := M) C dL_law_989 rfl h (fun v213 h => ?_)
        refine vi_aload_n C dL_law_990 rfl rfl ?_
        refine vi_iload C dL_law_991 rfl rfl ?_
        refine vi_iconst (v := 2) C dL_law_993 rfl (by decide) ?_
        refine vi_iadd C dL_law_994 rfl ?_
        refine l_scr (M := M) C dL_law_995 rfl h (fun v214 h => ?_)
        refine vi_aload_n C dL_law_996 rfl rfl ?_
        refine vi_iload C dL_law_997 rfl rfl ?_
        refine vi_iconst (v := 3) C dL_law_999 rfl (by decide) ?_
        refine vi_iadd C dL_law_1000 rfl ?_
        refine l_scr (M := M) C dL_law_1001 rfl h (fun v215 h => ?_)
        refine r_jn h (fun k => ∀ (s3_1010 : Int32), k s3_1010 = some R → ∀ S, LW S z x N d0 m b o M → vi_W E X 7 Z 1010 [(0, .ref E.2.2.2.2.1), (1, .ref x), (2, .ref m), (3, .ref o), (4, .int (i))] [.int (s3_1010), .int (v214), .int (v213), .ref x] S (cz M.1) (q + 0) (n + 0)) ?_ ?_
        · intro s3_1010 h S hL
          refine l_cx1 C [.int (v213), .int (v214), .int (s3_1010)] [] dL_law_1010 rfl ivL_123 imX11_knownOf rfl hL h (fun _ e => p_X11_knownOf e hL.2.1) rfl (Nat.le_of_ble_eq_true rfl) ⟨by decide, by decide⟩ ⟨by omega, by omega⟩ (fun S M218 v219 h hL => ?_)
          refine vi_aload_n C dL_law_1013 rfl rfl ?_
          refine vi_aload_n C dL_law_1014 rfl rfl ?_
          refine vi_iload C dL_law_1015 rfl rfl ?_
          refine vi_iconst (v := 1) C dL_law_1017 rfl (by decide) ?_
          refine vi_iadd C dL_law_1018 rfl ?_
          refine l_scr (M := M218) C dL_law_1019 rfl h (fun v220 h => ?_)
          refine vi_aload_n C dL_law_1020 rfl rfl ?_
          refine vi_iload C dL_law_1021 rfl rfl ?_
          refine vi_iconst (v := 2) C dL_law_1023 rfl (by decide) ?_
          refine vi_iadd C dL_law_1024 rfl ?_
          refine l_scr (M := M218) C dL_law_1025 rfl h (fun v221 h => ?_)
          refine vi_aload_n C dL_law_1026 rfl rfl ?_
          refine vi_iload C dL_law_1027 rfl rfl ?_
          refine vi_iconst (v := 3) C dL_law_1029 rfl (by decide) ?_
          refine vi_iadd C dL_law_1030 rfl ?_
          refine l_scr (M := M218) C dL_law_1031 rfl h (fun v222 h => ?_)
          refine vi_if_eq (t' := 1039) C dL_law_1032 rfl (by decide) (fun c229 => ?_) (fun c229 => ?_)
          · replace h := iT c229 h
            refine vi_iconst (v := 0) C dL_law_1039 rfl (by decide) ?_
            refine l_cm1 C [.int (v220), .int (v221), .int ((0 : Int32))] [.int (v219)] dL_law_1040 rfl ivL_127 imX12_knownOf rfl hL h (fun _ e => p_X12_knownOf e hL.2.2.1) rfl (Nat.le_of_ble_eq_true rfl) ⟨by decide, by decide⟩ ⟨by omega, by omega⟩ (fun S M223 v224 h hL => ?_)
            refine vi_icmp_eq (t' := 1147) C dL_law_1043 rfl (by decide) (fun c225 => ?_) (fun c225 => ?_)
            · replace h := iT c225 h
              refine vi_iincv (v := 4) C dL_law_1147 rfl rfl (by decide) (by decide) ?_
              refine vi_goto (t' := 63) C dL_law_1150 (by decide) ?_
              exact vi_cut [(0, .ref E.2.2.2.2.1), (1, .ref x), (2, .ref m), (3, .ref o), (4, .int ((i + (4))))] ⟨rfl, rfl, rfl, rfl, rfl, trivial⟩ (ih _ _ h _ _ (by omega) (by omega) _ hL)
            · replace h := iN c225 h
              refine vi_iconst (v := 0) C dL_law_1046 rfl (by decide) ?_
              cases h
          · replace h := iN c229 h
            refine vi_iconst (v := 1) C dL_law_1035 rfl (by decide) ?_
            refine vi_goto (t' := 1040) C dL_law_1036 (by decide) ?_
            refine l_cm1 C [.int (v220), .int (v221), .int ((1 : Int32))] [.int (v219)] dL_law_1040 rfl ivL_127 imX12_knownOf rfl hL h (fun _ e => p_X12_knownOf e hL.2.2.1) rfl (Nat.le_of_ble_eq_true rfl) ⟨by decide, by decide⟩ ⟨by omega, by omega⟩ (fun S M226 v227 h hL => ?_)
            refine vi_icmp_eq (t' := 1147) C dL_law_1043 rfl (by decide) (fun c228 => ?_) (fun c228 => ?_)
            · replace h := iT c228 h
              refine vi_iincv (v := 4) C dL_law_1147 rfl rfl (by decide) (by decide) ?_
              refine vi_goto (t' := 63) C dL_law_1150 (by decide) ?_
              exact vi_cut [(0, .ref E.2.2.2.2.1), (1, .ref x), (2, .ref m), (3, .ref o), (4, .int ((i + (4))))] ⟨rfl, rfl, rfl, rfl, rfl, trivial⟩ (ih _ _ h _ _ (by omega) (by omega) _ hL)
            · replace h := iN c228 h
              refine vi_iconst (v := 0) C dL_law_1046 rfl (by decide) ?_
              cases h
        · intro k1010_216 h1010_216 h
          refine vi_if_eq (t' := 1009) C dL_law_1002 rfl (by decide) (fun c217 => ?_) (fun c217 => ?_)
          · replace h := iT c217 h
            refine vi_iconst (v := 0) C dL_law_1009 rfl (by decide) ?_
            exact (vi_cut [(0, .ref E.2.2.2.2.1), (1, .ref x), (2, .ref m), (3, .ref o), (4, .int (i))] ⟨rfl, rfl, rfl, rfl, rfl, trivial⟩ (h1010_216 _ h _ hL))
          · replace h := iN c217 h
            refine vi_iconst (v := 1) C dL_law_1005 rfl (by decide) ?_
            refine vi_goto (t' := 1010) C dL_law_1006 (by decide) ?_
            exact (vi_cut [(0, .ref E.2.2.2.2.1), (1, .ref x), (2, .ref m), (3, .ref o), (4, .int (i))] ⟨rfl, rfl, rfl, rfl, rfl, trivial⟩ (h1010_216 _ h _ hL))
      replace h := iN c230 h
      by_cases c240 : (v1 &&& (31 : Int32)) = 20
      · replace h := iT c240 h
        refine vi_tswI (v := 20) (t' := 1048) C c240 dL_law_79 (by decide) (by decide) rfl (by decide) ?_
        refine vi_aload_n C dL_law_1048 rfl rfl ?_
        refine vi_aload_n C dL_law_1049 rfl rfl ?_
        refine vi_iload C dL_law_1050 rfl rfl ?_
        refine vi_iconst (v := 1) C dL_law_1052 rfl (by decide) ?_
        refine vi_iadd C dL_law_1053 rfl ?_
        refine l_scr (M := M) C dL_law_1054 rfl h (fun v231 h => ?_)
        refine vi_aload_n C dL_law_1055 rfl rfl ?_
        refine vi_iload C dL_law_1056 rfl rfl ?_
        refine vi_iconst (v := 2) C dL_law_1058 rfl (by decide) ?_
        refine vi_iadd C dL_law_1059 rfl ?_
        refine l_scr (M := M) C dL_law_1060 rfl h (fun v232 h => ?_)
        refine l_cx1 C [.int (v231), .int (v232)] [] dL_law_1061 rfl ivL_128 imX11_sessionOf rfl hL h (fun _ e => p_X11_sessionOf e hL.2.1) rfl (Nat.le_of_ble_eq_true rfl) ⟨by decide, by decide⟩ ⟨by omega, by omega⟩ (fun S M233 v234 h hL => ?_)
        refine vi_aload_n C dL_law_1064 rfl rfl ?_
        refine vi_aload_n C dL_law_1065 rfl rfl ?_
        refine vi_iload C dL_law_1066 rfl rfl ?_
        refine vi_iconst (v := 1) C dL_law_1068 rfl (by decide) ?_
        refine vi_iadd C dL_law_1069 rfl ?_
        refine l_scr (M := M233) C dL_law_1070 rfl h (fun v235 h => ?_)
        refine vi_aload_n C dL_law_1071 rfl rfl ?_
        refine vi_iload C dL_law_1072 rfl rfl ?_
        refine vi_iconst (v := 2) C dL_law_1074 rfl (by decide) ?_
        refine vi_iadd C dL_law_1075 rfl ?_
        refine l_scr (M := M233) C dL_law_1076 rfl h (fun v236 h => ?_)
        refine l_cm1 C [.int (v235), .int (v236)] [.int (v234)] dL_law_1077 rfl ivL_131 imX12_sessionOf rfl hL h (fun _ e => p_X12_sessionOf e hL.2.2.1) rfl (Nat.le_of_ble_eq_true rfl) ⟨by decide, by decide⟩ ⟨by omega, by omega⟩ (fun S M237 v238 h hL => ?_)
        refine vi_icmp_eq (t' := 1147) C dL_law_1080 rfl (by decide) (fun c239 => ?_) (fun c239 => ?_)
        · replace h := iT c239 h
          refine vi_iincv (v := 4) C dL_law_1147 rfl rfl (by decide) (by decide) ?_
          refine vi_goto (t' := 63) C dL_law_1150 (by decide) ?_
          exact vi_cut [(0, .ref E.2.2.2.2.1), (1, .ref x), (2, .ref m), (3, .ref o), (4, .int ((i + (4))))] ⟨rfl, rfl, rfl, rfl, rfl, trivial⟩ (ih _ _ h _ _ (by omega) (by omega) _ hL)
        · replace h := iN c239 h
          refine vi_iconst (v := 0) C dL_law_1083 rfl (by decide) ?_
          cases h
      replace h := iN c240 h
      by_cases c250 : (v1 &&& (31 : Int32)) = 21
      · replace h := iT c250 h
        refine vi_tswI (v := 21) (t' := 1085) C c250 dL_law_79 (by decide) (by decide) rfl (by decide) ?_
        refine vi_aload_n C dL_law_1085 rfl rfl ?_
        refine vi_aload_n C dL_law_1086 rfl rfl ?_
        refine vi_iload C dL_law_1087 rfl rfl ?_
        refine vi_iconst (v := 1) C dL_law_1089 rfl (by decide) ?_
        refine vi_iadd C dL_law_1090 rfl ?_
        refine l_scr (M := M) C dL_law_1091 rfl h (fun v241 h => ?_)
        refine vi_aload_n C dL_law_1092 rfl rfl ?_
        refine vi_iload C dL_law_1093 rfl rfl ?_
        refine vi_iconst (v := 2) C dL_law_1095 rfl (by decide) ?_
        refine vi_iadd C dL_law_1096 rfl ?_
        refine l_scr (M := M) C dL_law_1097 rfl h (fun v242 h => ?_)
        refine l_cx1 C [.int (v241), .int (v242)] [] dL_law_1098 rfl ivL_132 imX11_messageOf rfl hL h (fun _ e => p_X11_messageOf e hL.2.1) rfl (Nat.le_of_ble_eq_true rfl) ⟨by decide, by decide⟩ ⟨by omega, by omega⟩ (fun S M243 v244 h hL => ?_)
        refine vi_aload_n C dL_law_1101 rfl rfl ?_
        refine vi_aload_n C dL_law_1102 rfl rfl ?_
        refine vi_iload C dL_law_1103 rfl rfl ?_
        refine vi_iconst (v := 1) C dL_law_1105 rfl (by decide) ?_
        refine vi_iadd C dL_law_1106 rfl ?_
        refine l_scr (M := M243) C dL_law_1107 rfl h (fun v245 h => ?_)
        refine vi_aload_n C dL_law_1108 rfl rfl ?_
        refine vi_iload C dL_law_1109 rfl rfl ?_
        refine vi_iconst (v := 2) C dL_law_1111 rfl (by decide) ?_
        refine vi_iadd C dL_law_1112 rfl ?_
        refine l_scr (M := M243) C dL_law_1113 rfl h (fun v246 h => ?_)
        refine l_cm1 C [.int (v245), .int (v246)] [.int (v244)] dL_law_1114 rfl ivL_135 imX12_messageOf rfl hL h (fun _ e => p_X12_messageOf e hL.2.2.1) rfl (Nat.le_of_ble_eq_true rfl) ⟨by decide, by decide⟩ ⟨by omega, by omega⟩ (fun S M247 v248 h hL => ?_)
        refine vi_icmp_eq (t' := 1147) C dL_law_1117 rfl (by decide) (fun c249 => ?_) (fun c249 => ?_)
        · replace h := iT c249 h
          refine vi_iincv (v := 4) C dL_law_1147 rfl rfl (by decide) (by decide) ?_
          refine vi_goto (t' := 63) C dL_law_1150 (by decide) ?_
          exact vi_cut [(0, .ref E.2.2.2.2.1), (1, .ref x), (2, .ref m), (3, .ref o), (4, .int ((i + (4))))] ⟨rfl, rfl, rfl, rfl, rfl, trivial⟩ (ih _ _ h _ _ (by omega) (by omega) _ hL)
        · replace h := iN c249 h
          refine vi_iconst (v := 0) C dL_law_1120 rfl (by decide) ?_
          cases h
      replace h := iN c250 h
      by_cases c258 : (v1 &&& (31 : Int32)) = 22
      · replace h := iT c258 h
        refine vi_tswI (v := 22) (t' := 1122) C c258 dL_law_79 (by decide) (by decide) rfl (by decide) ?_
        refine vi_aload_n C dL_law_1122 rfl rfl ?_
        refine vi_aload_n C dL_law_1123 rfl rfl ?_
        refine vi_iload C dL_law_1124 rfl rfl ?_
        refine vi_iconst (v := 1) C dL_law_1126 rfl (by decide) ?_
        refine vi_iadd C dL_law_1127 rfl ?_
        refine l_scr (M := M) C dL_law_1128 rfl h (fun v251 h => ?_)
        refine l_cx1 C [.int (v251)] [] dL_law_1129 rfl ivL_136 imX11_lookAt rfl hL h (fun _ e => p_X11_lookAt e hL.2.1) rfl (Nat.le_of_ble_eq_true rfl) ⟨by decide, by decide⟩ ⟨by omega, by omega⟩ (fun S M252 v253 h hL => ?_)
        refine vi_aload_n C dL_law_1132 rfl rfl ?_
        refine vi_aload_n C dL_law_1133 rfl rfl ?_
        refine vi_iload C dL_law_1134 rfl rfl ?_
        refine vi_iconst (v := 1) C dL_law_1136 rfl (by decide) ?_
        refine vi_iadd C dL_law_1137 rfl ?_
        refine l_scr (M := M252) C dL_law_1138 rfl h (fun v254 h => ?_)
        refine l_cm1 C [.int (v254)] [.int (v253)] dL_law_1139 rfl ivL_139 imX12_lookAt rfl hL h (fun _ e => p_X12_lookAt e hL.2.2.1) rfl (Nat.le_of_ble_eq_true rfl) ⟨by decide, by decide⟩ ⟨by omega, by omega⟩ (fun S M255 v256 h hL => ?_)
        refine vi_icmp_eq (t' := 1147) C dL_law_1142 rfl (by decide) (fun c257 => ?_) (fun c257 => ?_)
        · replace h := iT c257 h
          refine vi_iincv (v := 4) C dL_law_1147 rfl rfl (by decide) (by decide) ?_
          refine vi_goto (t' := 63) C dL_law_1150 (by decide) ?_
          exact vi_cut [(0, .ref E.2.2.2.2.1), (1, .ref x), (2, .ref m), (3, .ref o), (4, .int ((i + (4))))] ⟨rfl, rfl, rfl, rfl, rfl, trivial⟩ (ih _ _ h _ _ (by omega) (by omega) _ hL)
        · replace h := iN c257 h
          refine vi_iconst (v := 0) C dL_law_1145 rfl (by decide) ?_
          cases h
      replace h := iN c258 h
      have tc20 := tne (w := 0) c20 (by decide)
      have tc34 := tne (w := 1) c34 (by decide)
      have tc46 := tne (w := 2) c46 (by decide)
      have tc54 := tne (w := 3) c54 (by decide)
      have tc62 := tne (w := 4) c62 (by decide)
      have tc72 := tne (w := 5) c72 (by decide)
      have tc80 := tne (w := 6) c80 (by decide)
      have tc88 := tne (w := 7) c88 (by decide)
      have tc96 := tne (w := 8) c96 (by decide)
      have tc104 := tne (w := 9) c104 (by decide)
      have tc116 := tne (w := 10) c116 (by decide)
      have tc132 := tne (w := 11) c132 (by decide)
      have tc142 := tne (w := 12) c142 (by decide)
      have tc152 := tne (w := 13) c152 (by decide)
      have tc162 := tne (w := 14) c162 (by decide)
      have tc174 := tne (w := 15) c174 (by decide)
      have tc184 := tne (w := 16) c184 (by decide)
      have tc200 := tne (w := 17) c200 (by decide)
      have tc212 := tne (w := 18) c212 (by decide)
      have tc230 := tne (w := 19) c230 (by decide)
      have tc240 := tne (w := 20) c240 (by decide)
      have tc250 := tne (w := 21) c250 (by decide)
      have tc258 := tne (w := 22) c258 (by decide)
      refine vi_tswO (t' := 1147) C dL_law_79 (by omega) (by decide) ?_
      refine vi_iincv (v := 4) C dL_law_1147 rfl rfl (by decide) (by decide) ?_
      refine vi_goto (t' := 63) C dL_law_1150 (by decide) ?_
      exact vi_cut [(0, .ref E.2.2.2.2.1), (1, .ref x), (2, .ref m), (3, .ref o), (4, .int ((i + (4))))] ⟨rfl, rfl, rfl, rfl, rfl, trivial⟩ (ih _ _ h _ _ (by omega) (by omega) _ hL)
