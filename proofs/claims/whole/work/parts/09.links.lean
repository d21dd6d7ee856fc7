theorem vi_ix {i : Nat} {w : Cond} (h : lw_tbl[i]? = some w) (g : goodWord w = true) : w ∈ vi_tb := vi_mem (List.mem_of_getElem? h) g
theorem vi_t1 {w : Cond} (h : w ∈ tables_1_1) : w ∈ tables_1 := List.mem_append_left _ h
theorem vi_m1 {w : Cond} (h : w ∈ tables_1_1) : w ∈ lw_tbl := List.mem_append_right _ (vi_t1 h)
theorem vi_t2 {w : Cond} (h : w ∈ tables_1_2) : w ∈ tables_1 := List.mem_append_right _ (List.mem_append_left _ h)
theorem vi_m2 {w : Cond} (h : w ∈ tables_1_2) : w ∈ lw_tbl := List.mem_append_right _ (vi_t2 h)
theorem vi_t3 {w : Cond} (h : w ∈ tables_1_3) : w ∈ tables_1 := List.mem_append_right _ (List.mem_append_right _ (List.mem_append_left _ h))
theorem vi_m3 {w : Cond} (h : w ∈ tables_1_3) : w ∈ lw_tbl := List.mem_append_right _ (vi_t3 h)
theorem vi_t4 {w : Cond} (h : w ∈ tables_1_4) : w ∈ tables_1 := List.mem_append_right _ (List.mem_append_right _ (List.mem_append_right _ (List.mem_append_left _ h)))
theorem vi_m4 {w : Cond} (h : w ∈ tables_1_4) : w ∈ lw_tbl := List.mem_append_right _ (vi_t4 h)
theorem vi_t5 {w : Cond} (h : w ∈ tables_1_5) : w ∈ tables_1 := List.mem_append_right _ (List.mem_append_right _ (List.mem_append_right _ (List.mem_append_right _ (List.mem_append_left _ h))))
theorem vi_m5 {w : Cond} (h : w ∈ tables_1_5) : w ∈ lw_tbl := List.mem_append_right _ (vi_t5 h)
theorem vi_t6 {w : Cond} (h : w ∈ tables_1_6) : w ∈ tables_1 := List.mem_append_right _ (List.mem_append_right _ (List.mem_append_right _ (List.mem_append_right _ (List.mem_append_right _ (List.mem_append_left _ h)))))
theorem vi_m6 {w : Cond} (h : w ∈ tables_1_6) : w ∈ lw_tbl := List.mem_append_right _ (vi_t6 h)
theorem vi_t7 {w : Cond} (h : w ∈ tables_1_7) : w ∈ tables_1 := List.mem_append_right _ (List.mem_append_right _ (List.mem_append_right _ (List.mem_append_right _ (List.mem_append_right _ (List.mem_append_right _ (List.mem_append_left _ h))))))
theorem vi_m7 {w : Cond} (h : w ∈ tables_1_7) : w ∈ lw_tbl := List.mem_append_right _ (vi_t7 h)
theorem vi_t8 {w : Cond} (h : w ∈ tables_1_8) : w ∈ tables_1 := List.mem_append_right _ (List.mem_append_right _ (List.mem_append_right _ (List.mem_append_right _ (List.mem_append_right _ (List.mem_append_right _ (List.mem_append_right _ (h)))))))
theorem vi_m8 {w : Cond} (h : w ∈ tables_1_8) : w ∈ lw_tbl := List.mem_append_right _ (vi_t8 h)
theorem fX0_7 : vi_Fl RX0 7 0 0 := ⟨_, rfl, by decide, Or.inl (vi_mem (vi_m1 (List.mem_of_getElem? (i := 43) rfl)) rfl)⟩
theorem fpX0_7 : vi_Fp RX0 "<init>" 7 0 0 := ⟨_, rfl, by decide, Or.inr ⟨rfl, rfl, rfl, vi_mem (vi_m1 (List.mem_of_getElem? (i := 43) rfl)) rfl⟩⟩
theorem fX2_60 : vi_Fl RX2 60 0 0 := ⟨_, rfl, by decide, Or.inr ⟨"SnapCluster", List.mem_filter.mpr ⟨vi_t1 (List.mem_of_getElem? (i := 44) rfl), rfl⟩⟩⟩
theorem fX0_13 : vi_Fl RX0 13 0 1 := ⟨_, rfl, by decide, Or.inl (vi_mem (vi_m1 (List.mem_of_getElem? (i := 45) rfl)) rfl)⟩
theorem fpX0_13 (nm : String) : vi_Fp RX0 nm 13 0 1 := ⟨_, rfl, by decide, Or.inl ⟨rfl, Or.inl (vi_mem (vi_m1 (List.mem_of_getElem? (i := 45) rfl)) rfl)⟩⟩
theorem fX2_53 : vi_Fl RX2 53 0 1 := ⟨_, rfl, by decide, Or.inr ⟨"SnapCluster", List.mem_filter.mpr ⟨vi_t1 (List.mem_of_getElem? (i := 46) rfl), rfl⟩⟩⟩
theorem fpX2_53 (nm : String) : vi_Fp RX2 nm 53 0 1 := ⟨_, rfl, by decide, Or.inl ⟨rfl, Or.inr ⟨"SnapCluster", List.mem_filter.mpr ⟨vi_t1 (List.mem_of_getElem? (i := 46) rfl), rfl⟩⟩⟩⟩
theorem fX11_200 : vi_Fl RX11 200 0 1 := ⟨_, rfl, by decide, Or.inr ⟨"SnapCluster", List.mem_filter.mpr ⟨vi_t1 (List.mem_of_getElem? (i := 47) rfl), rfl⟩⟩⟩
theorem fpX11_200 (nm : String) : vi_Fp RX11 nm 200 0 1 := ⟨_, rfl, by decide, Or.inl ⟨rfl, Or.inr ⟨"SnapCluster", List.mem_filter.mpr ⟨vi_t1 (List.mem_of_getElem? (i := 47) rfl), rfl⟩⟩⟩⟩
theorem fX0_17 : vi_Fl RX0 17 0 2 := ⟨_, rfl, by decide, Or.inl (vi_mem (vi_m1 (List.mem_of_getElem? (i := 48) rfl)) rfl)⟩
theorem fpX0_17 (nm : String) : vi_Fp RX0 nm 17 0 2 := ⟨_, rfl, by decide, Or.inl ⟨rfl, Or.inl (vi_mem (vi_m1 (List.mem_of_getElem? (i := 48) rfl)) rfl)⟩⟩
theorem fX1_18 : vi_Fl RX1 18 1 0 := ⟨_, rfl, by decide, Or.inl (vi_mem (vi_m1 (List.mem_of_getElem? (i := 70) rfl)) rfl)⟩
theorem fpX1_18 (nm : String) : vi_Fp RX1 nm 18 1 0 := ⟨_, rfl, by decide, Or.inl ⟨rfl, Or.inl (vi_mem (vi_m1 (List.mem_of_getElem? (i := 70) rfl)) rfl)⟩⟩
theorem fX11_181 : vi_Fl RX11 181 1 0 := ⟨_, rfl, by decide, Or.inr ⟨"SnapCluster", List.mem_filter.mpr ⟨vi_t1 (List.mem_of_getElem? (i := 71) rfl), rfl⟩⟩⟩
theorem fpX11_181 (nm : String) : vi_Fp RX11 nm 181 1 0 := ⟨_, rfl, by decide, Or.inl ⟨rfl, Or.inr ⟨"SnapCluster", List.mem_filter.mpr ⟨vi_t1 (List.mem_of_getElem? (i := 71) rfl), rfl⟩⟩⟩⟩
theorem fX7_357 : vi_Fl RX7 357 1 0 := ⟨_, rfl, by decide, Or.inr ⟨"SnapCluster", List.mem_filter.mpr ⟨vi_t1 (List.mem_of_getElem? (i := 72) rfl), rfl⟩⟩⟩
theorem fpX7_357 (nm : String) : vi_Fp RX7 nm 357 1 0 := ⟨_, rfl, by decide, Or.inl ⟨rfl, Or.inr ⟨"SnapCluster", List.mem_filter.mpr ⟨vi_t1 (List.mem_of_getElem? (i := 72) rfl), rfl⟩⟩⟩⟩
theorem fX1_21 : vi_Fl RX1 21 1 1 := ⟨_, rfl, by decide, Or.inl (vi_mem (vi_m1 (List.mem_of_getElem? (i := 73) rfl)) rfl)⟩
theorem fpX1_21 (nm : String) : vi_Fp RX1 nm 21 1 1 := ⟨_, rfl, by decide, Or.inl ⟨rfl, Or.inl (vi_mem (vi_m1 (List.mem_of_getElem? (i := 73) rfl)) rfl)⟩⟩
theorem fX7_380 : vi_Fl RX7 380 1 1 := ⟨_, rfl, by decide, Or.inr ⟨"SnapCluster", List.mem_filter.mpr ⟨vi_t1 (List.mem_of_getElem? (i := 74) rfl), rfl⟩⟩⟩
theorem fpX7_380 (nm : String) : vi_Fp RX7 nm 380 1 1 := ⟨_, rfl, by decide, Or.inl ⟨rfl, Or.inr ⟨"SnapCluster", List.mem_filter.mpr ⟨vi_t1 (List.mem_of_getElem? (i := 74) rfl), rfl⟩⟩⟩⟩
theorem fX1_24 : vi_Fl RX1 24 1 2 := ⟨_, rfl, by decide, Or.inl (vi_mem (vi_m1 (List.mem_of_getElem? (i := 75) rfl)) rfl)⟩
theorem fpX1_24 (nm : String) : vi_Fp RX1 nm 24 1 2 := ⟨_, rfl, by decide, Or.inl ⟨rfl, Or.inl (vi_mem (vi_m1 (List.mem_of_getElem? (i := 75) rfl)) rfl)⟩⟩
theorem fX11_184 : vi_Fl RX11 184 1 2 := ⟨_, rfl, by decide, Or.inr ⟨"SnapCluster", List.mem_filter.mpr ⟨vi_t1 (List.mem_of_getElem? (i := 76) rfl), rfl⟩⟩⟩
theorem fpX11_184 (nm : String) : vi_Fp RX11 nm 184 1 2 := ⟨_, rfl, by decide, Or.inl ⟨rfl, Or.inr ⟨"SnapCluster", List.mem_filter.mpr ⟨vi_t1 (List.mem_of_getElem? (i := 76) rfl), rfl⟩⟩⟩⟩
theorem fX1_38 : vi_Fl RX1 38 1 3 := ⟨_, rfl, by decide, Or.inl (vi_mem (vi_m1 (List.mem_of_getElem? (i := 77) rfl)) rfl)⟩
theorem fpX1_38 (nm : String) : vi_Fp RX1 nm 38 1 3 := ⟨_, rfl, by decide, Or.inl ⟨rfl, Or.inl (vi_mem (vi_m1 (List.mem_of_getElem? (i := 77) rfl)) rfl)⟩⟩
theorem fX7_356 : vi_Fl RX7 356 1 3 := ⟨_, rfl, by decide, Or.inr ⟨"SnapCluster", List.mem_filter.mpr ⟨vi_t1 (List.mem_of_getElem? (i := 78) rfl), rfl⟩⟩⟩
theorem fpX7_356 (nm : String) : vi_Fp RX7 nm 356 1 3 := ⟨_, rfl, by decide, Or.inl ⟨rfl, Or.inr ⟨"SnapCluster", List.mem_filter.mpr ⟨vi_t1 (List.mem_of_getElem? (i := 78) rfl), rfl⟩⟩⟩⟩
theorem fX1_41 : vi_Fl RX1 41 1 4 := ⟨_, rfl, by decide, Or.inl (vi_mem (vi_m1 (List.mem_of_getElem? (i := 79) rfl)) rfl)⟩
theorem fpX1_41 (nm : String) : vi_Fp RX1 nm 41 1 4 := ⟨_, rfl, by decide, Or.inl ⟨rfl, Or.inl (vi_mem (vi_m1 (List.mem_of_getElem? (i := 79) rfl)) rfl)⟩⟩
theorem fX5_30 : vi_Fl RX5 30 1 4 := ⟨_, rfl, by decide, Or.inr ⟨"SnapCluster", List.mem_filter.mpr ⟨vi_t1 (List.mem_of_getElem? (i := 80) rfl), rfl⟩⟩⟩
theorem fpX5_30 (nm : String) : vi_Fp RX5 nm 30 1 4 := ⟨_, rfl, by decide, Or.inl ⟨rfl, Or.inr ⟨"SnapCluster", List.mem_filter.mpr ⟨vi_t1 (List.mem_of_getElem? (i := 80) rfl), rfl⟩⟩⟩⟩
theorem fX7_377 : vi_Fl RX7 377 1 4 := ⟨_, rfl, by decide, Or.inr ⟨"SnapCluster", List.mem_filter.mpr ⟨vi_t1 (List.mem_of_getElem? (i := 81) rfl), rfl⟩⟩⟩
theorem fpX7_377 (nm : String) : vi_Fp RX7 nm 377 1 4 := ⟨_, rfl, by decide, Or.inl ⟨rfl, Or.inr ⟨"SnapCluster", List.mem_filter.mpr ⟨vi_t1 (List.mem_of_getElem? (i := 81) rfl), rfl⟩⟩⟩⟩
theorem fX1_27 : vi_Fl RX1 27 1 5 := ⟨_, rfl, by decide, Or.inl (vi_mem (vi_m1 (List.mem_of_getElem? (i := 82) rfl)) rfl)⟩
theorem fpX1_27 (nm : String) : vi_Fp RX1 nm 27 1 5 := ⟨_, rfl, by decide, Or.inl ⟨rfl, Or.inl (vi_mem (vi_m1 (List.mem_of_getElem? (i := 82) rfl)) rfl)⟩⟩
theorem fX7_408 : vi_Fl RX7 408 1 5 := ⟨_, rfl, by decide, Or.inr ⟨"SnapCluster", List.mem_filter.mpr ⟨vi_t1 (List.mem_of_getElem? (i := 83) rfl), rfl⟩⟩⟩
theorem fpX7_408 (nm : String) : vi_Fp RX7 nm 408 1 5 := ⟨_, rfl, by decide, Or.inl ⟨rfl, Or.inr ⟨"SnapCluster", List.mem_filter.mpr ⟨vi_t1 (List.mem_of_getElem? (i := 83) rfl), rfl⟩⟩⟩⟩
theorem fX1_31 : vi_Fl RX1 31 1 6 := ⟨_, rfl, by decide, Or.inl (vi_mem (vi_m1 (List.mem_of_getElem? (i := 84) rfl)) rfl)⟩
theorem fpX1_31 (nm : String) : vi_Fp RX1 nm 31 1 6 := ⟨_, rfl, by decide, Or.inl ⟨rfl, Or.inl (vi_mem (vi_m1 (List.mem_of_getElem? (i := 84) rfl)) rfl)⟩⟩
theorem fX7_411 : vi_Fl RX7 411 1 6 := ⟨_, rfl, by decide, Or.inr ⟨"SnapCluster", List.mem_filter.mpr ⟨vi_t1 (List.mem_of_getElem? (i := 85) rfl), rfl⟩⟩⟩
theorem fpX7_411 (nm : String) : vi_Fp RX7 nm 411 1 6 := ⟨_, rfl, by decide, Or.inl ⟨rfl, Or.inr ⟨"SnapCluster", List.mem_filter.mpr ⟨vi_t1 (List.mem_of_getElem? (i := 85) rfl), rfl⟩⟩⟩⟩
theorem fX1_34 : vi_Fl RX1 34 1 7 := ⟨_, rfl, by decide, Or.inl (vi_mem (vi_m1 (List.mem_of_getElem? (i := 86) rfl)) rfl)⟩
theorem fpX1_34 (nm : String) : vi_Fp RX1 nm 34 1 7 := ⟨_, rfl, by decide, Or.inl ⟨rfl, Or.inl (vi_mem (vi_m1 (List.mem_of_getElem? (i := 86) rfl)) rfl)⟩⟩
theorem fX5_25 : vi_Fl RX5 25 1 7 := ⟨_, rfl, by decide, Or.inr ⟨"SnapCluster", List.mem_filter.mpr ⟨vi_t1 (List.mem_of_getElem? (i := 87) rfl), rfl⟩⟩⟩
theorem fpX5_25 (nm : String) : vi_Fp RX5 nm 25 1 7 := ⟨_, rfl, by decide, Or.inl ⟨rfl, Or.inr ⟨"SnapCluster", List.mem_filter.mpr ⟨vi_t1 (List.mem_of_getElem? (i := 87) rfl), rfl⟩⟩⟩⟩
theorem fX1_9 : vi_Fl RX1 9 1 8 := ⟨_, rfl, by decide, Or.inl (vi_mem (vi_m1 (List.mem_of_getElem? (i := 88) rfl)) rfl)⟩
theorem fpX1_9 (nm : String) : vi_Fp RX1 nm 9 1 8 := ⟨_, rfl, by decide, Or.inl ⟨rfl, Or.inl (vi_mem (vi_m1 (List.mem_of_getElem? (i := 88) rfl)) rfl)⟩⟩
theorem fX5_49 : vi_Fl RX5 49 1 8 := ⟨_, rfl, by decide, Or.inr ⟨"SnapCluster", List.mem_filter.mpr ⟨vi_t1 (List.mem_of_getElem? (i := 89) rfl), rfl⟩⟩⟩
theorem fpX5_49 (nm : String) : vi_Fp RX5 nm 49 1 8 := ⟨_, rfl, by decide, Or.inl ⟨rfl, Or.inr ⟨"SnapCluster", List.mem_filter.mpr ⟨vi_t1 (List.mem_of_getElem? (i := 89) rfl), rfl⟩⟩⟩⟩
theorem fX1_15 : vi_Fl RX1 15 1 9 := ⟨_, rfl, by decide, Or.inl (vi_mem (vi_m1 (List.mem_of_getElem? (i := 90) rfl)) rfl)⟩
theorem fpX1_15 (nm : String) : vi_Fp RX1 nm 15 1 9 := ⟨_, rfl, by decide, Or.inl ⟨rfl, Or.inl (vi_mem (vi_m1 (List.mem_of_getElem? (i := 90) rfl)) rfl)⟩⟩
theorem fX11_203 : vi_Fl RX11 203 1 9 := ⟨_, rfl, by decide, Or.inr ⟨"SnapCluster", List.mem_filter.mpr ⟨vi_t1 (List.mem_of_getElem? (i := 91) rfl), rfl⟩⟩⟩
theorem fpX11_203 (nm : String) : vi_Fp RX11 nm 203 1 9 := ⟨_, rfl, by decide, Or.inl ⟨rfl, Or.inr ⟨"SnapCluster", List.mem_filter.mpr ⟨vi_t1 (List.mem_of_getElem? (i := 91) rfl), rfl⟩⟩⟩⟩
theorem fX1_60 : vi_Fl RX1 60 1 10 := ⟨_, rfl, by decide, Or.inl (vi_mem (vi_m1 (List.mem_of_getElem? (i := 92) rfl)) rfl)⟩
theorem fpX1_60 (nm : String) : vi_Fp RX1 nm 60 1 10 := ⟨_, rfl, by decide, Or.inl ⟨rfl, Or.inl (vi_mem (vi_m1 (List.mem_of_getElem? (i := 92) rfl)) rfl)⟩⟩
theorem fX11_206 : vi_Fl RX11 206 1 10 := ⟨_, rfl, by decide, Or.inr ⟨"SnapCluster", List.mem_filter.mpr ⟨vi_t1 (List.mem_of_getElem? (i := 93) rfl), rfl⟩⟩⟩
theorem fpX11_206 (nm : String) : vi_Fp RX11 nm 206 1 10 := ⟨_, rfl, by decide, Or.inl ⟨rfl, Or.inr ⟨"SnapCluster", List.mem_filter.mpr ⟨vi_t1 (List.mem_of_getElem? (i := 93) rfl), rfl⟩⟩⟩⟩
theorem fX3_11 : vi_Fl RX3 11 3 0 := ⟨_, rfl, by decide, Or.inl (vi_mem (vi_m1 (List.mem_of_getElem? (i := 117) rfl)) rfl)⟩
theorem fpX3_11 : vi_Fp RX3 "<init>" 11 3 0 := ⟨_, rfl, by decide, Or.inr ⟨rfl, rfl, rfl, vi_mem (vi_m1 (List.mem_of_getElem? (i := 117) rfl)) rfl⟩⟩
theorem fX3_18 : vi_Fl RX3 18 3 1 := ⟨_, rfl, by decide, Or.inl (vi_mem (vi_m1 (List.mem_of_getElem? (i := 118) rfl)) rfl)⟩
theorem fpX3_18 (nm : String) : vi_Fp RX3 nm 18 3 1 := ⟨_, rfl, by decide, Or.inl ⟨rfl, Or.inl (vi_mem (vi_m1 (List.mem_of_getElem? (i := 118) rfl)) rfl)⟩⟩
theorem fX3_22 : vi_Fl RX3 22 3 2 := ⟨_, rfl, by decide, Or.inl (vi_mem (vi_m1 (List.mem_of_getElem? (i := 119) rfl)) rfl)⟩
theorem fpX3_22 : vi_Fp RX3 "<init>" 22 3 2 := ⟨_, rfl, by decide, Or.inr ⟨rfl, rfl, rfl, vi_mem (vi_m1 (List.mem_of_getElem? (i := 119) rfl)) rfl⟩⟩
theorem fX3_25 : vi_Fl RX3 25 3 3 := ⟨_, rfl, by decide, Or.inl (vi_mem (vi_m1 (List.mem_of_getElem? (i := 120) rfl)) rfl)⟩
theorem fpX3_25 (nm : String) : vi_Fp RX3 nm 25 3 3 := ⟨_, rfl, by decide, Or.inl ⟨rfl, Or.inl (vi_mem (vi_m1 (List.mem_of_getElem? (i := 120) rfl)) rfl)⟩⟩
theorem fX11_165 : vi_Fl RX11 165 3 3 := ⟨_, rfl, by decide, Or.inr ⟨"SnapCluster", List.mem_filter.mpr ⟨vi_t1 (List.mem_of_getElem? (i := 121) rfl), rfl⟩⟩⟩
theorem fpX11_165 (nm : String) : vi_Fp RX11 nm 165 3 3 := ⟨_, rfl, by decide, Or.inl ⟨rfl, Or.inr ⟨"SnapCluster", List.mem_filter.mpr ⟨vi_t1 (List.mem_of_getElem? (i := 121) rfl), rfl⟩⟩⟩⟩
theorem fX3_33 : vi_Fl RX3 33 3 4 := ⟨_, rfl, by decide, Or.inl (vi_mem (vi_m1 (List.mem_of_getElem? (i := 122) rfl)) rfl)⟩
theorem fpX3_33 (nm : String) : vi_Fp RX3 nm 33 3 4 := ⟨_, rfl, by decide, Or.inl ⟨rfl, Or.inl (vi_mem (vi_m1 (List.mem_of_getElem? (i := 122) rfl)) rfl)⟩⟩
theorem fX11_255 : vi_Fl RX11 255 3 4 := ⟨_, rfl, by decide, Or.inr ⟨"SnapCluster", List.mem_filter.mpr ⟨vi_t1 (List.mem_of_getElem? (i := 123) rfl), rfl⟩⟩⟩
theorem fpX11_255 (nm : String) : vi_Fp RX11 nm 255 3 4 := ⟨_, rfl, by decide, Or.inl ⟨rfl, Or.inr ⟨"SnapCluster", List.mem_filter.mpr ⟨vi_t1 (List.mem_of_getElem? (i := 123) rfl), rfl⟩⟩⟩⟩
theorem fX3_36 : vi_Fl RX3 36 3 5 := ⟨_, rfl, by decide, Or.inl (vi_mem (vi_m1 (List.mem_of_getElem? (i := 124) rfl)) rfl)⟩
theorem fpX3_36 (nm : String) : vi_Fp RX3 nm 36 3 5 := ⟨_, rfl, by decide, Or.inl ⟨rfl, Or.inl (vi_mem (vi_m1 (List.mem_of_getElem? (i := 124) rfl)) rfl)⟩⟩
theorem fX11_258 : vi_Fl RX11 258 3 5 := ⟨_, rfl, by decide, Or.inr ⟨"SnapCluster", List.mem_filter.mpr ⟨vi_t1 (List.mem_of_getElem? (i := 125) rfl), rfl⟩⟩⟩
theorem fpX11_258 (nm : String) : vi_Fp RX11 nm 258 3 5 := ⟨_, rfl, by decide, Or.inl ⟨rfl, Or.inr ⟨"SnapCluster", List.mem_filter.mpr ⟨vi_t1 (List.mem_of_getElem? (i := 125) rfl), rfl⟩⟩⟩⟩
theorem fX11_178 : vi_Fl RX11 178 3 6 := ⟨_, rfl, by decide, Or.inr ⟨"SnapCluster", List.mem_filter.mpr ⟨vi_t1 (List.mem_of_getElem? (i := 126) rfl), rfl⟩⟩⟩
theorem fpX11_178 (nm : String) : vi_Fp RX11 nm 178 3 6 := ⟨_, rfl, by decide, Or.inl ⟨rfl, Or.inr ⟨"SnapCluster", List.mem_filter.mpr ⟨vi_t1 (List.mem_of_getElem? (i := 126) rfl), rfl⟩⟩⟩⟩
theorem fX9_9 : vi_Fl RX9 9 9 0 := ⟨_, rfl, by decide, Or.inl (vi_mem (vi_m1 (List.mem_of_getElem? (i := 149) rfl)) rfl)⟩
theorem fpX9_9 : vi_Fp RX9 "<init>" 9 9 0 := ⟨_, rfl, by decide, Or.inr ⟨rfl, rfl, rfl, vi_mem (vi_m1 (List.mem_of_getElem? (i := 149) rfl)) rfl⟩⟩
theorem fX9_15 : vi_Fl RX9 15 9 1 := ⟨_, rfl, by decide, Or.inl (vi_mem (vi_m1 (List.mem_of_getElem? (i := 150) rfl)) rfl)⟩
theorem fpX9_15 (nm : String) : vi_Fp RX9 nm 15 9 1 := ⟨_, rfl, by decide, Or.inl ⟨rfl, Or.inl (vi_mem (vi_m1 (List.mem_of_getElem? (i := 150) rfl)) rfl)⟩⟩
theorem fX11_82 : vi_Fl RX11 82 9 1 := ⟨_, rfl, by decide, Or.inr ⟨"SnapCluster", List.mem_filter.mpr ⟨vi_t1 (List.mem_of_getElem? (i := 151) rfl), rfl⟩⟩⟩
theorem fpX11_82 (nm : String) : vi_Fp RX11 nm 82 9 1 := ⟨_, rfl, by decide, Or.inl ⟨rfl, Or.inr ⟨"SnapCluster", List.mem_filter.mpr ⟨vi_t1 (List.mem_of_getElem? (i := 151) rfl), rfl⟩⟩⟩⟩
theorem fX7_118 : vi_Fl RX7 118 9 1 := ⟨_, rfl, by decide, Or.inr ⟨"SnapCluster", List.mem_filter.mpr ⟨vi_t1 (List.mem_of_getElem? (i := 152) rfl), rfl⟩⟩⟩
theorem fpX7_118 (nm : String) : vi_Fp RX7 nm 118 9 1 := ⟨_, rfl, by decide, Or.inl ⟨rfl, Or.inr ⟨"SnapCluster", List.mem_filter.mpr ⟨vi_t1 (List.mem_of_getElem? (i := 152) rfl), rfl⟩⟩⟩⟩
theorem fX9_45 : vi_Fl RX9 45 9 2 := ⟨_, rfl, by decide, Or.inl (vi_mem (vi_m1 (List.mem_of_getElem? (i := 153) rfl)) rfl)⟩
theorem fpX9_45 (nm : String) : vi_Fp RX9 nm 45 9 2 := ⟨_, rfl, by decide, Or.inl ⟨rfl, Or.inl (vi_mem (vi_m1 (List.mem_of_getElem? (i := 153) rfl)) rfl)⟩⟩
theorem fX11_153 : vi_Fl RX11 153 9 2 := ⟨_, rfl, by decide, Or.inr ⟨"SnapCluster", List.mem_filter.mpr ⟨vi_t1 (List.mem_of_getElem? (i := 154) rfl), rfl⟩⟩⟩
theorem fpX11_153 (nm : String) : vi_Fp RX11 nm 153 9 2 := ⟨_, rfl, by decide, Or.inl ⟨rfl, Or.inr ⟨"SnapCluster", List.mem_filter.mpr ⟨vi_t1 (List.mem_of_getElem? (i := 154) rfl), rfl⟩⟩⟩⟩
theorem fX7_245 : vi_Fl RX7 245 9 2 := ⟨_, rfl, by decide, Or.inr ⟨"SnapCluster", List.mem_filter.mpr ⟨vi_t1 (List.mem_of_getElem? (i := 155) rfl), rfl⟩⟩⟩
theorem fpX7_245 (nm : String) : vi_Fp RX7 nm 245 9 2 := ⟨_, rfl, by decide, Or.inl ⟨rfl, Or.inr ⟨"SnapCluster", List.mem_filter.mpr ⟨vi_t1 (List.mem_of_getElem? (i := 155) rfl), rfl⟩⟩⟩⟩
theorem fX9_19 : vi_Fl RX9 19 9 3 := ⟨_, rfl, by decide, Or.inl (vi_mem (vi_m1 (List.mem_of_getElem? (i := 156) rfl)) rfl)⟩
theorem fpX9_19 (nm : String) : vi_Fp RX9 nm 19 9 3 := ⟨_, rfl, by decide, Or.inl ⟨rfl, Or.inl (vi_mem (vi_m1 (List.mem_of_getElem? (i := 156) rfl)) rfl)⟩⟩
theorem fX11_106 : vi_Fl RX11 106 9 3 := ⟨_, rfl, by decide, Or.inr ⟨"SnapCluster", List.mem_filter.mpr ⟨vi_t1 (List.mem_of_getElem? (i := 157) rfl), rfl⟩⟩⟩
theorem fpX11_106 (nm : String) : vi_Fp RX11 nm 106 9 3 := ⟨_, rfl, by decide, Or.inl ⟨rfl, Or.inr ⟨"SnapCluster", List.mem_filter.mpr ⟨vi_t1 (List.mem_of_getElem? (i := 157) rfl), rfl⟩⟩⟩⟩
theorem fX7_123 : vi_Fl RX7 123 9 3 := ⟨_, rfl, by decide, Or.inr ⟨"SnapCluster", List.mem_filter.mpr ⟨vi_t1 (List.mem_of_getElem? (i := 158) rfl), rfl⟩⟩⟩
theorem fpX7_123 (nm : String) : vi_Fp RX7 nm 123 9 3 := ⟨_, rfl, by decide, Or.inl ⟨rfl, Or.inr ⟨"SnapCluster", List.mem_filter.mpr ⟨vi_t1 (List.mem_of_getElem? (i := 158) rfl), rfl⟩⟩⟩⟩
theorem fX9_22 : vi_Fl RX9 22 9 4 := ⟨_, rfl, by decide, Or.inl (vi_mem (vi_m1 (List.mem_of_getElem? (i := 159) rfl)) rfl)⟩
theorem fpX9_22 (nm : String) : vi_Fp RX9 nm 22 9 4 := ⟨_, rfl, by decide, Or.inl ⟨rfl, Or.inl (vi_mem (vi_m1 (List.mem_of_getElem? (i := 159) rfl)) rfl)⟩⟩
theorem fX11_109 : vi_Fl RX11 109 9 4 := ⟨_, rfl, by decide, Or.inr ⟨"SnapCluster", List.mem_filter.mpr ⟨vi_t1 (List.mem_of_getElem? (i := 160) rfl), rfl⟩⟩⟩
theorem fpX11_109 (nm : String) : vi_Fp RX11 nm 109 9 4 := ⟨_, rfl, by decide, Or.inl ⟨rfl, Or.inr ⟨"SnapCluster", List.mem_filter.mpr ⟨vi_t1 (List.mem_of_getElem? (i := 160) rfl), rfl⟩⟩⟩⟩
theorem fX9_29 : vi_Fl RX9 29 9 5 := ⟨_, rfl, by decide, Or.inl (vi_mem (vi_m1 (List.mem_of_getElem? (i := 161) rfl)) rfl)⟩
theorem fpX9_29 (nm : String) : vi_Fp RX9 nm 29 9 5 := ⟨_, rfl, by decide, Or.inl ⟨rfl, Or.inl (vi_mem (vi_m1 (List.mem_of_getElem? (i := 161) rfl)) rfl)⟩⟩
theorem fX9_32 : vi_Fl RX9 32 9 6 := ⟨_, rfl, by decide, Or.inl (vi_mem (vi_m1 (List.mem_of_getElem? (i := 162) rfl)) rfl)⟩
theorem fpX9_32 (nm : String) : vi_Fp RX9 nm 32 9 6 := ⟨_, rfl, by decide, Or.inl ⟨rfl, Or.inl (vi_mem (vi_m1 (List.mem_of_getElem? (i := 162) rfl)) rfl)⟩⟩
theorem fX11_129 : vi_Fl RX11 129 9 6 := ⟨_, rfl, by decide, Or.inr ⟨"SnapCluster", List.mem_filter.mpr ⟨vi_t1 (List.mem_of_getElem? (i := 163) rfl), rfl⟩⟩⟩
theorem fpX11_129 (nm : String) : vi_Fp RX11 nm 129 9 6 := ⟨_, rfl, by decide, Or.inl ⟨rfl, Or.inr ⟨"SnapCluster", List.mem_filter.mpr ⟨vi_t1 (List.mem_of_getElem? (i := 163) rfl), rfl⟩⟩⟩⟩
theorem fX9_25 : vi_Fl RX9 25 9 7 := ⟨_, rfl, by decide, Or.inl (vi_mem (vi_m1 (List.mem_of_getElem? (i := 164) rfl)) rfl)⟩
theorem fpX9_25 (nm : String) : vi_Fp RX9 nm 25 9 7 := ⟨_, rfl, by decide, Or.inl ⟨rfl, Or.inl (vi_mem (vi_m1 (List.mem_of_getElem? (i := 164) rfl)) rfl)⟩⟩
theorem fX11_122 : vi_Fl RX11 122 9 7 := ⟨_, rfl, by decide, Or.inr ⟨"SnapCluster", List.mem_filter.mpr ⟨vi_t1 (List.mem_of_getElem? (i := 165) rfl), rfl⟩⟩⟩
theorem fpX11_122 (nm : String) : vi_Fp RX11 nm 122 9 7 := ⟨_, rfl, by decide, Or.inl ⟨rfl, Or.inr ⟨"SnapCluster", List.mem_filter.mpr ⟨vi_t1 (List.mem_of_getElem? (i := 165) rfl), rfl⟩⟩⟩⟩
theorem fX9_58 : vi_Fl RX9 58 9 8 := ⟨_, rfl, by decide, Or.inl (vi_mem (vi_m1 (List.mem_of_getElem? (i := 166) rfl)) rfl)⟩
theorem fpX9_58 (nm : String) : vi_Fp RX9 nm 58 9 8 := ⟨_, rfl, by decide, Or.inl ⟨rfl, Or.inl (vi_mem (vi_m1 (List.mem_of_getElem? (i := 166) rfl)) rfl)⟩⟩
theorem fX11_139 : vi_Fl RX11 139 9 8 := ⟨_, rfl, by decide, Or.inr ⟨"SnapCluster", List.mem_filter.mpr ⟨vi_t1 (List.mem_of_getElem? (i := 167) rfl), rfl⟩⟩⟩
theorem fpX11_139 (nm : String) : vi_Fp RX11 nm 139 9 8 := ⟨_, rfl, by decide, Or.inl ⟨rfl, Or.inr ⟨"SnapCluster", List.mem_filter.mpr ⟨vi_t1 (List.mem_of_getElem? (i := 167) rfl), rfl⟩⟩⟩⟩
theorem fX10_30 : vi_Fl RX10 30 10 0 := ⟨_, rfl, by decide, Or.inl (vi_mem (vi_m1 (List.mem_of_getElem? (i := 198) rfl)) rfl)⟩
theorem fpX10_30 : vi_Fp RX10 "<init>" 30 10 0 := ⟨_, rfl, by decide, Or.inr ⟨rfl, rfl, rfl, vi_mem (vi_m1 (List.mem_of_getElem? (i := 198) rfl)) rfl⟩⟩
theorem fX10_34 : vi_Fl RX10 34 10 1 := ⟨_, rfl, by decide, Or.inl (vi_mem (vi_m1 (List.mem_of_getElem? (i := 199) rfl)) rfl)⟩
theorem fpX10_34 : vi_Fp RX10 "<init>" 34 10 1 := ⟨_, rfl, by decide, Or.inr ⟨rfl, rfl, rfl, vi_mem (vi_m1 (List.mem_of_getElem? (i := 199) rfl)) rfl⟩⟩
theorem fX10_9 : vi_Fl RX10 9 10 2 := ⟨_, rfl, by decide, Or.inl (vi_mem (vi_m1 (List.mem_of_getElem? (i := 200) rfl)) rfl)⟩
theorem fpX10_9 : vi_Fp RX10 "<init>" 9 10 2 := ⟨_, rfl, by decide, Or.inr ⟨rfl, rfl, rfl, vi_mem (vi_m1 (List.mem_of_getElem? (i := 200) rfl)) rfl⟩⟩
theorem fX11_149 : vi_Fl RX11 149 10 2 := ⟨_, rfl, by decide, Or.inr ⟨"SnapCluster", List.mem_filter.mpr ⟨vi_t1 (List.mem_of_getElem? (i := 201) rfl), rfl⟩⟩⟩
theorem fX7_248 : vi_Fl RX7 248 10 2 := ⟨_, rfl, by decide, Or.inr ⟨"SnapCluster", List.mem_filter.mpr ⟨vi_t1 (List.mem_of_getElem? (i := 202) rfl), rfl⟩⟩⟩
theorem fX10_15 : vi_Fl RX10 15 10 3 := ⟨_, rfl, by decide, Or.inl (vi_mem (vi_m1 (List.mem_of_getElem? (i := 203) rfl)) rfl)⟩
theorem fpX10_15 : vi_Fp RX10 "<init>" 15 10 3 := ⟨_, rfl, by decide, Or.inr ⟨rfl, rfl, rfl, vi_mem (vi_m1 (List.mem_of_getElem? (i := 203) rfl)) rfl⟩⟩
theorem fX11_156 : vi_Fl RX11 156 10 3 := ⟨_, rfl, by decide, Or.inr ⟨"SnapCluster", List.mem_filter.mpr ⟨vi_t1 (List.mem_of_getElem? (i := 204) rfl), rfl⟩⟩⟩
theorem fX7_252 : vi_Fl RX7 252 10 3 := ⟨_, rfl, by decide, Or.inr ⟨"SnapCluster", List.mem_filter.mpr ⟨vi_t1 (List.mem_of_getElem? (i := 205) rfl), rfl⟩⟩⟩
theorem fX10_18 : vi_Fl RX10 18 10 4 := ⟨_, rfl, by decide, Or.inl (vi_mem (vi_m1 (List.mem_of_getElem? (i := 206) rfl)) rfl)⟩
theorem fpX10_18 : vi_Fp RX10 "<init>" 18 10 4 := ⟨_, rfl, by decide, Or.inr ⟨rfl, rfl, rfl, vi_mem (vi_m1 (List.mem_of_getElem? (i := 206) rfl)) rfl⟩⟩
theorem fX10_21 : vi_Fl RX10 21 10 5 := ⟨_, rfl, by decide, Or.inl (vi_mem (vi_m1 (List.mem_of_getElem? (i := 207) rfl)) rfl)⟩
theorem fpX10_21 : vi_Fp RX10 "<init>" 21 10 5 := ⟨_, rfl, by decide, Or.inr ⟨rfl, rfl, rfl, vi_mem (vi_m1 (List.mem_of_getElem? (i := 207) rfl)) rfl⟩⟩
theorem fX10_26 : vi_Fl RX10 26 10 6 := ⟨_, rfl, by decide, Or.inl (vi_mem (vi_m1 (List.mem_of_getElem? (i := 208) rfl)) rfl)⟩
theorem fpX10_26 : vi_Fp RX10 "<init>" 26 10 6 := ⟨_, rfl, by decide, Or.inr ⟨rfl, rfl, rfl, vi_mem (vi_m1 (List.mem_of_getElem? (i := 208) rfl)) rfl⟩⟩
theorem fX10_37 : vi_Fl RX10 37 10 7 := ⟨_, rfl, by decide, Or.inl (vi_mem (vi_m1 (List.mem_of_getElem? (i := 209) rfl)) rfl)⟩
theorem fpX10_37 (nm : String) : vi_Fp RX10 nm 37 10 7 := ⟨_, rfl, by decide, Or.inl ⟨rfl, Or.inl (vi_mem (vi_m1 (List.mem_of_getElem? (i := 209) rfl)) rfl)⟩⟩
theorem fX11_89 : vi_Fl RX11 89 10 7 := ⟨_, rfl, by decide, Or.inr ⟨"SnapCluster", List.mem_filter.mpr ⟨vi_t1 (List.mem_of_getElem? (i := 210) rfl), rfl⟩⟩⟩
theorem fpX11_89 (nm : String) : vi_Fp RX11 nm 89 10 7 := ⟨_, rfl, by decide, Or.inl ⟨rfl, Or.inr ⟨"SnapCluster", List.mem_filter.mpr ⟨vi_t1 (List.mem_of_getElem? (i := 210) rfl), rfl⟩⟩⟩⟩
theorem fX7_66 : vi_Fl RX7 66 10 7 := ⟨_, rfl, by decide, Or.inr ⟨"SnapCluster", List.mem_filter.mpr ⟨vi_t1 (List.mem_of_getElem? (i := 211) rfl), rfl⟩⟩⟩
theorem fpX7_66 (nm : String) : vi_Fp RX7 nm 66 10 7 := ⟨_, rfl, by decide, Or.inl ⟨rfl, Or.inr ⟨"SnapCluster", List.mem_filter.mpr ⟨vi_t1 (List.mem_of_getElem? (i := 211) rfl), rfl⟩⟩⟩⟩
theorem fX10_40 : vi_Fl RX10 40 10 8 := ⟨_, rfl, by decide, Or.inl (vi_mem (vi_m1 (List.mem_of_getElem? (i := 212) rfl)) rfl)⟩
theorem fpX10_40 (nm : String) : vi_Fp RX10 nm 40 10 8 := ⟨_, rfl, by decide, Or.inl ⟨rfl, Or.inl (vi_mem (vi_m1 (List.mem_of_getElem? (i := 212) rfl)) rfl)⟩⟩
theorem fX11_112 : vi_Fl RX11 112 10 8 := ⟨_, rfl, by decide, Or.inr ⟨"SnapCluster", List.mem_filter.mpr ⟨vi_t1 (List.mem_of_getElem? (i := 213) rfl), rfl⟩⟩⟩
theorem fpX11_112 (nm : String) : vi_Fp RX11 nm 112 10 8 := ⟨_, rfl, by decide, Or.inl ⟨rfl, Or.inr ⟨"SnapCluster", List.mem_filter.mpr ⟨vi_t1 (List.mem_of_getElem? (i := 213) rfl), rfl⟩⟩⟩⟩
theorem fX7_71 : vi_Fl RX7 71 10 8 := ⟨_, rfl, by decide, Or.inr ⟨"SnapCluster", List.mem_filter.mpr ⟨vi_t1 (List.mem_of_getElem? (i := 214) rfl), rfl⟩⟩⟩
theorem fpX7_71 (nm : String) : vi_Fp RX7 nm 71 10 8 := ⟨_, rfl, by decide, Or.inl ⟨rfl, Or.inr ⟨"SnapCluster", List.mem_filter.mpr ⟨vi_t1 (List.mem_of_getElem? (i := 214) rfl), rfl⟩⟩⟩⟩
theorem fX10_43 : vi_Fl RX10 43 10 9 := ⟨_, rfl, by decide, Or.inl (vi_mem (vi_m1 (List.mem_of_getElem? (i := 215) rfl)) rfl)⟩
theorem fpX10_43 (nm : String) : vi_Fp RX10 nm 43 10 9 := ⟨_, rfl, by decide, Or.inl ⟨rfl, Or.inl (vi_mem (vi_m1 (List.mem_of_getElem? (i := 215) rfl)) rfl)⟩⟩
theorem fX2_9 : vi_Fl RX2 9 2 0 := ⟨_, rfl, by decide, Or.inl (vi_mem (vi_m2 (List.mem_of_getElem? (i := 40) rfl)) rfl)⟩
theorem fpX2_9 : vi_Fp RX2 "<init>" 9 2 0 := ⟨_, rfl, by decide, Or.inr ⟨rfl, rfl, rfl, vi_mem (vi_m2 (List.mem_of_getElem? (i := 40) rfl)) rfl⟩⟩
theorem fX11_233 : vi_Fl RX11 233 2 0 := ⟨_, rfl, by decide, Or.inr ⟨"SnapCluster", List.mem_filter.mpr ⟨vi_t2 (List.mem_of_getElem? (i := 41) rfl), rfl⟩⟩⟩
theorem fX2_22 : vi_Fl RX2 22 2 1 := ⟨_, rfl, by decide, Or.inl (vi_mem (vi_m2 (List.mem_of_getElem? (i := 42) rfl)) rfl)⟩
theorem fpX2_22 : vi_Fp RX2 "<init>" 22 2 1 := ⟨_, rfl, by decide, Or.inr ⟨rfl, rfl, rfl, vi_mem (vi_m2 (List.mem_of_getElem? (i := 42) rfl)) rfl⟩⟩
theorem fX2_50 : vi_Fl RX2 50 2 2 := ⟨_, rfl, by decide, Or.inl (vi_mem (vi_m2 (List.mem_of_getElem? (i := 43) rfl)) rfl)⟩
theorem fpX2_50 (nm : String) : vi_Fp RX2 nm 50 2 2 := ⟨_, rfl, by decide, Or.inl ⟨rfl, Or.inl (vi_mem (vi_m2 (List.mem_of_getElem? (i := 43) rfl)) rfl)⟩⟩
theorem fX2_71 : vi_Fl RX2 71 2 3 := ⟨_, rfl, by decide, Or.inl (vi_mem (vi_m2 (List.mem_of_getElem? (i := 44) rfl)) rfl)⟩
theorem fpX2_71 (nm : String) : vi_Fp RX2 nm 71 2 3 := ⟨_, rfl, by decide, Or.inl ⟨rfl, Or.inl (vi_mem (vi_m2 (List.mem_of_getElem? (i := 44) rfl)) rfl)⟩⟩
theorem fX2_42 : vi_Fl RX2 42 2 4 := ⟨_, rfl, by decide, Or.inl (vi_mem (vi_m2 (List.mem_of_getElem? (i := 45) rfl)) rfl)⟩
theorem fpX2_42 (nm : String) : vi_Fp RX2 nm 42 2 4 := ⟨_, rfl, by decide, Or.inl ⟨rfl, Or.inl (vi_mem (vi_m2 (List.mem_of_getElem? (i := 45) rfl)) rfl)⟩⟩
theorem fX2_15 : vi_Fl RX2 15 2 5 := ⟨_, rfl, by decide, Or.inl (vi_mem (vi_m2 (List.mem_of_getElem? (i := 46) rfl)) rfl)⟩
theorem fpX2_15 (nm : String) : vi_Fp RX2 nm 15 2 5 := ⟨_, rfl, by decide, Or.inl ⟨rfl, Or.inl (vi_mem (vi_m2 (List.mem_of_getElem? (i := 46) rfl)) rfl)⟩⟩
theorem fX7_145 : vi_Fl RX7 145 2 5 := ⟨_, rfl, by decide, Or.inr ⟨"SnapCluster", List.mem_filter.mpr ⟨vi_t2 (List.mem_of_getElem? (i := 47) rfl), rfl⟩⟩⟩
theorem fpX7_145 (nm : String) : vi_Fp RX7 nm 145 2 5 := ⟨_, rfl, by decide, Or.inl ⟨rfl, Or.inr ⟨"SnapCluster", List.mem_filter.mpr ⟨vi_t2 (List.mem_of_getElem? (i := 47) rfl), rfl⟩⟩⟩⟩
theorem fX11_225 : vi_Fl RX11 225 2 5 := ⟨_, rfl, by decide, Or.inr ⟨"SnapCluster", List.mem_filter.mpr ⟨vi_t2 (List.mem_of_getElem? (i := 48) rfl), rfl⟩⟩⟩
theorem fpX11_225 (nm : String) : vi_Fp RX11 nm 225 2 5 := ⟨_, rfl, by decide, Or.inl ⟨rfl, Or.inr ⟨"SnapCluster", List.mem_filter.mpr ⟨vi_t2 (List.mem_of_getElem? (i := 48) rfl), rfl⟩⟩⟩⟩
theorem fX2_33 : vi_Fl RX2 33 2 6 := ⟨_, rfl, by decide, Or.inl (vi_mem (vi_m2 (List.mem_of_getElem? (i := 49) rfl)) rfl)⟩
theorem fpX2_33 (nm : String) : vi_Fp RX2 nm 33 2 6 := ⟨_, rfl, by decide, Or.inl ⟨rfl, Or.inl (vi_mem (vi_m2 (List.mem_of_getElem? (i := 49) rfl)) rfl)⟩⟩
theorem fX7_199 : vi_Fl RX7 199 2 6 := ⟨_, rfl, by decide, Or.inr ⟨"SnapCluster", List.mem_filter.mpr ⟨vi_t2 (List.mem_of_getElem? (i := 50) rfl), rfl⟩⟩⟩
theorem fpX7_199 (nm : String) : vi_Fp RX7 nm 199 2 6 := ⟨_, rfl, by decide, Or.inl ⟨rfl, Or.inr ⟨"SnapCluster", List.mem_filter.mpr ⟨vi_t2 (List.mem_of_getElem? (i := 50) rfl), rfl⟩⟩⟩⟩
theorem fX2_36 : vi_Fl RX2 36 2 7 := ⟨_, rfl, by decide, Or.inl (vi_mem (vi_m2 (List.mem_of_getElem? (i := 51) rfl)) rfl)⟩
theorem fpX2_36 (nm : String) : vi_Fp RX2 nm 36 2 7 := ⟨_, rfl, by decide, Or.inl ⟨rfl, Or.inl (vi_mem (vi_m2 (List.mem_of_getElem? (i := 51) rfl)) rfl)⟩⟩
theorem fX2_19 : vi_Fl RX2 19 2 8 := ⟨_, rfl, by decide, Or.inl (vi_mem (vi_m2 (List.mem_of_getElem? (i := 52) rfl)) rfl)⟩
theorem fpX2_19 (nm : String) : vi_Fp RX2 nm 19 2 8 := ⟨_, rfl, by decide, Or.inl ⟨rfl, Or.inl (vi_mem (vi_m2 (List.mem_of_getElem? (i := 52) rfl)) rfl)⟩⟩
theorem fX7_219 : vi_Fl RX7 219 2 8 := ⟨_, rfl, by decide, Or.inr ⟨"SnapCluster", List.mem_filter.mpr ⟨vi_t2 (List.mem_of_getElem? (i := 53) rfl), rfl⟩⟩⟩
theorem fpX7_219 (nm : String) : vi_Fp RX7 nm 219 2 8 := ⟨_, rfl, by decide, Or.inl ⟨rfl, Or.inr ⟨"SnapCluster", List.mem_filter.mpr ⟨vi_t2 (List.mem_of_getElem? (i := 53) rfl), rfl⟩⟩⟩⟩
theorem fX2_39 : vi_Fl RX2 39 2 9 := ⟨_, rfl, by decide, Or.inl (vi_mem (vi_m2 (List.mem_of_getElem? (i := 54) rfl)) rfl)⟩
theorem fpX2_39 (nm : String) : vi_Fp RX2 nm 39 2 9 := ⟨_, rfl, by decide, Or.inl ⟨rfl, Or.inl (vi_mem (vi_m2 (List.mem_of_getElem? (i := 54) rfl)) rfl)⟩⟩
theorem fX7_222 : vi_Fl RX7 222 2 9 := ⟨_, rfl, by decide, Or.inr ⟨"SnapCluster", List.mem_filter.mpr ⟨vi_t2 (List.mem_of_getElem? (i := 55) rfl), rfl⟩⟩⟩
theorem fpX7_222 (nm : String) : vi_Fp RX7 nm 222 2 9 := ⟨_, rfl, by decide, Or.inl ⟨rfl, Or.inr ⟨"SnapCluster", List.mem_filter.mpr ⟨vi_t2 (List.mem_of_getElem? (i := 55) rfl), rfl⟩⟩⟩⟩
theorem fX6_11 : vi_Fl RX6 11 6 0 := ⟨_, rfl, by decide, Or.inl (vi_mem (vi_m2 (List.mem_of_getElem? (i := 90) rfl)) rfl)⟩
theorem fpX6_11 : vi_Fp RX6 "<init>" 11 6 0 := ⟨_, rfl, by decide, Or.inr ⟨rfl, rfl, rfl, vi_mem (vi_m2 (List.mem_of_getElem? (i := 90) rfl)) rfl⟩⟩
theorem fX6_17 : vi_Fl RX6 17 6 1 := ⟨_, rfl, by decide, Or.inl (vi_mem (vi_m2 (List.mem_of_getElem? (i := 91) rfl)) rfl)⟩
theorem fpX6_17 (nm : String) : vi_Fp RX6 nm 17 6 1 := ⟨_, rfl, by decide, Or.inl ⟨rfl, Or.inl (vi_mem (vi_m2 (List.mem_of_getElem? (i := 91) rfl)) rfl)⟩⟩
theorem fX7_100 : vi_Fl RX7 100 6 1 := ⟨_, rfl, by decide, Or.inr ⟨"SnapCluster", List.mem_filter.mpr ⟨vi_t2 (List.mem_of_getElem? (i := 92) rfl), rfl⟩⟩⟩
theorem fpX7_100 (nm : String) : vi_Fp RX7 nm 100 6 1 := ⟨_, rfl, by decide, Or.inl ⟨rfl, Or.inr ⟨"SnapCluster", List.mem_filter.mpr ⟨vi_t2 (List.mem_of_getElem? (i := 92) rfl), rfl⟩⟩⟩⟩
theorem fX5_9 : vi_Fl RX5 9 5 0 := ⟨_, rfl, by decide, Or.inl (vi_mem (vi_m2 (List.mem_of_getElem? (i := 104) rfl)) rfl)⟩
theorem fpX5_9 : vi_Fp RX5 "<init>" 9 5 0 := ⟨_, rfl, by decide, Or.inr ⟨rfl, rfl, rfl, vi_mem (vi_m2 (List.mem_of_getElem? (i := 104) rfl)) rfl⟩⟩
theorem fX7_429 : vi_Fl RX7 429 5 0 := ⟨_, rfl, by decide, Or.inr ⟨"SnapCluster", List.mem_filter.mpr ⟨vi_t2 (List.mem_of_getElem? (i := 105) rfl), rfl⟩⟩⟩
theorem fX5_15 : vi_Fl RX5 15 5 1 := ⟨_, rfl, by decide, Or.inl (vi_mem (vi_m2 (List.mem_of_getElem? (i := 106) rfl)) rfl)⟩
theorem fpX5_15 (nm : String) : vi_Fp RX5 nm 15 5 1 := ⟨_, rfl, by decide, Or.inl ⟨rfl, Or.inl (vi_mem (vi_m2 (List.mem_of_getElem? (i := 106) rfl)) rfl)⟩⟩
theorem fX7_114 : vi_Fl RX7 114 5 1 := ⟨_, rfl, by decide, Or.inr ⟨"SnapCluster", List.mem_filter.mpr ⟨vi_t2 (List.mem_of_getElem? (i := 107) rfl), rfl⟩⟩⟩
theorem fpX7_114 (nm : String) : vi_Fp RX7 nm 114 5 1 := ⟨_, rfl, by decide, Or.inl ⟨rfl, Or.inr ⟨"SnapCluster", List.mem_filter.mpr ⟨vi_t2 (List.mem_of_getElem? (i := 107) rfl), rfl⟩⟩⟩⟩
theorem fX5_19 : vi_Fl RX5 19 5 2 := ⟨_, rfl, by decide, Or.inl (vi_mem (vi_m2 (List.mem_of_getElem? (i := 108) rfl)) rfl)⟩
theorem fpX5_19 (nm : String) : vi_Fp RX5 nm 19 5 2 := ⟨_, rfl, by decide, Or.inl ⟨rfl, Or.inl (vi_mem (vi_m2 (List.mem_of_getElem? (i := 108) rfl)) rfl)⟩⟩
theorem fX7_115 : vi_Fl RX7 115 5 2 := ⟨_, rfl, by decide, Or.inr ⟨"SnapCluster", List.mem_filter.mpr ⟨vi_t2 (List.mem_of_getElem? (i := 109) rfl), rfl⟩⟩⟩
theorem fpX7_115 (nm : String) : vi_Fp RX7 nm 115 5 2 := ⟨_, rfl, by decide, Or.inl ⟨rfl, Or.inr ⟨"SnapCluster", List.mem_filter.mpr ⟨vi_t2 (List.mem_of_getElem? (i := 109) rfl), rfl⟩⟩⟩⟩
theorem fX5_22 : vi_Fl RX5 22 5 3 := ⟨_, rfl, by decide, Or.inl (vi_mem (vi_m2 (List.mem_of_getElem? (i := 110) rfl)) rfl)⟩
theorem fpX5_22 (nm : String) : vi_Fp RX5 nm 22 5 3 := ⟨_, rfl, by decide, Or.inl ⟨rfl, Or.inl (vi_mem (vi_m2 (List.mem_of_getElem? (i := 110) rfl)) rfl)⟩⟩
theorem fX7_433 : vi_Fl RX7 433 5 3 := ⟨_, rfl, by decide, Or.inr ⟨"SnapCluster", List.mem_filter.mpr ⟨vi_t2 (List.mem_of_getElem? (i := 111) rfl), rfl⟩⟩⟩
theorem fpX7_433 (nm : String) : vi_Fp RX7 nm 433 5 3 := ⟨_, rfl, by decide, Or.inl ⟨rfl, Or.inr ⟨"SnapCluster", List.mem_filter.mpr ⟨vi_t2 (List.mem_of_getElem? (i := 111) rfl), rfl⟩⟩⟩⟩
theorem fX4_9 : vi_Fl RX4 9 4 0 := ⟨_, rfl, by decide, Or.inl (vi_mem (vi_m2 (List.mem_of_getElem? (i := 127) rfl)) rfl)⟩
theorem fpX4_9 (nm : String) : vi_Fp RX4 nm 9 4 0 := ⟨_, rfl, by decide, Or.inl ⟨rfl, Or.inl (vi_mem (vi_m2 (List.mem_of_getElem? (i := 127) rfl)) rfl)⟩⟩
theorem fX7_88 : vi_Fl RX7 88 4 0 := ⟨_, rfl, by decide, Or.inr ⟨"SnapCluster", List.mem_filter.mpr ⟨vi_t2 (List.mem_of_getElem? (i := 128) rfl), rfl⟩⟩⟩
theorem fpX7_88 (nm : String) : vi_Fp RX7 nm 88 4 0 := ⟨_, rfl, by decide, Or.inl ⟨rfl, Or.inr ⟨"SnapCluster", List.mem_filter.mpr ⟨vi_t2 (List.mem_of_getElem? (i := 128) rfl), rfl⟩⟩⟩⟩
theorem fX4_15 : vi_Fl RX4 15 4 1 := ⟨_, rfl, by decide, Or.inl (vi_mem (vi_m2 (List.mem_of_getElem? (i := 129) rfl)) rfl)⟩
theorem fpX4_15 (nm : String) : vi_Fp RX4 nm 15 4 1 := ⟨_, rfl, by decide, Or.inl ⟨rfl, Or.inl (vi_mem (vi_m2 (List.mem_of_getElem? (i := 129) rfl)) rfl)⟩⟩
theorem fX7_91 : vi_Fl RX7 91 4 1 := ⟨_, rfl, by decide, Or.inr ⟨"SnapCluster", List.mem_filter.mpr ⟨vi_t2 (List.mem_of_getElem? (i := 130) rfl), rfl⟩⟩⟩
theorem fpX7_91 (nm : String) : vi_Fp RX7 nm 91 4 1 := ⟨_, rfl, by decide, Or.inl ⟨rfl, Or.inr ⟨"SnapCluster", List.mem_filter.mpr ⟨vi_t2 (List.mem_of_getElem? (i := 130) rfl), rfl⟩⟩⟩⟩
theorem fX7_94 : vi_Fl RX7 94 4 2 := ⟨_, rfl, by decide, Or.inr ⟨"SnapCluster", List.mem_filter.mpr ⟨vi_t2 (List.mem_of_getElem? (i := 131) rfl), rfl⟩⟩⟩
theorem fpX7_94 (nm : String) : vi_Fp RX7 nm 94 4 2 := ⟨_, rfl, by decide, Or.inl ⟨rfl, Or.inr ⟨"SnapCluster", List.mem_filter.mpr ⟨vi_t2 (List.mem_of_getElem? (i := 131) rfl), rfl⟩⟩⟩⟩
theorem fX4_31 : vi_Fl RX4 31 4 2 := ⟨_, rfl, by decide, Or.inl (vi_mem (vi_m2 (List.mem_of_getElem? (i := 132) rfl)) rfl)⟩
theorem fpX4_31 (nm : String) : vi_Fp RX4 nm 31 4 2 := ⟨_, rfl, by decide, Or.inl ⟨rfl, Or.inl (vi_mem (vi_m2 (List.mem_of_getElem? (i := 132) rfl)) rfl)⟩⟩
theorem fX7_103 : vi_Fl RX7 103 4 3 := ⟨_, rfl, by decide, Or.inr ⟨"SnapCluster", List.mem_filter.mpr ⟨vi_t2 (List.mem_of_getElem? (i := 133) rfl), rfl⟩⟩⟩
theorem fpX7_103 (nm : String) : vi_Fp RX7 nm 103 4 3 := ⟨_, rfl, by decide, Or.inl ⟨rfl, Or.inr ⟨"SnapCluster", List.mem_filter.mpr ⟨vi_t2 (List.mem_of_getElem? (i := 133) rfl), rfl⟩⟩⟩⟩
theorem fX4_34 : vi_Fl RX4 34 4 3 := ⟨_, rfl, by decide, Or.inl (vi_mem (vi_m2 (List.mem_of_getElem? (i := 134) rfl)) rfl)⟩
theorem fpX4_34 (nm : String) : vi_Fp RX4 nm 34 4 3 := ⟨_, rfl, by decide, Or.inl ⟨rfl, Or.inl (vi_mem (vi_m2 (List.mem_of_getElem? (i := 134) rfl)) rfl)⟩⟩
theorem fX4_21 : vi_Fl RX4 21 4 4 := ⟨_, rfl, by decide, Or.inl (vi_mem (vi_m2 (List.mem_of_getElem? (i := 135) rfl)) rfl)⟩
theorem fpX4_21 (nm : String) : vi_Fp RX4 nm 21 4 4 := ⟨_, rfl, by decide, Or.inl ⟨rfl, Or.inl (vi_mem (vi_m2 (List.mem_of_getElem? (i := 135) rfl)) rfl)⟩⟩
theorem fX7_420 : vi_Fl RX7 420 4 4 := ⟨_, rfl, by decide, Or.inr ⟨"SnapCluster", List.mem_filter.mpr ⟨vi_t2 (List.mem_of_getElem? (i := 136) rfl), rfl⟩⟩⟩
theorem fpX7_420 (nm : String) : vi_Fp RX7 nm 420 4 4 := ⟨_, rfl, by decide, Or.inl ⟨rfl, Or.inr ⟨"SnapCluster", List.mem_filter.mpr ⟨vi_t2 (List.mem_of_getElem? (i := 136) rfl), rfl⟩⟩⟩⟩
theorem fX4_25 : vi_Fl RX4 25 4 5 := ⟨_, rfl, by decide, Or.inl (vi_mem (vi_m2 (List.mem_of_getElem? (i := 137) rfl)) rfl)⟩
theorem fpX4_25 (nm : String) : vi_Fp RX4 nm 25 4 5 := ⟨_, rfl, by decide, Or.inl ⟨rfl, Or.inl (vi_mem (vi_m2 (List.mem_of_getElem? (i := 137) rfl)) rfl)⟩⟩
theorem fX7_36 : vi_Fl RX7 36 7 0 := ⟨_, rfl, by decide, Or.inl (vi_mem (vi_m2 (List.mem_of_getElem? (i := 151) rfl)) rfl)⟩
theorem fpX7_36 : vi_Fp RX7 "<init>" 36 7 0 := ⟨_, rfl, by decide, Or.inr ⟨rfl, rfl, rfl, vi_mem (vi_m2 (List.mem_of_getElem? (i := 151) rfl)) rfl⟩⟩
theorem fX7_40 : vi_Fl RX7 40 7 1 := ⟨_, rfl, by decide, Or.inl (vi_mem (vi_m2 (List.mem_of_getElem? (i := 152) rfl)) rfl)⟩
theorem fpX7_40 : vi_Fp RX7 "<init>" 40 7 1 := ⟨_, rfl, by decide, Or.inr ⟨rfl, rfl, rfl, vi_mem (vi_m2 (List.mem_of_getElem? (i := 152) rfl)) rfl⟩⟩
theorem fX7_43 : vi_Fl RX7 43 7 2 := ⟨_, rfl, by decide, Or.inl (vi_mem (vi_m2 (List.mem_of_getElem? (i := 153) rfl)) rfl)⟩
theorem fpX7_43 : vi_Fp RX7 "<init>" 43 7 2 := ⟨_, rfl, by decide, Or.inr ⟨rfl, rfl, rfl, vi_mem (vi_m2 (List.mem_of_getElem? (i := 153) rfl)) rfl⟩⟩
theorem fX7_46 : vi_Fl RX7 46 7 3 := ⟨_, rfl, by decide, Or.inl (vi_mem (vi_m2 (List.mem_of_getElem? (i := 154) rfl)) rfl)⟩
theorem fpX7_46 : vi_Fp RX7 "<init>" 46 7 3 := ⟨_, rfl, by decide, Or.inr ⟨rfl, rfl, rfl, vi_mem (vi_m2 (List.mem_of_getElem? (i := 154) rfl)) rfl⟩⟩
theorem fX11_85 : vi_Fl RX11 85 7 3 := ⟨_, rfl, by decide, Or.inr ⟨"SnapCluster", List.mem_filter.mpr ⟨vi_t2 (List.mem_of_getElem? (i := 155) rfl), rfl⟩⟩⟩
theorem fX7_50 : vi_Fl RX7 50 7 4 := ⟨_, rfl, by decide, Or.inl (vi_mem (vi_m2 (List.mem_of_getElem? (i := 156) rfl)) rfl)⟩
theorem fpX7_50 : vi_Fp RX7 "<init>" 50 7 4 := ⟨_, rfl, by decide, Or.inr ⟨rfl, rfl, rfl, vi_mem (vi_m2 (List.mem_of_getElem? (i := 156) rfl)) rfl⟩⟩
theorem fX11_221 : vi_Fl RX11 221 7 4 := ⟨_, rfl, by decide, Or.inr ⟨"SnapCluster", List.mem_filter.mpr ⟨vi_t2 (List.mem_of_getElem? (i := 157) rfl), rfl⟩⟩⟩
theorem fX7_12 : vi_Fl RX7 12 7 5 := ⟨_, rfl, by decide, Or.inl (vi_mem (vi_m2 (List.mem_of_getElem? (i := 158) rfl)) rfl)⟩
theorem fpX7_12 : vi_Fp RX7 "<init>" 12 7 5 := ⟨_, rfl, by decide, Or.inr ⟨rfl, rfl, rfl, vi_mem (vi_m2 (List.mem_of_getElem? (i := 158) rfl)) rfl⟩⟩
theorem fX11_135 : vi_Fl RX11 135 7 5 := ⟨_, rfl, by decide, Or.inr ⟨"SnapCluster", List.mem_filter.mpr ⟨vi_t2 (List.mem_of_getElem? (i := 159) rfl), rfl⟩⟩⟩
theorem fX7_21 : vi_Fl RX7 21 7 6 := ⟨_, rfl, by decide, Or.inl (vi_mem (vi_m2 (List.mem_of_getElem? (i := 160) rfl)) rfl)⟩
theorem fpX7_21 : vi_Fp RX7 "<init>" 21 7 6 := ⟨_, rfl, by decide, Or.inr ⟨rfl, rfl, rfl, vi_mem (vi_m2 (List.mem_of_getElem? (i := 160) rfl)) rfl⟩⟩
theorem fX7_28 : vi_Fl RX7 28 7 7 := ⟨_, rfl, by decide, Or.inl (vi_mem (vi_m2 (List.mem_of_getElem? (i := 161) rfl)) rfl)⟩
theorem fpX7_28 : vi_Fp RX7 "<init>" 28 7 7 := ⟨_, rfl, by decide, Or.inr ⟨rfl, rfl, rfl, vi_mem (vi_m2 (List.mem_of_getElem? (i := 161) rfl)) rfl⟩⟩
theorem fX7_54 : vi_Fl RX7 54 7 8 := ⟨_, rfl, by decide, Or.inl (vi_mem (vi_m2 (List.mem_of_getElem? (i := 162) rfl)) rfl)⟩
theorem fpX7_54 (nm : String) : vi_Fp RX7 nm 54 7 8 := ⟨_, rfl, by decide, Or.inl ⟨rfl, Or.inl (vi_mem (vi_m2 (List.mem_of_getElem? (i := 162) rfl)) rfl)⟩⟩
theorem fX7_58 : vi_Fl RX7 58 7 9 := ⟨_, rfl, by decide, Or.inl (vi_mem (vi_m2 (List.mem_of_getElem? (i := 163) rfl)) rfl)⟩
theorem fpX7_58 (nm : String) : vi_Fp RX7 nm 58 7 9 := ⟨_, rfl, by decide, Or.inl ⟨rfl, Or.inl (vi_mem (vi_m2 (List.mem_of_getElem? (i := 163) rfl)) rfl)⟩⟩
theorem fX7_62 : vi_Fl RX7 62 7 10 := ⟨_, rfl, by decide, Or.inl (vi_mem (vi_m2 (List.mem_of_getElem? (i := 164) rfl)) rfl)⟩
theorem fpX7_62 (nm : String) : vi_Fp RX7 nm 62 7 10 := ⟨_, rfl, by decide, Or.inl ⟨rfl, Or.inl (vi_mem (vi_m2 (List.mem_of_getElem? (i := 164) rfl)) rfl)⟩⟩
theorem fX7_32 : vi_Fl RX7 32 7 11 := ⟨_, rfl, by decide, Or.inl (vi_mem (vi_m2 (List.mem_of_getElem? (i := 165) rfl)) rfl)⟩
theorem fpX7_32 (nm : String) : vi_Fp RX7 nm 32 7 11 := ⟨_, rfl, by decide, Or.inl ⟨rfl, Or.inl (vi_mem (vi_m2 (List.mem_of_getElem? (i := 165) rfl)) rfl)⟩⟩
theorem fX11_212 : vi_Fl RX11 212 7 11 := ⟨_, rfl, by decide, Or.inr ⟨"SnapCluster", List.mem_filter.mpr ⟨vi_t2 (List.mem_of_getElem? (i := 166) rfl), rfl⟩⟩⟩
theorem fpX11_212 (nm : String) : vi_Fp RX11 nm 212 7 11 := ⟨_, rfl, by decide, Or.inl ⟨rfl, Or.inr ⟨"SnapCluster", List.mem_filter.mpr ⟨vi_t2 (List.mem_of_getElem? (i := 166) rfl), rfl⟩⟩⟩⟩
theorem fX7_78 : vi_Fl RX7 78 7 12 := ⟨_, rfl, by decide, Or.inl (vi_mem (vi_m2 (List.mem_of_getElem? (i := 167) rfl)) rfl)⟩
theorem fpX7_78 (nm : String) : vi_Fp RX7 nm 78 7 12 := ⟨_, rfl, by decide, Or.inl ⟨rfl, Or.inl (vi_mem (vi_m2 (List.mem_of_getElem? (i := 167) rfl)) rfl)⟩⟩
theorem fX7_81 : vi_Fl RX7 81 7 13 := ⟨_, rfl, by decide, Or.inl (vi_mem (vi_m2 (List.mem_of_getElem? (i := 168) rfl)) rfl)⟩
theorem fpX7_81 (nm : String) : vi_Fp RX7 nm 81 7 13 := ⟨_, rfl, by decide, Or.inl ⟨rfl, Or.inl (vi_mem (vi_m2 (List.mem_of_getElem? (i := 168) rfl)) rfl)⟩⟩
theorem fX7_85 : vi_Fl RX7 85 7 14 := ⟨_, rfl, by decide, Or.inl (vi_mem (vi_m2 (List.mem_of_getElem? (i := 169) rfl)) rfl)⟩
theorem fpX7_85 (nm : String) : vi_Fp RX7 nm 85 7 14 := ⟨_, rfl, by decide, Or.inl ⟨rfl, Or.inl (vi_mem (vi_m2 (List.mem_of_getElem? (i := 169) rfl)) rfl)⟩⟩
theorem fX7_97 : vi_Fl RX7 97 7 15 := ⟨_, rfl, by decide, Or.inl (vi_mem (vi_m2 (List.mem_of_getElem? (i := 170) rfl)) rfl)⟩
theorem fpX7_97 (nm : String) : vi_Fp RX7 nm 97 7 15 := ⟨_, rfl, by decide, Or.inl ⟨rfl, Or.inl (vi_mem (vi_m2 (List.mem_of_getElem? (i := 170) rfl)) rfl)⟩⟩
theorem fX7_111 : vi_Fl RX7 111 7 16 := ⟨_, rfl, by decide, Or.inl (vi_mem (vi_m2 (List.mem_of_getElem? (i := 171) rfl)) rfl)⟩
theorem fpX7_111 (nm : String) : vi_Fp RX7 nm 111 7 16 := ⟨_, rfl, by decide, Or.inl ⟨rfl, Or.inl (vi_mem (vi_m2 (List.mem_of_getElem? (i := 171) rfl)) rfl)⟩⟩
theorem fX11_18 : vi_Fl RX11 18 11 0 := ⟨_, rfl, by decide, Or.inl (vi_mem (vi_m2 (List.mem_of_getElem? (i := 211) rfl)) rfl)⟩
theorem fpX11_18 : vi_Fp RX11 "<init>" 18 11 0 := ⟨_, rfl, by decide, Or.inr ⟨rfl, rfl, rfl, vi_mem (vi_m2 (List.mem_of_getElem? (i := 211) rfl)) rfl⟩⟩
theorem fX11_22 : vi_Fl RX11 22 11 1 := ⟨_, rfl, by decide, Or.inl (vi_mem (vi_m2 (List.mem_of_getElem? (i := 212) rfl)) rfl)⟩
theorem fpX11_22 : vi_Fp RX11 "<init>" 22 11 1 := ⟨_, rfl, by decide, Or.inr ⟨rfl, rfl, rfl, vi_mem (vi_m2 (List.mem_of_getElem? (i := 212) rfl)) rfl⟩⟩
theorem fX11_25 : vi_Fl RX11 25 11 2 := ⟨_, rfl, by decide, Or.inl (vi_mem (vi_m2 (List.mem_of_getElem? (i := 213) rfl)) rfl)⟩
theorem fpX11_25 : vi_Fp RX11 "<init>" 25 11 2 := ⟨_, rfl, by decide, Or.inr ⟨rfl, rfl, rfl, vi_mem (vi_m2 (List.mem_of_getElem? (i := 213) rfl)) rfl⟩⟩
theorem fX11_53 : vi_Fl RX11 53 11 3 := ⟨_, rfl, by decide, Or.inl (vi_mem (vi_m2 (List.mem_of_getElem? (i := 214) rfl)) rfl)⟩
theorem fpX11_53 : vi_Fp RX11 "<init>" 53 11 3 := ⟨_, rfl, by decide, Or.inr ⟨rfl, rfl, rfl, vi_mem (vi_m2 (List.mem_of_getElem? (i := 214) rfl)) rfl⟩⟩
theorem fX11_46 : vi_Fl RX11 46 11 4 := ⟨_, rfl, by decide, Or.inl (vi_mem (vi_m2 (List.mem_of_getElem? (i := 215) rfl)) rfl)⟩
theorem fpX11_46 : vi_Fp RX11 "<init>" 46 11 4 := ⟨_, rfl, by decide, Or.inr ⟨rfl, rfl, rfl, vi_mem (vi_m2 (List.mem_of_getElem? (i := 215) rfl)) rfl⟩⟩
theorem fX11_40 : vi_Fl RX11 40 11 5 := ⟨_, rfl, by decide, Or.inl (vi_mem (vi_m2 (List.mem_of_getElem? (i := 216) rfl)) rfl)⟩
theorem fpX11_40 : vi_Fp RX11 "<init>" 40 11 5 := ⟨_, rfl, by decide, Or.inr ⟨rfl, rfl, rfl, vi_mem (vi_m2 (List.mem_of_getElem? (i := 216) rfl)) rfl⟩⟩
theorem fX11_33 : vi_Fl RX11 33 11 6 := ⟨_, rfl, by decide, Or.inl (vi_mem (vi_m2 (List.mem_of_getElem? (i := 217) rfl)) rfl)⟩
theorem fpX11_33 : vi_Fp RX11 "<init>" 33 11 6 := ⟨_, rfl, by decide, Or.inr ⟨rfl, rfl, rfl, vi_mem (vi_m2 (List.mem_of_getElem? (i := 217) rfl)) rfl⟩⟩
theorem fX8_9 : vi_Fl RX8 9 8 0 := ⟨_, rfl, by decide, Or.inl (vi_mem (vi_m3 (List.mem_of_getElem? (i := 49) rfl)) rfl)⟩
theorem fpX8_9 : vi_Fp RX8 "<init>" 9 8 0 := ⟨_, rfl, by decide, Or.inr ⟨rfl, rfl, rfl, vi_mem (vi_m3 (List.mem_of_getElem? (i := 49) rfl)) rfl⟩⟩
theorem fX7_106 : vi_Fl RX7 106 8 0 := ⟨_, rfl, by decide, Or.inr ⟨"SnapCluster", List.mem_filter.mpr ⟨vi_t3 (List.mem_of_getElem? (i := 50) rfl), rfl⟩⟩⟩
theorem fX10_63 : vi_Fl RX10 63 8 0 := ⟨_, rfl, by decide, Or.inr ⟨"SnapCluster", List.mem_filter.mpr ⟨vi_t3 (List.mem_of_getElem? (i := 51) rfl), rfl⟩⟩⟩
theorem fX1_105 : vi_Fl RX1 105 8 0 := ⟨_, rfl, by decide, Or.inr ⟨"SnapCluster", List.mem_filter.mpr ⟨vi_t3 (List.mem_of_getElem? (i := 52) rfl), rfl⟩⟩⟩
theorem fX8_15 : vi_Fl RX8 15 8 1 := ⟨_, rfl, by decide, Or.inl (vi_mem (vi_m3 (List.mem_of_getElem? (i := 53) rfl)) rfl)⟩
theorem fpX8_15 : vi_Fp RX8 "<init>" 15 8 1 := ⟨_, rfl, by decide, Or.inr ⟨rfl, rfl, rfl, vi_mem (vi_m3 (List.mem_of_getElem? (i := 53) rfl)) rfl⟩⟩
theorem fX10_60 : vi_Fl RX10 60 8 1 := ⟨_, rfl, by decide, Or.inr ⟨"SnapCluster", List.mem_filter.mpr ⟨vi_t3 (List.mem_of_getElem? (i := 54) rfl), rfl⟩⟩⟩
theorem fX8_18 : vi_Fl RX8 18 8 2 := ⟨_, rfl, by decide, Or.inl (vi_mem (vi_m3 (List.mem_of_getElem? (i := 55) rfl)) rfl)⟩
theorem fpX8_18 : vi_Fp RX8 "<init>" 18 8 2 := ⟨_, rfl, by decide, Or.inr ⟨rfl, rfl, rfl, vi_mem (vi_m3 (List.mem_of_getElem? (i := 55) rfl)) rfl⟩⟩
theorem fX10_92 : vi_Fl RX10 92 8 2 := ⟨_, rfl, by decide, Or.inr ⟨"SnapCluster", List.mem_filter.mpr ⟨vi_t3 (List.mem_of_getElem? (i := 56) rfl), rfl⟩⟩⟩
theorem fX8_21 : vi_Fl RX8 21 8 3 := ⟨_, rfl, by decide, Or.inl (vi_mem (vi_m3 (List.mem_of_getElem? (i := 57) rfl)) rfl)⟩
theorem fpX8_21 : vi_Fp RX8 "<init>" 21 8 3 := ⟨_, rfl, by decide, Or.inr ⟨rfl, rfl, rfl, vi_mem (vi_m3 (List.mem_of_getElem? (i := 57) rfl)) rfl⟩⟩
theorem fX10_95 : vi_Fl RX10 95 8 3 := ⟨_, rfl, by decide, Or.inr ⟨"SnapCluster", List.mem_filter.mpr ⟨vi_t3 (List.mem_of_getElem? (i := 58) rfl), rfl⟩⟩⟩
theorem fX8_24 : vi_Fl RX8 24 8 4 := ⟨_, rfl, by decide, Or.inl (vi_mem (vi_m3 (List.mem_of_getElem? (i := 59) rfl)) rfl)⟩
theorem fpX8_24 : vi_Fp RX8 "<init>" 24 8 4 := ⟨_, rfl, by decide, Or.inr ⟨rfl, rfl, rfl, vi_mem (vi_m3 (List.mem_of_getElem? (i := 59) rfl)) rfl⟩⟩
theorem fX10_79 : vi_Fl RX10 79 8 4 := ⟨_, rfl, by decide, Or.inr ⟨"SnapCluster", List.mem_filter.mpr ⟨vi_t3 (List.mem_of_getElem? (i := 60) rfl), rfl⟩⟩⟩
theorem fX8_27 : vi_Fl RX8 27 8 5 := ⟨_, rfl, by decide, Or.inl (vi_mem (vi_m3 (List.mem_of_getElem? (i := 61) rfl)) rfl)⟩
theorem fpX8_27 : vi_Fp RX8 "<init>" 27 8 5 := ⟨_, rfl, by decide, Or.inr ⟨rfl, rfl, rfl, vi_mem (vi_m3 (List.mem_of_getElem? (i := 61) rfl)) rfl⟩⟩
theorem fX10_102 : vi_Fl RX10 102 8 5 := ⟨_, rfl, by decide, Or.inr ⟨"SnapCluster", List.mem_filter.mpr ⟨vi_t3 (List.mem_of_getElem? (i := 62) rfl), rfl⟩⟩⟩
theorem fX12_204 : vi_Fl RX12 204 12 0 := ⟨_, rfl, by decide, Or.inl (vi_mem (vi_m6 (List.mem_of_getElem? (i := 107) rfl)) rfl)⟩
theorem fpX12_204 (nm : String) : vi_Fp RX12 nm 204 12 0 := ⟨_, rfl, by decide, Or.inl ⟨rfl, Or.inl (vi_mem (vi_m6 (List.mem_of_getElem? (i := 107) rfl)) rfl)⟩⟩
theorem fX12_184 : vi_Fl RX12 184 12 1 := ⟨_, rfl, by decide, Or.inl (vi_mem (vi_m6 (List.mem_of_getElem? (i := 108) rfl)) rfl)⟩
theorem fpX12_184 : vi_Fp RX12 "<init>" 184 12 1 := ⟨_, rfl, by decide, Or.inr ⟨rfl, rfl, rfl, vi_mem (vi_m6 (List.mem_of_getElem? (i := 108) rfl)) rfl⟩⟩
theorem fX12_190 : vi_Fl RX12 190 12 2 := ⟨_, rfl, by decide, Or.inl (vi_mem (vi_m6 (List.mem_of_getElem? (i := 109) rfl)) rfl)⟩
theorem fpX12_190 : vi_Fp RX12 "<init>" 190 12 2 := ⟨_, rfl, by decide, Or.inr ⟨rfl, rfl, rfl, vi_mem (vi_m6 (List.mem_of_getElem? (i := 109) rfl)) rfl⟩⟩
theorem fX12_193 : vi_Fl RX12 193 12 3 := ⟨_, rfl, by decide, Or.inl (vi_mem (vi_m6 (List.mem_of_getElem? (i := 110) rfl)) rfl)⟩
theorem fpX12_193 : vi_Fp RX12 "<init>" 193 12 3 := ⟨_, rfl, by decide, Or.inr ⟨rfl, rfl, rfl, vi_mem (vi_m6 (List.mem_of_getElem? (i := 110) rfl)) rfl⟩⟩
theorem fX12_7 : vi_Fl RX12 7 12 4 := ⟨_, rfl, by decide, Or.inl (vi_mem (vi_m6 (List.mem_of_getElem? (i := 111) rfl)) rfl)⟩
theorem fpX12_7 (nm : String) : vi_Fp RX12 nm 7 12 4 := ⟨_, rfl, by decide, Or.inl ⟨rfl, Or.inl (vi_mem (vi_m6 (List.mem_of_getElem? (i := 111) rfl)) rfl)⟩⟩
theorem fX12_13 : vi_Fl RX12 13 12 5 := ⟨_, rfl, by decide, Or.inl (vi_mem (vi_m6 (List.mem_of_getElem? (i := 112) rfl)) rfl)⟩
theorem fpX12_13 : vi_Fp RX12 "<init>" 13 12 5 := ⟨_, rfl, by decide, Or.inr ⟨rfl, rfl, rfl, vi_mem (vi_m6 (List.mem_of_getElem? (i := 112) rfl)) rfl⟩⟩
theorem fX12_17 : vi_Fl RX12 17 12 6 := ⟨_, rfl, by decide, Or.inl (vi_mem (vi_m6 (List.mem_of_getElem? (i := 113) rfl)) rfl)⟩
theorem fpX12_17 : vi_Fp RX12 "<init>" 17 12 6 := ⟨_, rfl, by decide, Or.inr ⟨rfl, rfl, rfl, vi_mem (vi_m6 (List.mem_of_getElem? (i := 113) rfl)) rfl⟩⟩
theorem fX12_20 : vi_Fl RX12 20 12 7 := ⟨_, rfl, by decide, Or.inl (vi_mem (vi_m6 (List.mem_of_getElem? (i := 114) rfl)) rfl)⟩
theorem fpX12_20 : vi_Fp RX12 "<init>" 20 12 7 := ⟨_, rfl, by decide, Or.inr ⟨rfl, rfl, rfl, vi_mem (vi_m6 (List.mem_of_getElem? (i := 114) rfl)) rfl⟩⟩
theorem fX12_23 : vi_Fl RX12 23 12 8 := ⟨_, rfl, by decide, Or.inl (vi_mem (vi_m6 (List.mem_of_getElem? (i := 115) rfl)) rfl)⟩
theorem fpX12_23 : vi_Fp RX12 "<init>" 23 12 8 := ⟨_, rfl, by decide, Or.inr ⟨rfl, rfl, rfl, vi_mem (vi_m6 (List.mem_of_getElem? (i := 115) rfl)) rfl⟩⟩
theorem fX12_26 : vi_Fl RX12 26 12 9 := ⟨_, rfl, by decide, Or.inl (vi_mem (vi_m6 (List.mem_of_getElem? (i := 116) rfl)) rfl)⟩
theorem fpX12_26 : vi_Fp RX12 "<init>" 26 12 9 := ⟨_, rfl, by decide, Or.inr ⟨rfl, rfl, rfl, vi_mem (vi_m6 (List.mem_of_getElem? (i := 116) rfl)) rfl⟩⟩
theorem fX12_30 : vi_Fl RX12 30 12 10 := ⟨_, rfl, by decide, Or.inl (vi_mem (vi_m6 (List.mem_of_getElem? (i := 117) rfl)) rfl)⟩
theorem fpX12_30 : vi_Fp RX12 "<init>" 30 12 10 := ⟨_, rfl, by decide, Or.inr ⟨rfl, rfl, rfl, vi_mem (vi_m6 (List.mem_of_getElem? (i := 117) rfl)) rfl⟩⟩
theorem fX12_187 : vi_Fl RX12 187 12 11 := ⟨_, rfl, by decide, Or.inl (vi_mem (vi_m6 (List.mem_of_getElem? (i := 118) rfl)) rfl)⟩
theorem fpX12_187 : vi_Fp RX12 "<init>" 187 12 11 := ⟨_, rfl, by decide, Or.inr ⟨rfl, rfl, rfl, vi_mem (vi_m6 (List.mem_of_getElem? (i := 118) rfl)) rfl⟩⟩
theorem fX12_33 : vi_Fl RX12 33 12 12 := ⟨_, rfl, by decide, Or.inl (vi_mem (vi_m6 (List.mem_of_getElem? (i := 119) rfl)) rfl)⟩
theorem fpX12_33 : vi_Fp RX12 "<init>" 33 12 12 := ⟨_, rfl, by decide, Or.inr ⟨rfl, rfl, rfl, vi_mem (vi_m6 (List.mem_of_getElem? (i := 119) rfl)) rfl⟩⟩
theorem fX12_37 : vi_Fl RX12 37 12 13 := ⟨_, rfl, by decide, Or.inl (vi_mem (vi_m6 (List.mem_of_getElem? (i := 120) rfl)) rfl)⟩
theorem fpX12_37 : vi_Fp RX12 "<init>" 37 12 13 := ⟨_, rfl, by decide, Or.inr ⟨rfl, rfl, rfl, vi_mem (vi_m6 (List.mem_of_getElem? (i := 120) rfl)) rfl⟩⟩
theorem fX12_40 : vi_Fl RX12 40 12 14 := ⟨_, rfl, by decide, Or.inl (vi_mem (vi_m6 (List.mem_of_getElem? (i := 121) rfl)) rfl)⟩
theorem fpX12_40 : vi_Fp RX12 "<init>" 40 12 14 := ⟨_, rfl, by decide, Or.inr ⟨rfl, rfl, rfl, vi_mem (vi_m6 (List.mem_of_getElem? (i := 121) rfl)) rfl⟩⟩
theorem fX12_43 : vi_Fl RX12 43 12 15 := ⟨_, rfl, by decide, Or.inl (vi_mem (vi_m6 (List.mem_of_getElem? (i := 122) rfl)) rfl)⟩
theorem fpX12_43 : vi_Fp RX12 "<init>" 43 12 15 := ⟨_, rfl, by decide, Or.inr ⟨rfl, rfl, rfl, vi_mem (vi_m6 (List.mem_of_getElem? (i := 122) rfl)) rfl⟩⟩
theorem fX12_46 : vi_Fl RX12 46 12 16 := ⟨_, rfl, by decide, Or.inl (vi_mem (vi_m6 (List.mem_of_getElem? (i := 123) rfl)) rfl)⟩
theorem fpX12_46 : vi_Fp RX12 "<init>" 46 12 16 := ⟨_, rfl, by decide, Or.inr ⟨rfl, rfl, rfl, vi_mem (vi_m6 (List.mem_of_getElem? (i := 123) rfl)) rfl⟩⟩
theorem fX12_49 : vi_Fl RX12 49 12 17 := ⟨_, rfl, by decide, Or.inl (vi_mem (vi_m6 (List.mem_of_getElem? (i := 124) rfl)) rfl)⟩
theorem fpX12_49 : vi_Fp RX12 "<init>" 49 12 17 := ⟨_, rfl, by decide, Or.inr ⟨rfl, rfl, rfl, vi_mem (vi_m6 (List.mem_of_getElem? (i := 124) rfl)) rfl⟩⟩
theorem fX12_52 : vi_Fl RX12 52 12 18 := ⟨_, rfl, by decide, Or.inl (vi_mem (vi_m6 (List.mem_of_getElem? (i := 125) rfl)) rfl)⟩
theorem fpX12_52 : vi_Fp RX12 "<init>" 52 12 18 := ⟨_, rfl, by decide, Or.inr ⟨rfl, rfl, rfl, vi_mem (vi_m6 (List.mem_of_getElem? (i := 125) rfl)) rfl⟩⟩
theorem fX12_55 : vi_Fl RX12 55 12 19 := ⟨_, rfl, by decide, Or.inl (vi_mem (vi_m6 (List.mem_of_getElem? (i := 126) rfl)) rfl)⟩
theorem fpX12_55 : vi_Fp RX12 "<init>" 55 12 19 := ⟨_, rfl, by decide, Or.inr ⟨rfl, rfl, rfl, vi_mem (vi_m6 (List.mem_of_getElem? (i := 126) rfl)) rfl⟩⟩
theorem fX12_58 : vi_Fl RX12 58 12 20 := ⟨_, rfl, by decide, Or.inl (vi_mem (vi_m6 (List.mem_of_getElem? (i := 127) rfl)) rfl)⟩
theorem fpX12_58 : vi_Fp RX12 "<init>" 58 12 20 := ⟨_, rfl, by decide, Or.inr ⟨rfl, rfl, rfl, vi_mem (vi_m6 (List.mem_of_getElem? (i := 127) rfl)) rfl⟩⟩
theorem fX12_61 : vi_Fl RX12 61 12 21 := ⟨_, rfl, by decide, Or.inl (vi_mem (vi_m6 (List.mem_of_getElem? (i := 128) rfl)) rfl)⟩
theorem fpX12_61 : vi_Fp RX12 "<init>" 61 12 21 := ⟨_, rfl, by decide, Or.inr ⟨rfl, rfl, rfl, vi_mem (vi_m6 (List.mem_of_getElem? (i := 128) rfl)) rfl⟩⟩
theorem fX12_64 : vi_Fl RX12 64 12 22 := ⟨_, rfl, by decide, Or.inl (vi_mem (vi_m6 (List.mem_of_getElem? (i := 129) rfl)) rfl)⟩
theorem fpX12_64 : vi_Fp RX12 "<init>" 64 12 22 := ⟨_, rfl, by decide, Or.inr ⟨rfl, rfl, rfl, vi_mem (vi_m6 (List.mem_of_getElem? (i := 129) rfl)) rfl⟩⟩
theorem fX12_67 : vi_Fl RX12 67 12 23 := ⟨_, rfl, by decide, Or.inl (vi_mem (vi_m6 (List.mem_of_getElem? (i := 130) rfl)) rfl)⟩
theorem fpX12_67 : vi_Fp RX12 "<init>" 67 12 23 := ⟨_, rfl, by decide, Or.inr ⟨rfl, rfl, rfl, vi_mem (vi_m6 (List.mem_of_getElem? (i := 130) rfl)) rfl⟩⟩
theorem fX12_70 : vi_Fl RX12 70 12 24 := ⟨_, rfl, by decide, Or.inl (vi_mem (vi_m6 (List.mem_of_getElem? (i := 131) rfl)) rfl)⟩
theorem fpX12_70 : vi_Fp RX12 "<init>" 70 12 24 := ⟨_, rfl, by decide, Or.inr ⟨rfl, rfl, rfl, vi_mem (vi_m6 (List.mem_of_getElem? (i := 131) rfl)) rfl⟩⟩
theorem fX12_73 : vi_Fl RX12 73 12 25 := ⟨_, rfl, by decide, Or.inl (vi_mem (vi_m6 (List.mem_of_getElem? (i := 132) rfl)) rfl)⟩
theorem fpX12_73 : vi_Fp RX12 "<init>" 73 12 25 := ⟨_, rfl, by decide, Or.inr ⟨rfl, rfl, rfl, vi_mem (vi_m6 (List.mem_of_getElem? (i := 132) rfl)) rfl⟩⟩
theorem fX12_76 : vi_Fl RX12 76 12 26 := ⟨_, rfl, by decide, Or.inl (vi_mem (vi_m6 (List.mem_of_getElem? (i := 133) rfl)) rfl)⟩
theorem fpX12_76 : vi_Fp RX12 "<init>" 76 12 26 := ⟨_, rfl, by decide, Or.inr ⟨rfl, rfl, rfl, vi_mem (vi_m6 (List.mem_of_getElem? (i := 133) rfl)) rfl⟩⟩
theorem fX12_79 : vi_Fl RX12 79 12 27 := ⟨_, rfl, by decide, Or.inl (vi_mem (vi_m6 (List.mem_of_getElem? (i := 134) rfl)) rfl)⟩
theorem fpX12_79 : vi_Fp RX12 "<init>" 79 12 27 := ⟨_, rfl, by decide, Or.inr ⟨rfl, rfl, rfl, vi_mem (vi_m6 (List.mem_of_getElem? (i := 134) rfl)) rfl⟩⟩
theorem fX12_82 : vi_Fl RX12 82 12 28 := ⟨_, rfl, by decide, Or.inl (vi_mem (vi_m6 (List.mem_of_getElem? (i := 135) rfl)) rfl)⟩
theorem fpX12_82 : vi_Fp RX12 "<init>" 82 12 28 := ⟨_, rfl, by decide, Or.inr ⟨rfl, rfl, rfl, vi_mem (vi_m6 (List.mem_of_getElem? (i := 135) rfl)) rfl⟩⟩
theorem fX12_85 : vi_Fl RX12 85 12 29 := ⟨_, rfl, by decide, Or.inl (vi_mem (vi_m6 (List.mem_of_getElem? (i := 136) rfl)) rfl)⟩
theorem fpX12_85 : vi_Fp RX12 "<init>" 85 12 29 := ⟨_, rfl, by decide, Or.inr ⟨rfl, rfl, rfl, vi_mem (vi_m6 (List.mem_of_getElem? (i := 136) rfl)) rfl⟩⟩
theorem fX12_88 : vi_Fl RX12 88 12 30 := ⟨_, rfl, by decide, Or.inl (vi_mem (vi_m6 (List.mem_of_getElem? (i := 137) rfl)) rfl)⟩
theorem fpX12_88 : vi_Fp RX12 "<init>" 88 12 30 := ⟨_, rfl, by decide, Or.inr ⟨rfl, rfl, rfl, vi_mem (vi_m6 (List.mem_of_getElem? (i := 137) rfl)) rfl⟩⟩
theorem fX12_91 : vi_Fl RX12 91 12 31 := ⟨_, rfl, by decide, Or.inl (vi_mem (vi_m6 (List.mem_of_getElem? (i := 138) rfl)) rfl)⟩
theorem fpX12_91 : vi_Fp RX12 "<init>" 91 12 31 := ⟨_, rfl, by decide, Or.inr ⟨rfl, rfl, rfl, vi_mem (vi_m6 (List.mem_of_getElem? (i := 138) rfl)) rfl⟩⟩
theorem fX12_94 : vi_Fl RX12 94 12 32 := ⟨_, rfl, by decide, Or.inl (vi_mem (vi_m6 (List.mem_of_getElem? (i := 139) rfl)) rfl)⟩
theorem fpX12_94 : vi_Fp RX12 "<init>" 94 12 32 := ⟨_, rfl, by decide, Or.inr ⟨rfl, rfl, rfl, vi_mem (vi_m6 (List.mem_of_getElem? (i := 139) rfl)) rfl⟩⟩
theorem fX12_97 : vi_Fl RX12 97 12 33 := ⟨_, rfl, by decide, Or.inl (vi_mem (vi_m6 (List.mem_of_getElem? (i := 140) rfl)) rfl)⟩
theorem fpX12_97 : vi_Fp RX12 "<init>" 97 12 33 := ⟨_, rfl, by decide, Or.inr ⟨rfl, rfl, rfl, vi_mem (vi_m6 (List.mem_of_getElem? (i := 140) rfl)) rfl⟩⟩
theorem fX12_100 : vi_Fl RX12 100 12 34 := ⟨_, rfl, by decide, Or.inl (vi_mem (vi_m6 (List.mem_of_getElem? (i := 141) rfl)) rfl)⟩
theorem fpX12_100 : vi_Fp RX12 "<init>" 100 12 34 := ⟨_, rfl, by decide, Or.inr ⟨rfl, rfl, rfl, vi_mem (vi_m6 (List.mem_of_getElem? (i := 141) rfl)) rfl⟩⟩
theorem fX12_104 : vi_Fl RX12 104 12 35 := ⟨_, rfl, by decide, Or.inl (vi_mem (vi_m6 (List.mem_of_getElem? (i := 142) rfl)) rfl)⟩
theorem fpX12_104 : vi_Fp RX12 "<init>" 104 12 35 := ⟨_, rfl, by decide, Or.inr ⟨rfl, rfl, rfl, vi_mem (vi_m6 (List.mem_of_getElem? (i := 142) rfl)) rfl⟩⟩
theorem fX12_107 : vi_Fl RX12 107 12 36 := ⟨_, rfl, by decide, Or.inl (vi_mem (vi_m6 (List.mem_of_getElem? (i := 143) rfl)) rfl)⟩
theorem fpX12_107 : vi_Fp RX12 "<init>" 107 12 36 := ⟨_, rfl, by decide, Or.inr ⟨rfl, rfl, rfl, vi_mem (vi_m6 (List.mem_of_getElem? (i := 143) rfl)) rfl⟩⟩
theorem fX12_110 : vi_Fl RX12 110 12 37 := ⟨_, rfl, by decide, Or.inl (vi_mem (vi_m6 (List.mem_of_getElem? (i := 144) rfl)) rfl)⟩
theorem fpX12_110 : vi_Fp RX12 "<init>" 110 12 37 := ⟨_, rfl, by decide, Or.inr ⟨rfl, rfl, rfl, vi_mem (vi_m6 (List.mem_of_getElem? (i := 144) rfl)) rfl⟩⟩
theorem fX12_113 : vi_Fl RX12 113 12 38 := ⟨_, rfl, by decide, Or.inl (vi_mem (vi_m6 (List.mem_of_getElem? (i := 145) rfl)) rfl)⟩
theorem fpX12_113 : vi_Fp RX12 "<init>" 113 12 38 := ⟨_, rfl, by decide, Or.inr ⟨rfl, rfl, rfl, vi_mem (vi_m6 (List.mem_of_getElem? (i := 145) rfl)) rfl⟩⟩
theorem fX12_116 : vi_Fl RX12 116 12 39 := ⟨_, rfl, by decide, Or.inl (vi_mem (vi_m6 (List.mem_of_getElem? (i := 146) rfl)) rfl)⟩
theorem fpX12_116 : vi_Fp RX12 "<init>" 116 12 39 := ⟨_, rfl, by decide, Or.inr ⟨rfl, rfl, rfl, vi_mem (vi_m6 (List.mem_of_getElem? (i := 146) rfl)) rfl⟩⟩
theorem fX12_119 : vi_Fl RX12 119 12 40 := ⟨_, rfl, by decide, Or.inl (vi_mem (vi_m6 (List.mem_of_getElem? (i := 147) rfl)) rfl)⟩
theorem fpX12_119 : vi_Fp RX12 "<init>" 119 12 40 := ⟨_, rfl, by decide, Or.inr ⟨rfl, rfl, rfl, vi_mem (vi_m6 (List.mem_of_getElem? (i := 147) rfl)) rfl⟩⟩
theorem fX12_122 : vi_Fl RX12 122 12 41 := ⟨_, rfl, by decide, Or.inl (vi_mem (vi_m6 (List.mem_of_getElem? (i := 148) rfl)) rfl)⟩
theorem fpX12_122 : vi_Fp RX12 "<init>" 122 12 41 := ⟨_, rfl, by decide, Or.inr ⟨rfl, rfl, rfl, vi_mem (vi_m6 (List.mem_of_getElem? (i := 148) rfl)) rfl⟩⟩
theorem fX12_126 : vi_Fl RX12 126 12 42 := ⟨_, rfl, by decide, Or.inl (vi_mem (vi_m6 (List.mem_of_getElem? (i := 149) rfl)) rfl)⟩
theorem fpX12_126 : vi_Fp RX12 "<init>" 126 12 42 := ⟨_, rfl, by decide, Or.inr ⟨rfl, rfl, rfl, vi_mem (vi_m6 (List.mem_of_getElem? (i := 149) rfl)) rfl⟩⟩
theorem fX12_130 : vi_Fl RX12 130 12 43 := ⟨_, rfl, by decide, Or.inl (vi_mem (vi_m6 (List.mem_of_getElem? (i := 150) rfl)) rfl)⟩
theorem fpX12_130 : vi_Fp RX12 "<init>" 130 12 43 := ⟨_, rfl, by decide, Or.inr ⟨rfl, rfl, rfl, vi_mem (vi_m6 (List.mem_of_getElem? (i := 150) rfl)) rfl⟩⟩
theorem fX12_133 : vi_Fl RX12 133 12 44 := ⟨_, rfl, by decide, Or.inl (vi_mem (vi_m6 (List.mem_of_getElem? (i := 151) rfl)) rfl)⟩
theorem fpX12_133 : vi_Fp RX12 "<init>" 133 12 44 := ⟨_, rfl, by decide, Or.inr ⟨rfl, rfl, rfl, vi_mem (vi_m6 (List.mem_of_getElem? (i := 151) rfl)) rfl⟩⟩
theorem fX12_218 : vi_Fl RX12 218 12 45 := ⟨_, rfl, by decide, Or.inl (vi_mem (vi_m6 (List.mem_of_getElem? (i := 152) rfl)) rfl)⟩
theorem fpX12_218 (nm : String) : vi_Fp RX12 nm 218 12 45 := ⟨_, rfl, by decide, Or.inl ⟨rfl, Or.inl (vi_mem (vi_m6 (List.mem_of_getElem? (i := 152) rfl)) rfl)⟩⟩
theorem fX12_136 : vi_Fl RX12 136 12 46 := ⟨_, rfl, by decide, Or.inl (vi_mem (vi_m6 (List.mem_of_getElem? (i := 153) rfl)) rfl)⟩
theorem fpX12_136 : vi_Fp RX12 "<init>" 136 12 46 := ⟨_, rfl, by decide, Or.inr ⟨rfl, rfl, rfl, vi_mem (vi_m6 (List.mem_of_getElem? (i := 153) rfl)) rfl⟩⟩
theorem fX12_139 : vi_Fl RX12 139 12 47 := ⟨_, rfl, by decide, Or.inl (vi_mem (vi_m6 (List.mem_of_getElem? (i := 154) rfl)) rfl)⟩
theorem fpX12_139 : vi_Fp RX12 "<init>" 139 12 47 := ⟨_, rfl, by decide, Or.inr ⟨rfl, rfl, rfl, vi_mem (vi_m6 (List.mem_of_getElem? (i := 154) rfl)) rfl⟩⟩
theorem fX12_142 : vi_Fl RX12 142 12 48 := ⟨_, rfl, by decide, Or.inl (vi_mem (vi_m6 (List.mem_of_getElem? (i := 155) rfl)) rfl)⟩
theorem fpX12_142 : vi_Fp RX12 "<init>" 142 12 48 := ⟨_, rfl, by decide, Or.inr ⟨rfl, rfl, rfl, vi_mem (vi_m6 (List.mem_of_getElem? (i := 155) rfl)) rfl⟩⟩
theorem fX12_145 : vi_Fl RX12 145 12 49 := ⟨_, rfl, by decide, Or.inl (vi_mem (vi_m6 (List.mem_of_getElem? (i := 156) rfl)) rfl)⟩
theorem fpX12_145 : vi_Fp RX12 "<init>" 145 12 49 := ⟨_, rfl, by decide, Or.inr ⟨rfl, rfl, rfl, vi_mem (vi_m6 (List.mem_of_getElem? (i := 156) rfl)) rfl⟩⟩
theorem fX12_296 : vi_Fl RX12 296 12 50 := ⟨_, rfl, by decide, Or.inl (vi_mem (vi_m6 (List.mem_of_getElem? (i := 157) rfl)) rfl)⟩
theorem fpX12_296 (nm : String) : vi_Fp RX12 nm 296 12 50 := ⟨_, rfl, by decide, Or.inl ⟨rfl, Or.inl (vi_mem (vi_m6 (List.mem_of_getElem? (i := 157) rfl)) rfl)⟩⟩
theorem fX12_148 : vi_Fl RX12 148 12 51 := ⟨_, rfl, by decide, Or.inl (vi_mem (vi_m6 (List.mem_of_getElem? (i := 158) rfl)) rfl)⟩
theorem fpX12_148 : vi_Fp RX12 "<init>" 148 12 51 := ⟨_, rfl, by decide, Or.inr ⟨rfl, rfl, rfl, vi_mem (vi_m6 (List.mem_of_getElem? (i := 158) rfl)) rfl⟩⟩
theorem fX12_151 : vi_Fl RX12 151 12 52 := ⟨_, rfl, by decide, Or.inl (vi_mem (vi_m6 (List.mem_of_getElem? (i := 159) rfl)) rfl)⟩
theorem fpX12_151 : vi_Fp RX12 "<init>" 151 12 52 := ⟨_, rfl, by decide, Or.inr ⟨rfl, rfl, rfl, vi_mem (vi_m6 (List.mem_of_getElem? (i := 159) rfl)) rfl⟩⟩
theorem fX12_290 : vi_Fl RX12 290 12 53 := ⟨_, rfl, by decide, Or.inl (vi_mem (vi_m6 (List.mem_of_getElem? (i := 160) rfl)) rfl)⟩
theorem fpX12_290 (nm : String) : vi_Fp RX12 nm 290 12 53 := ⟨_, rfl, by decide, Or.inl ⟨rfl, Or.inl (vi_mem (vi_m6 (List.mem_of_getElem? (i := 160) rfl)) rfl)⟩⟩
theorem fX12_287 : vi_Fl RX12 287 12 54 := ⟨_, rfl, by decide, Or.inl (vi_mem (vi_m6 (List.mem_of_getElem? (i := 161) rfl)) rfl)⟩
theorem fpX12_287 (nm : String) : vi_Fp RX12 nm 287 12 54 := ⟨_, rfl, by decide, Or.inl ⟨rfl, Or.inl (vi_mem (vi_m6 (List.mem_of_getElem? (i := 161) rfl)) rfl)⟩⟩
theorem fX12_293 : vi_Fl RX12 293 12 55 := ⟨_, rfl, by decide, Or.inl (vi_mem (vi_m6 (List.mem_of_getElem? (i := 162) rfl)) rfl)⟩
theorem fpX12_293 (nm : String) : vi_Fp RX12 nm 293 12 55 := ⟨_, rfl, by decide, Or.inl ⟨rfl, Or.inl (vi_mem (vi_m6 (List.mem_of_getElem? (i := 162) rfl)) rfl)⟩⟩
theorem fX12_385 : vi_Fl RX12 385 12 56 := ⟨_, rfl, by decide, Or.inl (vi_mem (vi_m6 (List.mem_of_getElem? (i := 163) rfl)) rfl)⟩
theorem fpX12_385 (nm : String) : vi_Fp RX12 nm 385 12 56 := ⟨_, rfl, by decide, Or.inl ⟨rfl, Or.inl (vi_mem (vi_m6 (List.mem_of_getElem? (i := 163) rfl)) rfl)⟩⟩
theorem fX12_154 : vi_Fl RX12 154 12 57 := ⟨_, rfl, by decide, Or.inl (vi_mem (vi_m6 (List.mem_of_getElem? (i := 164) rfl)) rfl)⟩
theorem fpX12_154 : vi_Fp RX12 "<init>" 154 12 57 := ⟨_, rfl, by decide, Or.inr ⟨rfl, rfl, rfl, vi_mem (vi_m6 (List.mem_of_getElem? (i := 164) rfl)) rfl⟩⟩
theorem fX12_358 : vi_Fl RX12 358 12 58 := ⟨_, rfl, by decide, Or.inl (vi_mem (vi_m6 (List.mem_of_getElem? (i := 165) rfl)) rfl)⟩
theorem fpX12_358 (nm : String) : vi_Fp RX12 nm 358 12 58 := ⟨_, rfl, by decide, Or.inl ⟨rfl, Or.inl (vi_mem (vi_m6 (List.mem_of_getElem? (i := 165) rfl)) rfl)⟩⟩
theorem fX12_157 : vi_Fl RX12 157 12 59 := ⟨_, rfl, by decide, Or.inl (vi_mem (vi_m6 (List.mem_of_getElem? (i := 166) rfl)) rfl)⟩
theorem fpX12_157 : vi_Fp RX12 "<init>" 157 12 59 := ⟨_, rfl, by decide, Or.inr ⟨rfl, rfl, rfl, vi_mem (vi_m6 (List.mem_of_getElem? (i := 166) rfl)) rfl⟩⟩
theorem fX12_160 : vi_Fl RX12 160 12 60 := ⟨_, rfl, by decide, Or.inl (vi_mem (vi_m6 (List.mem_of_getElem? (i := 167) rfl)) rfl)⟩
theorem fpX12_160 : vi_Fp RX12 "<init>" 160 12 60 := ⟨_, rfl, by decide, Or.inr ⟨rfl, rfl, rfl, vi_mem (vi_m6 (List.mem_of_getElem? (i := 167) rfl)) rfl⟩⟩
theorem fX12_163 : vi_Fl RX12 163 12 61 := ⟨_, rfl, by decide, Or.inl (vi_mem (vi_m6 (List.mem_of_getElem? (i := 168) rfl)) rfl)⟩
theorem fpX12_163 : vi_Fp RX12 "<init>" 163 12 61 := ⟨_, rfl, by decide, Or.inr ⟨rfl, rfl, rfl, vi_mem (vi_m6 (List.mem_of_getElem? (i := 168) rfl)) rfl⟩⟩
theorem fX12_166 : vi_Fl RX12 166 12 62 := ⟨_, rfl, by decide, Or.inl (vi_mem (vi_m6 (List.mem_of_getElem? (i := 169) rfl)) rfl)⟩
theorem fpX12_166 : vi_Fp RX12 "<init>" 166 12 62 := ⟨_, rfl, by decide, Or.inr ⟨rfl, rfl, rfl, vi_mem (vi_m6 (List.mem_of_getElem? (i := 169) rfl)) rfl⟩⟩
theorem fX12_169 : vi_Fl RX12 169 12 63 := ⟨_, rfl, by decide, Or.inl (vi_mem (vi_m6 (List.mem_of_getElem? (i := 170) rfl)) rfl)⟩
theorem fpX12_169 : vi_Fp RX12 "<init>" 169 12 63 := ⟨_, rfl, by decide, Or.inr ⟨rfl, rfl, rfl, vi_mem (vi_m6 (List.mem_of_getElem? (i := 170) rfl)) rfl⟩⟩
theorem fX12_172 : vi_Fl RX12 172 12 64 := ⟨_, rfl, by decide, Or.inl (vi_mem (vi_m6 (List.mem_of_getElem? (i := 171) rfl)) rfl)⟩
theorem fpX12_172 : vi_Fp RX12 "<init>" 172 12 64 := ⟨_, rfl, by decide, Or.inr ⟨rfl, rfl, rfl, vi_mem (vi_m6 (List.mem_of_getElem? (i := 171) rfl)) rfl⟩⟩
theorem fX12_175 : vi_Fl RX12 175 12 65 := ⟨_, rfl, by decide, Or.inl (vi_mem (vi_m6 (List.mem_of_getElem? (i := 172) rfl)) rfl)⟩
theorem fpX12_175 : vi_Fp RX12 "<init>" 175 12 65 := ⟨_, rfl, by decide, Or.inr ⟨rfl, rfl, rfl, vi_mem (vi_m6 (List.mem_of_getElem? (i := 172) rfl)) rfl⟩⟩
theorem fX12_178 : vi_Fl RX12 178 12 66 := ⟨_, rfl, by decide, Or.inl (vi_mem (vi_m6 (List.mem_of_getElem? (i := 173) rfl)) rfl)⟩
theorem fpX12_178 : vi_Fp RX12 "<init>" 178 12 66 := ⟨_, rfl, by decide, Or.inr ⟨rfl, rfl, rfl, vi_mem (vi_m6 (List.mem_of_getElem? (i := 173) rfl)) rfl⟩⟩
theorem fX12_181 : vi_Fl RX12 181 12 67 := ⟨_, rfl, by decide, Or.inl (vi_mem (vi_m6 (List.mem_of_getElem? (i := 174) rfl)) rfl)⟩
theorem fpX12_181 : vi_Fp RX12 "<init>" 181 12 67 := ⟨_, rfl, by decide, Or.inr ⟨rfl, rfl, rfl, vi_mem (vi_m6 (List.mem_of_getElem? (i := 174) rfl)) rfl⟩⟩
theorem coX0_init : Cond.code yX0_init cX0_init 2 none ∈ vi_tb := vi_mem (vi_m1 (List.mem_of_getElem? (i := 41) rfl)) rfl
theorem iiX0_init : yX0_init.name = "<init>" ∧ Cond.instanceMethod yX0_init ∈ vi_tb := ⟨rfl, vi_mem (vi_m1 (List.mem_of_getElem? (i := 40) rfl)) rfl⟩
theorem coX0_clear : Cond.code yX0_clear cX0_clear 1 none ∈ vi_tb := vi_mem (vi_m2 (List.mem_of_getElem? (i := 10) rfl)) rfl
theorem imX0_clear : Cond.instanceMethod yX0_clear ∈ vi_tb ∧ Cond.selects yX0_clear.cls yX0_clear yX0_clear ∈ vi_tb := ⟨vi_mem (vi_m2 (List.mem_of_getElem? (i := 8) rfl)) rfl, vi_mem (vi_m2 (List.mem_of_getElem? (i := 9) rfl)) rfl⟩
theorem coX0_put : Cond.code yX0_put cX0_put 2 none ∈ vi_tb := vi_mem (vi_m2 (List.mem_of_getElem? (i := 14) rfl)) rfl
theorem imX0_put : Cond.instanceMethod yX0_put ∈ vi_tb ∧ Cond.selects yX0_put.cls yX0_put yX0_put ∈ vi_tb := ⟨vi_mem (vi_m2 (List.mem_of_getElem? (i := 12) rfl)) rfl, vi_mem (vi_m2 (List.mem_of_getElem? (i := 13) rfl)) rfl⟩
theorem coX0_putU : Cond.code yX0_putU cX0_putU 4 none ∈ vi_tb := vi_mem (vi_m3 (List.mem_of_getElem? (i := 134) rfl)) rfl
theorem imX0_putU : Cond.instanceMethod yX0_putU ∈ vi_tb ∧ Cond.selects yX0_putU.cls yX0_putU yX0_putU ∈ vi_tb := ⟨vi_mem (vi_m3 (List.mem_of_getElem? (i := 132) rfl)) rfl, vi_mem (vi_m3 (List.mem_of_getElem? (i := 133) rfl)) rfl⟩
theorem coX0_putTwo : Cond.code yX0_putTwo cX0_putTwo 2 none ∈ vi_tb := vi_mem (vi_m3 (List.mem_of_getElem? (i := 144) rfl)) rfl
theorem imX0_putTwo : Cond.instanceMethod yX0_putTwo ∈ vi_tb ∧ Cond.selects yX0_putTwo.cls yX0_putTwo yX0_putTwo ∈ vi_tb := ⟨vi_mem (vi_m3 (List.mem_of_getElem? (i := 142) rfl)) rfl, vi_mem (vi_m3 (List.mem_of_getElem? (i := 143) rfl)) rfl⟩
theorem coX0_putFour : Cond.code yX0_putFour cX0_putFour 3 none ∈ vi_tb := vi_mem (vi_m3 (List.mem_of_getElem? (i := 151) rfl)) rfl
theorem imX0_putFour : Cond.instanceMethod yX0_putFour ∈ vi_tb ∧ Cond.selects yX0_putFour.cls yX0_putFour yX0_putFour ∈ vi_tb := ⟨vi_mem (vi_m3 (List.mem_of_getElem? (i := 149) rfl)) rfl, vi_mem (vi_m3 (List.mem_of_getElem? (i := 150) rfl)) rfl⟩
theorem coX0_putAll : Cond.code yX0_putAll cX0_putAll 5 none ∈ vi_tb := vi_mem (vi_m3 (List.mem_of_getElem? (i := 167) rfl)) rfl
theorem imX0_putAll : Cond.instanceMethod yX0_putAll ∈ vi_tb ∧ Cond.selects yX0_putAll.cls yX0_putAll yX0_putAll ∈ vi_tb := ⟨vi_mem (vi_m3 (List.mem_of_getElem? (i := 165) rfl)) rfl, vi_mem (vi_m3 (List.mem_of_getElem? (i := 166) rfl)) rfl⟩
theorem coX0_putCheck : Cond.code yX0_putCheck cX0_putCheck 4 none ∈ vi_tb := vi_mem (vi_m2 (List.mem_of_getElem? (i := 18) rfl)) rfl
theorem imX0_putCheck : Cond.instanceMethod yX0_putCheck ∈ vi_tb ∧ Cond.selects yX0_putCheck.cls yX0_putCheck yX0_putCheck ∈ vi_tb := ⟨vi_mem (vi_m2 (List.mem_of_getElem? (i := 16) rfl)) rfl, vi_mem (vi_m2 (List.mem_of_getElem? (i := 17) rfl)) rfl⟩
theorem coX0_checkStep : Cond.code yX0_checkStep cX0_checkStep 4 (some .int) ∈ vi_tb := vi_mem (vi_m2 (List.mem_of_getElem? (i := 25) rfl)) rfl
theorem isX0_checkStep : Cond.static yX0_checkStep ∈ vi_tb := vi_mem (vi_m2 (List.mem_of_getElem? (i := 24) rfl)) rfl
theorem coX0_byteAt : Cond.code yX0_byteAt cX0_byteAt 2 (some .int) ∈ vi_tb := vi_mem (vi_m2 (List.mem_of_getElem? (i := 22) rfl)) rfl
theorem imX0_byteAt : Cond.instanceMethod yX0_byteAt ∈ vi_tb ∧ Cond.selects yX0_byteAt.cls yX0_byteAt yX0_byteAt ∈ vi_tb := ⟨vi_mem (vi_m2 (List.mem_of_getElem? (i := 20) rfl)) rfl, vi_mem (vi_m2 (List.mem_of_getElem? (i := 21) rfl)) rfl⟩
theorem coX0_take : Cond.code yX0_take cX0_take 2 (some .int) ∈ vi_tb := vi_mem (vi_m4 (List.mem_of_getElem? (i := 215) rfl)) rfl
theorem imX0_take : Cond.instanceMethod yX0_take ∈ vi_tb ∧ Cond.selects yX0_take.cls yX0_take yX0_take ∈ vi_tb := ⟨vi_mem (vi_m4 (List.mem_of_getElem? (i := 213) rfl)) rfl, vi_mem (vi_m4 (List.mem_of_getElem? (i := 214) rfl)) rfl⟩
theorem coX0_takeU : Cond.code yX0_takeU cX0_takeU 4 (some .int) ∈ vi_tb := vi_mem (vi_m4 (List.mem_of_getElem? (i := 223) rfl)) rfl
theorem imX0_takeU : Cond.instanceMethod yX0_takeU ∈ vi_tb ∧ Cond.selects yX0_takeU.cls yX0_takeU yX0_takeU ∈ vi_tb := ⟨vi_mem (vi_m4 (List.mem_of_getElem? (i := 221) rfl)) rfl, vi_mem (vi_m4 (List.mem_of_getElem? (i := 222) rfl)) rfl⟩
theorem coX0_takeTwo : Cond.code yX0_takeTwo cX0_takeTwo 2 (some .int) ∈ vi_tb := vi_mem (vi_m4 (List.mem_of_getElem? (i := 237) rfl)) rfl
theorem imX0_takeTwo : Cond.instanceMethod yX0_takeTwo ∈ vi_tb ∧ Cond.selects yX0_takeTwo.cls yX0_takeTwo yX0_takeTwo ∈ vi_tb := ⟨vi_mem (vi_m4 (List.mem_of_getElem? (i := 235) rfl)) rfl, vi_mem (vi_m4 (List.mem_of_getElem? (i := 236) rfl)) rfl⟩
theorem coX0_takeFour : Cond.code yX0_takeFour cX0_takeFour 3 (some .int) ∈ vi_tb := vi_mem (vi_m4 (List.mem_of_getElem? (i := 232) rfl)) rfl
theorem imX0_takeFour : Cond.instanceMethod yX0_takeFour ∈ vi_tb ∧ Cond.selects yX0_takeFour.cls yX0_takeFour yX0_takeFour ∈ vi_tb := ⟨vi_mem (vi_m4 (List.mem_of_getElem? (i := 230) rfl)) rfl, vi_mem (vi_m4 (List.mem_of_getElem? (i := 231) rfl)) rfl⟩
theorem coX0_copy : Cond.code yX0_copy cX0_copy 2 (some (.array .byte)) ∈ vi_tb := vi_mem (vi_m4 (List.mem_of_getElem? (i := 96) rfl)) rfl
theorem imX0_copy : Cond.instanceMethod yX0_copy ∈ vi_tb ∧ Cond.selects yX0_copy.cls yX0_copy yX0_copy ∈ vi_tb := ⟨vi_mem (vi_m4 (List.mem_of_getElem? (i := 94) rfl)) rfl, vi_mem (vi_m4 (List.mem_of_getElem? (i := 95) rfl)) rfl⟩
theorem coX1_init : Cond.code yX1_init cX1_init 1 none ∈ vi_tb := vi_mem (vi_m1 (List.mem_of_getElem? (i := 68) rfl)) rfl
theorem iiX1_init : yX1_init.name = "<init>" ∧ Cond.instanceMethod yX1_init ∈ vi_tb := ⟨rfl, vi_mem (vi_m1 (List.mem_of_getElem? (i := 67) rfl)) rfl⟩
theorem coX1_say : Cond.code yX1_say cX1_say 3 none ∈ vi_tb := vi_mem (vi_m4 (List.mem_of_getElem? (i := 3) rfl)) rfl
theorem imX1_say : Cond.instanceMethod yX1_say ∈ vi_tb ∧ Cond.selects yX1_say.cls yX1_say yX1_say ∈ vi_tb := ⟨vi_mem (vi_m4 (List.mem_of_getElem? (i := 1) rfl)) rfl, vi_mem (vi_m4 (List.mem_of_getElem? (i := 2) rfl)) rfl⟩
theorem coX1_carry : Cond.code yX1_carry cX1_carry 3 none ∈ vi_tb := vi_mem (vi_m4 (List.mem_of_getElem? (i := 7) rfl)) rfl
theorem imX1_carry : Cond.instanceMethod yX1_carry ∈ vi_tb ∧ Cond.selects yX1_carry.cls yX1_carry yX1_carry ∈ vi_tb := ⟨vi_mem (vi_m4 (List.mem_of_getElem? (i := 5) rfl)) rfl, vi_mem (vi_m4 (List.mem_of_getElem? (i := 6) rfl)) rfl⟩
theorem coX1_carryPiece : Cond.code yX1_carryPiece cX1_carryPiece 3 none ∈ vi_tb := vi_mem (vi_m4 (List.mem_of_getElem? (i := 106) rfl)) rfl
theorem imX1_carryPiece : Cond.instanceMethod yX1_carryPiece ∈ vi_tb ∧ Cond.selects yX1_carryPiece.cls yX1_carryPiece yX1_carryPiece ∈ vi_tb := ⟨vi_mem (vi_m4 (List.mem_of_getElem? (i := 104) rfl)) rfl, vi_mem (vi_m4 (List.mem_of_getElem? (i := 105) rfl)) rfl⟩
theorem coX1_copy : Cond.code yX1_copy cX1_copy 2 none ∈ vi_tb := vi_mem (vi_m5 (List.mem_of_getElem? (i := 24) rfl)) rfl
theorem imX1_copy : Cond.instanceMethod yX1_copy ∈ vi_tb ∧ Cond.selects yX1_copy.cls yX1_copy yX1_copy ∈ vi_tb := ⟨vi_mem (vi_m5 (List.mem_of_getElem? (i := 22) rfl)) rfl, vi_mem (vi_m5 (List.mem_of_getElem? (i := 23) rfl)) rfl⟩
theorem coX1_isSpoilt : Cond.code yX1_isSpoilt cX1_isSpoilt 1 (some .boolean) ∈ vi_tb := vi_mem (vi_m4 (List.mem_of_getElem? (i := 72) rfl)) rfl
theorem imX1_isSpoilt : Cond.instanceMethod yX1_isSpoilt ∈ vi_tb ∧ Cond.selects yX1_isSpoilt.cls yX1_isSpoilt yX1_isSpoilt ∈ vi_tb := ⟨vi_mem (vi_m4 (List.mem_of_getElem? (i := 70) rfl)) rfl, vi_mem (vi_m4 (List.mem_of_getElem? (i := 71) rfl)) rfl⟩
theorem coX1_piecesOf : Cond.code yX1_piecesOf cX1_piecesOf 1 (some .int) ∈ vi_tb := vi_mem (vi_m4 (List.mem_of_getElem? (i := 102) rfl)) rfl
theorem isX1_piecesOf : Cond.static yX1_piecesOf ∈ vi_tb := vi_mem (vi_m4 (List.mem_of_getElem? (i := 101) rfl)) rfl
theorem coX1_pieceStart : Cond.code yX1_pieceStart cX1_pieceStart 1 (some .int) ∈ vi_tb := vi_mem (vi_m4 (List.mem_of_getElem? (i := 202) rfl)) rfl
theorem imX1_pieceStart : Cond.instanceMethod yX1_pieceStart ∈ vi_tb ∧ Cond.selects yX1_pieceStart.cls yX1_pieceStart yX1_pieceStart ∈ vi_tb := ⟨vi_mem (vi_m4 (List.mem_of_getElem? (i := 200) rfl)) rfl, vi_mem (vi_m4 (List.mem_of_getElem? (i := 201) rfl)) rfl⟩
theorem coX1_pieceEnd : Cond.code yX1_pieceEnd cX1_pieceEnd 1 (some .int) ∈ vi_tb := vi_mem (vi_m4 (List.mem_of_getElem? (i := 206) rfl)) rfl
theorem imX1_pieceEnd : Cond.instanceMethod yX1_pieceEnd ∈ vi_tb ∧ Cond.selects yX1_pieceEnd.cls yX1_pieceEnd yX1_pieceEnd ∈ vi_tb := ⟨vi_mem (vi_m4 (List.mem_of_getElem? (i := 204) rfl)) rfl, vi_mem (vi_m4 (List.mem_of_getElem? (i := 205) rfl)) rfl⟩
theorem coX1_writeTo : Cond.code yX1_writeTo cX1_writeTo 2 none ∈ vi_tb := vi_mem (vi_m5 (List.mem_of_getElem? (i := 36) rfl)) rfl
theorem imX1_writeTo : Cond.instanceMethod yX1_writeTo ∈ vi_tb ∧ Cond.selects yX1_writeTo.cls yX1_writeTo yX1_writeTo ∈ vi_tb := ⟨vi_mem (vi_m5 (List.mem_of_getElem? (i := 34) rfl)) rfl, vi_mem (vi_m5 (List.mem_of_getElem? (i := 35) rfl)) rfl⟩
theorem coX1_tell : Cond.code yX1_tell cX1_tell 2 (some .int) ∈ vi_tb := vi_mem (vi_m5 (List.mem_of_getElem? (i := 175) rfl)) rfl
theorem imX1_tell : Cond.instanceMethod yX1_tell ∈ vi_tb ∧ Cond.selects yX1_tell.cls yX1_tell yX1_tell ∈ vi_tb := ⟨vi_mem (vi_m5 (List.mem_of_getElem? (i := 173) rfl)) rfl, vi_mem (vi_m5 (List.mem_of_getElem? (i := 174) rfl)) rfl⟩
theorem coX2_init : Cond.code yX2_init cX2_init 2 none ∈ vi_tb := vi_mem (vi_m2 (List.mem_of_getElem? (i := 1) rfl)) rfl
theorem iiX2_init : yX2_init.name = "<init>" ∧ Cond.instanceMethod yX2_init ∈ vi_tb := ⟨rfl, vi_mem (vi_m2 (List.mem_of_getElem? (i := 0) rfl)) rfl⟩
theorem coX2_tell : Cond.code yX2_tell cX2_tell 2 (some .int) ∈ vi_tb := vi_mem (vi_m5 (List.mem_of_getElem? (i := 137) rfl)) rfl
theorem imX2_tell : Cond.instanceMethod yX2_tell ∈ vi_tb ∧ Cond.selects yX2_tell.cls yX2_tell yX2_tell ∈ vi_tb := ⟨vi_mem (vi_m5 (List.mem_of_getElem? (i := 135) rfl)) rfl, vi_mem (vi_m5 (List.mem_of_getElem? (i := 136) rfl)) rfl⟩
theorem coX2_startImage : Cond.code yX2_startImage cX2_startImage 1 none ∈ vi_tb := vi_mem (vi_m3 (List.mem_of_getElem? (i := 159) rfl)) rfl
theorem imX2_startImage : Cond.instanceMethod yX2_startImage ∈ vi_tb ∧ Cond.selects yX2_startImage.cls yX2_startImage yX2_startImage ∈ vi_tb := ⟨vi_mem (vi_m3 (List.mem_of_getElem? (i := 157) rfl)) rfl, vi_mem (vi_m3 (List.mem_of_getElem? (i := 158) rfl)) rfl⟩
theorem coX2_addRecord : Cond.code yX2_addRecord cX2_addRecord 3 none ∈ vi_tb := vi_mem (vi_m3 (List.mem_of_getElem? (i := 163) rfl)) rfl
theorem imX2_addRecord : Cond.instanceMethod yX2_addRecord ∈ vi_tb ∧ Cond.selects yX2_addRecord.cls yX2_addRecord yX2_addRecord ∈ vi_tb := ⟨vi_mem (vi_m3 (List.mem_of_getElem? (i := 161) rfl)) rfl, vi_mem (vi_m3 (List.mem_of_getElem? (i := 162) rfl)) rfl⟩
theorem coX2_writeNote : Cond.code yX2_writeNote cX2_writeNote 4 (some .boolean) ∈ vi_tb := vi_mem (vi_m3 (List.mem_of_getElem? (i := 172) rfl)) rfl
theorem imX2_writeNote : Cond.instanceMethod yX2_writeNote ∈ vi_tb ∧ Cond.selects yX2_writeNote.cls yX2_writeNote yX2_writeNote ∈ vi_tb := ⟨vi_mem (vi_m3 (List.mem_of_getElem? (i := 170) rfl)) rfl, vi_mem (vi_m3 (List.mem_of_getElem? (i := 171) rfl)) rfl⟩
theorem coX2_writeHalf : Cond.code yX2_writeHalf cX2_writeHalf 4 (some .boolean) ∈ vi_tb := vi_mem (vi_m3 (List.mem_of_getElem? (i := 214) rfl)) rfl
theorem imX2_writeHalf : Cond.instanceMethod yX2_writeHalf ∈ vi_tb ∧ Cond.selects yX2_writeHalf.cls yX2_writeHalf yX2_writeHalf ∈ vi_tb := ⟨vi_mem (vi_m3 (List.mem_of_getElem? (i := 212) rfl)) rfl, vi_mem (vi_m3 (List.mem_of_getElem? (i := 213) rfl)) rfl⟩
theorem coX2_makeHead : Cond.code yX2_makeHead cX2_makeHead 4 none ∈ vi_tb := vi_mem (vi_m2 (List.mem_of_getElem? (i := 6) rfl)) rfl
theorem imX2_makeHead : Cond.instanceMethod yX2_makeHead ∈ vi_tb ∧ Cond.selects yX2_makeHead.cls yX2_makeHead yX2_makeHead ∈ vi_tb := ⟨vi_mem (vi_m2 (List.mem_of_getElem? (i := 4) rfl)) rfl, vi_mem (vi_m2 (List.mem_of_getElem? (i := 5) rfl)) rfl⟩
theorem coX2_writeHead : Cond.code yX2_writeHead cX2_writeHead 2 (some .boolean) ∈ vi_tb := vi_mem (vi_m3 (List.mem_of_getElem? (i := 219) rfl)) rfl
theorem imX2_writeHead : Cond.instanceMethod yX2_writeHead ∈ vi_tb ∧ Cond.selects yX2_writeHead.cls yX2_writeHead yX2_writeHead ∈ vi_tb := ⟨vi_mem (vi_m3 (List.mem_of_getElem? (i := 217) rfl)) rfl, vi_mem (vi_m3 (List.mem_of_getElem? (i := 218) rfl)) rfl⟩
theorem coX2_closeImage : Cond.code yX2_closeImage cX2_closeImage 2 none ∈ vi_tb := vi_mem (vi_m3 (List.mem_of_getElem? (i := 179) rfl)) rfl
theorem imX2_closeImage : Cond.instanceMethod yX2_closeImage ∈ vi_tb ∧ Cond.selects yX2_closeImage.cls yX2_closeImage yX2_closeImage ∈ vi_tb := ⟨vi_mem (vi_m3 (List.mem_of_getElem? (i := 178) rfl)) rfl, vi_ix (i := 10) (by decide +kernel) rfl⟩
theorem coX2_startOf : Cond.code yX2_startOf cX2_startOf 1 (some .int) ∈ vi_tb := vi_mem (vi_m3 (List.mem_of_getElem? (i := 175) rfl)) rfl
theorem isX2_startOf : Cond.static yX2_startOf ∈ vi_tb := vi_mem (vi_m3 (List.mem_of_getElem? (i := 174) rfl)) rfl
theorem coX2_crashes : Cond.code yX2_crashes cX2_crashes 1 (some .boolean) ∈ vi_tb := vi_mem (vi_m3 (List.mem_of_getElem? (i := 183) rfl)) rfl
theorem imX2_crashes : Cond.instanceMethod yX2_crashes ∈ vi_tb ∧ Cond.selects yX2_crashes.cls yX2_crashes yX2_crashes ∈ vi_tb := ⟨vi_mem (vi_m3 (List.mem_of_getElem? (i := 182) rfl)) rfl, vi_ix (i := 11) (by decide +kernel) rfl⟩
theorem coX2_place : Cond.code yX2_place cX2_place 5 none ∈ vi_tb := vi_mem (vi_m2 (List.mem_of_getElem? (i := 31) rfl)) rfl
theorem imX2_place : Cond.instanceMethod yX2_place ∈ vi_tb ∧ Cond.selects yX2_place.cls yX2_place yX2_place ∈ vi_tb := ⟨vi_mem (vi_m2 (List.mem_of_getElem? (i := 30) rfl)) rfl, vi_ix (i := 0) (by decide +kernel) rfl⟩
theorem coX2_setByte : Cond.code yX2_setByte cX2_setByte 5 none ∈ vi_tb := vi_mem (vi_m2 (List.mem_of_getElem? (i := 37) rfl)) rfl
theorem imX2_setByte : Cond.instanceMethod yX2_setByte ∈ vi_tb ∧ Cond.selects yX2_setByte.cls yX2_setByte yX2_setByte ∈ vi_tb := ⟨vi_mem (vi_m2 (List.mem_of_getElem? (i := 36) rfl)) rfl, vi_ix (i := 1) (by decide +kernel) rfl⟩
theorem coX2_byteAt : Cond.code yX2_byteAt cX2_byteAt 3 (some .int) ∈ vi_tb := vi_mem (vi_m5 (List.mem_of_getElem? (i := 76) rfl)) rfl
theorem imX2_byteAt : Cond.instanceMethod yX2_byteAt ∈ vi_tb ∧ Cond.selects yX2_byteAt.cls yX2_byteAt yX2_byteAt ∈ vi_tb := ⟨vi_mem (vi_m5 (List.mem_of_getElem? (i := 75) rfl)) rfl, vi_ix (i := 39) (by decide +kernel) rfl⟩
theorem coX2_twoLowFirst : Cond.code yX2_twoLowFirst cX2_twoLowFirst 2 (some .int) ∈ vi_tb := vi_mem (vi_m5 (List.mem_of_getElem? (i := 84) rfl)) rfl
theorem imX2_twoLowFirst : Cond.instanceMethod yX2_twoLowFirst ∈ vi_tb ∧ Cond.selects yX2_twoLowFirst.cls yX2_twoLowFirst yX2_twoLowFirst ∈ vi_tb := ⟨vi_mem (vi_m5 (List.mem_of_getElem? (i := 83) rfl)) rfl, vi_ix (i := 41) (by decide +kernel) rfl⟩
theorem coX2_fourLowFirst : Cond.code yX2_fourLowFirst cX2_fourLowFirst 2 (some .int) ∈ vi_tb := vi_mem (vi_m5 (List.mem_of_getElem? (i := 80) rfl)) rfl
theorem imX2_fourLowFirst : Cond.instanceMethod yX2_fourLowFirst ∈ vi_tb ∧ Cond.selects yX2_fourLowFirst.cls yX2_fourLowFirst yX2_fourLowFirst ∈ vi_tb := ⟨vi_mem (vi_m5 (List.mem_of_getElem? (i := 79) rfl)) rfl, vi_ix (i := 40) (by decide +kernel) rfl⟩
theorem coX2_open : Cond.code yX2_open cX2_open 4 none ∈ vi_tb := vi_mem (vi_m5 (List.mem_of_getElem? (i := 68) rfl)) rfl
theorem imX2_open : Cond.instanceMethod yX2_open ∈ vi_tb ∧ Cond.selects yX2_open.cls yX2_open yX2_open ∈ vi_tb := ⟨vi_mem (vi_m5 (List.mem_of_getElem? (i := 66) rfl)) rfl, vi_mem (vi_m5 (List.mem_of_getElem? (i := 67) rfl)) rfl⟩
theorem coX2_generationIn : Cond.code yX2_generationIn cX2_generationIn 5 (some .int) ∈ vi_tb := vi_mem (vi_m5 (List.mem_of_getElem? (i := 72) rfl)) rfl
theorem imX2_generationIn : Cond.instanceMethod yX2_generationIn ∈ vi_tb ∧ Cond.selects yX2_generationIn.cls yX2_generationIn yX2_generationIn ∈ vi_tb := ⟨vi_mem (vi_m5 (List.mem_of_getElem? (i := 71) rfl)) rfl, vi_ix (i := 38) (by decide +kernel) rfl⟩
theorem coX2_isChecked : Cond.code yX2_isChecked cX2_isChecked 5 (some .boolean) ∈ vi_tb := vi_mem (vi_m5 (List.mem_of_getElem? (i := 88) rfl)) rfl
theorem imX2_isChecked : Cond.instanceMethod yX2_isChecked ∈ vi_tb ∧ Cond.selects yX2_isChecked.cls yX2_isChecked yX2_isChecked ∈ vi_tb := ⟨vi_mem (vi_m5 (List.mem_of_getElem? (i := 87) rfl)) rfl, vi_ix (i := 42) (by decide +kernel) rfl⟩
theorem coX2_readNext : Cond.code yX2_readNext cX2_readNext 7 (some .boolean) ∈ vi_tb := vi_mem (vi_m5 (List.mem_of_getElem? (i := 93) rfl)) rfl
theorem imX2_readNext : Cond.instanceMethod yX2_readNext ∈ vi_tb ∧ Cond.selects yX2_readNext.cls yX2_readNext yX2_readNext ∈ vi_tb := ⟨vi_mem (vi_m5 (List.mem_of_getElem? (i := 91) rfl)) rfl, vi_mem (vi_m5 (List.mem_of_getElem? (i := 92) rfl)) rfl⟩
theorem coX3_init : Cond.code yX3_init cX3_init 2 none ∈ vi_tb := vi_mem (vi_m1 (List.mem_of_getElem? (i := 61) rfl)) rfl
theorem iiX3_init : yX3_init.name = "<init>" ∧ Cond.instanceMethod yX3_init ∈ vi_tb := ⟨rfl, vi_mem (vi_m1 (List.mem_of_getElem? (i := 60) rfl)) rfl⟩
theorem coX3_look : Cond.code yX3_look cX3_look 2 (some (.object "SnapCluster$Frame")) ∈ vi_tb := vi_mem (vi_m4 (List.mem_of_getElem? (i := 68) rfl)) rfl
theorem imX3_look : Cond.instanceMethod yX3_look ∈ vi_tb ∧ Cond.selects yX3_look.cls yX3_look yX3_look ∈ vi_tb := ⟨vi_mem (vi_m4 (List.mem_of_getElem? (i := 66) rfl)) rfl, vi_mem (vi_m4 (List.mem_of_getElem? (i := 67) rfl)) rfl⟩
theorem coX3_take : Cond.code yX3_take cX3_take 4 (some (.object "SnapCluster$Frame")) ∈ vi_tb := vi_mem (vi_m4 (List.mem_of_getElem? (i := 64) rfl)) rfl
theorem imX3_take : Cond.instanceMethod yX3_take ∈ vi_tb ∧ Cond.selects yX3_take.cls yX3_take yX3_take ∈ vi_tb := ⟨vi_mem (vi_m4 (List.mem_of_getElem? (i := 62) rfl)) rfl, vi_mem (vi_m4 (List.mem_of_getElem? (i := 63) rfl)) rfl⟩
theorem coX3_send : Cond.code yX3_send cX3_send 1 (some (.object "SnapCluster$Frame")) ∈ vi_tb := vi_mem (vi_m3 (List.mem_of_getElem? (i := 235) rfl)) rfl
theorem imX3_send : Cond.instanceMethod yX3_send ∈ vi_tb ∧ Cond.selects yX3_send.cls yX3_send yX3_send ∈ vi_tb := ⟨vi_mem (vi_m3 (List.mem_of_getElem? (i := 233) rfl)) rfl, vi_mem (vi_m3 (List.mem_of_getElem? (i := 234) rfl)) rfl⟩
theorem coX3_repeat : Cond.code yX3_repeat cX3_repeat 2 none ∈ vi_tb := vi_mem (vi_m5 (List.mem_of_getElem? (i := 20) rfl)) rfl
theorem imX3_repeat : Cond.instanceMethod yX3_repeat ∈ vi_tb ∧ Cond.selects yX3_repeat.cls yX3_repeat yX3_repeat ∈ vi_tb := ⟨vi_mem (vi_m5 (List.mem_of_getElem? (i := 18) rfl)) rfl, vi_mem (vi_m5 (List.mem_of_getElem? (i := 19) rfl)) rfl⟩
theorem coX4_init : Cond.code yX4_init cX4_init 1 none ∈ vi_tb := vi_mem (vi_m2 (List.mem_of_getElem? (i := 125) rfl)) rfl
theorem iiX4_init : yX4_init.name = "<init>" ∧ Cond.instanceMethod yX4_init ∈ vi_tb := ⟨rfl, vi_mem (vi_m2 (List.mem_of_getElem? (i := 124) rfl)) rfl⟩
theorem coX4_follow : Cond.code yX4_follow cX4_follow 1 none ∈ vi_tb := vi_mem (vi_m4 (List.mem_of_getElem? (i := 32) rfl)) rfl
theorem imX4_follow : Cond.instanceMethod yX4_follow ∈ vi_tb ∧ Cond.selects yX4_follow.cls yX4_follow yX4_follow ∈ vi_tb := ⟨vi_mem (vi_m4 (List.mem_of_getElem? (i := 30) rfl)) rfl, vi_mem (vi_m4 (List.mem_of_getElem? (i := 31) rfl)) rfl⟩
theorem coX4_followAbove : Cond.code yX4_followAbove cX4_followAbove 2 none ∈ vi_tb := vi_mem (vi_m4 (List.mem_of_getElem? (i := 189) rfl)) rfl
theorem imX4_followAbove : Cond.instanceMethod yX4_followAbove ∈ vi_tb ∧ Cond.selects yX4_followAbove.cls yX4_followAbove yX4_followAbove ∈ vi_tb := ⟨vi_mem (vi_m4 (List.mem_of_getElem? (i := 187) rfl)) rfl, vi_mem (vi_m4 (List.mem_of_getElem? (i := 188) rfl)) rfl⟩
theorem coX4_stand : Cond.code yX4_stand cX4_stand 3 none ∈ vi_tb := vi_mem (vi_m4 (List.mem_of_getElem? (i := 28) rfl)) rfl
theorem imX4_stand : Cond.instanceMethod yX4_stand ∈ vi_tb ∧ Cond.selects yX4_stand.cls yX4_stand yX4_stand ∈ vi_tb := ⟨vi_mem (vi_m4 (List.mem_of_getElem? (i := 26) rfl)) rfl, vi_mem (vi_m4 (List.mem_of_getElem? (i := 27) rfl)) rfl⟩
theorem coX4_lead : Cond.code yX4_lead cX4_lead 1 none ∈ vi_tb := vi_mem (vi_m4 (List.mem_of_getElem? (i := 138) rfl)) rfl
theorem imX4_lead : Cond.instanceMethod yX4_lead ∈ vi_tb ∧ Cond.selects yX4_lead.cls yX4_lead yX4_lead ∈ vi_tb := ⟨vi_mem (vi_m4 (List.mem_of_getElem? (i := 136) rfl)) rfl, vi_mem (vi_m4 (List.mem_of_getElem? (i := 137) rfl)) rfl⟩
theorem coX4_propose : Cond.code yX4_propose cX4_propose 3 none ∈ vi_tb := vi_mem (vi_m3 (List.mem_of_getElem? (i := 223) rfl)) rfl
theorem imX4_propose : Cond.instanceMethod yX4_propose ∈ vi_tb ∧ Cond.selects yX4_propose.cls yX4_propose yX4_propose ∈ vi_tb := ⟨vi_mem (vi_m3 (List.mem_of_getElem? (i := 221) rfl)) rfl, vi_mem (vi_m3 (List.mem_of_getElem? (i := 222) rfl)) rfl⟩
theorem coX4_dropProposed : Cond.code yX4_dropProposed cX4_dropProposed 1 none ∈ vi_tb := vi_mem (vi_m4 (List.mem_of_getElem? (i := 36) rfl)) rfl
theorem imX4_dropProposed : Cond.instanceMethod yX4_dropProposed ∈ vi_tb ∧ Cond.selects yX4_dropProposed.cls yX4_dropProposed yX4_dropProposed ∈ vi_tb := ⟨vi_mem (vi_m4 (List.mem_of_getElem? (i := 34) rfl)) rfl, vi_mem (vi_m4 (List.mem_of_getElem? (i := 35) rfl)) rfl⟩
theorem coX4_hear : Cond.code yX4_hear cX4_hear 3 none ∈ vi_tb := vi_mem (vi_m4 (List.mem_of_getElem? (i := 40) rfl)) rfl
theorem imX4_hear : Cond.instanceMethod yX4_hear ∈ vi_tb ∧ Cond.selects yX4_hear.cls yX4_hear yX4_hear ∈ vi_tb := ⟨vi_mem (vi_m4 (List.mem_of_getElem? (i := 38) rfl)) rfl, vi_mem (vi_m4 (List.mem_of_getElem? (i := 39) rfl)) rfl⟩
theorem coX4_is : Cond.code yX4_is cX4_is 3 (some .boolean) ∈ vi_tb := vi_mem (vi_m4 (List.mem_of_getElem? (i := 119) rfl)) rfl
theorem imX4_is : Cond.instanceMethod yX4_is ∈ vi_tb ∧ Cond.selects yX4_is.cls yX4_is yX4_is ∈ vi_tb := ⟨vi_mem (vi_m4 (List.mem_of_getElem? (i := 117) rfl)) rfl, vi_mem (vi_m4 (List.mem_of_getElem? (i := 118) rfl)) rfl⟩
theorem coX4_hasAnswer : Cond.code yX4_hasAnswer cX4_hasAnswer 2 (some .boolean) ∈ vi_tb := vi_mem (vi_m4 (List.mem_of_getElem? (i := 123) rfl)) rfl
theorem imX4_hasAnswer : Cond.instanceMethod yX4_hasAnswer ∈ vi_tb ∧ Cond.selects yX4_hasAnswer.cls yX4_hasAnswer yX4_hasAnswer ∈ vi_tb := ⟨vi_mem (vi_m4 (List.mem_of_getElem? (i := 121) rfl)) rfl, vi_mem (vi_m4 (List.mem_of_getElem? (i := 122) rfl)) rfl⟩
theorem coX4_answer : Cond.code yX4_answer cX4_answer 3 (some .boolean) ∈ vi_tb := vi_mem (vi_m4 (List.mem_of_getElem? (i := 128) rfl)) rfl
theorem imX4_answer : Cond.instanceMethod yX4_answer ∈ vi_tb ∧ Cond.selects yX4_answer.cls yX4_answer yX4_answer ∈ vi_tb := ⟨vi_mem (vi_m4 (List.mem_of_getElem? (i := 126) rfl)) rfl, vi_mem (vi_m4 (List.mem_of_getElem? (i := 127) rfl)) rfl⟩
theorem coX5_init : Cond.code yX5_init cX5_init 1 none ∈ vi_tb := vi_mem (vi_m2 (List.mem_of_getElem? (i := 102) rfl)) rfl
theorem iiX5_init : yX5_init.name = "<init>" ∧ Cond.instanceMethod yX5_init ∈ vi_tb := ⟨rfl, vi_mem (vi_m2 (List.mem_of_getElem? (i := 101) rfl)) rfl⟩
theorem coX5_drop : Cond.code yX5_drop cX5_drop 1 none ∈ vi_tb := vi_mem (vi_m4 (List.mem_of_getElem? (i := 176) rfl)) rfl
theorem imX5_drop : Cond.instanceMethod yX5_drop ∈ vi_tb ∧ Cond.selects yX5_drop.cls yX5_drop yX5_drop ∈ vi_tb := ⟨vi_mem (vi_m4 (List.mem_of_getElem? (i := 174) rfl)) rfl, vi_mem (vi_m4 (List.mem_of_getElem? (i := 175) rfl)) rfl⟩
theorem coX5_gather : Cond.code yX5_gather cX5_gather 5 (some .boolean) ∈ vi_tb := vi_mem (vi_m4 (List.mem_of_getElem? (i := 197) rfl)) rfl
theorem imX5_gather : Cond.instanceMethod yX5_gather ∈ vi_tb ∧ Cond.selects yX5_gather.cls yX5_gather yX5_gather ∈ vi_tb := ⟨vi_mem (vi_m4 (List.mem_of_getElem? (i := 195) rfl)) rfl, vi_mem (vi_m4 (List.mem_of_getElem? (i := 196) rfl)) rfl⟩
theorem coX6_init : Cond.code yX6_init cX6_init 1 none ∈ vi_tb := vi_mem (vi_m2 (List.mem_of_getElem? (i := 87) rfl)) rfl
theorem iiX6_init : yX6_init.name = "<init>" ∧ Cond.instanceMethod yX6_init ∈ vi_tb := ⟨rfl, vi_mem (vi_m2 (List.mem_of_getElem? (i := 86) rfl)) rfl⟩
theorem coX6_clear : Cond.code yX6_clear cX6_clear 1 none ∈ vi_tb := vi_mem (vi_m5 (List.mem_of_getElem? (i := 64) rfl)) rfl
theorem imX6_clear : Cond.instanceMethod yX6_clear ∈ vi_tb ∧ Cond.selects yX6_clear.cls yX6_clear yX6_clear ∈ vi_tb := ⟨vi_mem (vi_m5 (List.mem_of_getElem? (i := 62) rfl)) rfl, vi_mem (vi_m5 (List.mem_of_getElem? (i := 63) rfl)) rfl⟩
theorem coX6_add : Cond.code yX6_add cX6_add 3 none ∈ vi_tb := vi_mem (vi_m3 (List.mem_of_getElem? (i := 79) rfl)) rfl
theorem imX6_add : Cond.instanceMethod yX6_add ∈ vi_tb ∧ Cond.selects yX6_add.cls yX6_add yX6_add ∈ vi_tb := ⟨vi_mem (vi_m3 (List.mem_of_getElem? (i := 77) rfl)) rfl, vi_mem (vi_m3 (List.mem_of_getElem? (i := 78) rfl)) rfl⟩
theorem coX6_first : Cond.code yX6_first cX6_first 1 (some (.object "SnapCluster$Request")) ∈ vi_tb := vi_mem (vi_m4 (List.mem_of_getElem? (i := 52) rfl)) rfl
theorem imX6_first : Cond.instanceMethod yX6_first ∈ vi_tb ∧ Cond.selects yX6_first.cls yX6_first yX6_first ∈ vi_tb := ⟨vi_mem (vi_m4 (List.mem_of_getElem? (i := 50) rfl)) rfl, vi_mem (vi_m4 (List.mem_of_getElem? (i := 51) rfl)) rfl⟩
theorem coX6_advance : Cond.code yX6_advance cX6_advance 3 (some (.object "SnapCluster$Request")) ∈ vi_tb := vi_mem (vi_m3 (List.mem_of_getElem? (i := 108) rfl)) rfl
theorem imX6_advance : Cond.instanceMethod yX6_advance ∈ vi_tb ∧ Cond.selects yX6_advance.cls yX6_advance yX6_advance ∈ vi_tb := ⟨vi_mem (vi_m3 (List.mem_of_getElem? (i := 106) rfl)) rfl, vi_mem (vi_m3 (List.mem_of_getElem? (i := 107) rfl)) rfl⟩
theorem coX6_dropFirst : Cond.code yX6_dropFirst cX6_dropFirst 3 none ∈ vi_tb := vi_mem (vi_m3 (List.mem_of_getElem? (i := 116) rfl)) rfl
theorem imX6_dropFirst : Cond.instanceMethod yX6_dropFirst ∈ vi_tb ∧ Cond.selects yX6_dropFirst.cls yX6_dropFirst yX6_dropFirst ∈ vi_tb := ⟨vi_mem (vi_m3 (List.mem_of_getElem? (i := 115) rfl)) rfl, vi_ix (i := 5) (by decide +kernel) rfl⟩
theorem coX6_dropDecided : Cond.code yX6_dropDecided cX6_dropDecided 4 none ∈ vi_tb := vi_mem (vi_m4 (List.mem_of_getElem? (i := 181) rfl)) rfl
theorem imX6_dropDecided : Cond.instanceMethod yX6_dropDecided ∈ vi_tb ∧ Cond.selects yX6_dropDecided.cls yX6_dropDecided yX6_dropDecided ∈ vi_tb := ⟨vi_mem (vi_m4 (List.mem_of_getElem? (i := 179) rfl)) rfl, vi_mem (vi_m4 (List.mem_of_getElem? (i := 180) rfl)) rfl⟩
theorem coX7_init : Cond.code yX7_init cX7_init 6 none ∈ vi_tb := vi_mem (vi_m2 (List.mem_of_getElem? (i := 81) rfl)) rfl
theorem iiX7_init : yX7_init.name = "<init>" ∧ Cond.instanceMethod yX7_init ∈ vi_tb := ⟨rfl, vi_mem (vi_m2 (List.mem_of_getElem? (i := 80) rfl)) rfl⟩
theorem coX7_connect : Cond.code yX7_connect cX7_connect 4 none ∈ vi_tb := vi_mem (vi_m2 (List.mem_of_getElem? (i := 210) rfl)) rfl
theorem imX7_connect : Cond.instanceMethod yX7_connect ∈ vi_tb ∧ Cond.selects yX7_connect.cls yX7_connect yX7_connect ∈ vi_tb := ⟨vi_mem (vi_m2 (List.mem_of_getElem? (i := 208) rfl)) rfl, vi_mem (vi_m2 (List.mem_of_getElem? (i := 209) rfl)) rfl⟩
theorem coX7_tell : Cond.code yX7_tell cX7_tell 2 (some .int) ∈ vi_tb := vi_mem (vi_m5 (List.mem_of_getElem? (i := 128) rfl)) rfl
theorem imX7_tell : Cond.instanceMethod yX7_tell ∈ vi_tb ∧ Cond.selects yX7_tell.cls yX7_tell yX7_tell ∈ vi_tb := ⟨vi_mem (vi_m5 (List.mem_of_getElem? (i := 126) rfl)) rfl, vi_mem (vi_m5 (List.mem_of_getElem? (i := 127) rfl)) rfl⟩
theorem coX7_goDown : Cond.code yX7_goDown cX7_goDown 2 none ∈ vi_tb := vi_mem (vi_m3 (List.mem_of_getElem? (i := 187) rfl)) rfl
theorem imX7_goDown : Cond.instanceMethod yX7_goDown ∈ vi_tb ∧ Cond.selects yX7_goDown.cls yX7_goDown yX7_goDown ∈ vi_tb := ⟨vi_mem (vi_m3 (List.mem_of_getElem? (i := 185) rfl)) rfl, vi_mem (vi_m3 (List.mem_of_getElem? (i := 186) rfl)) rfl⟩
theorem coX7_comeUp : Cond.code yX7_comeUp cX7_comeUp 2 none ∈ vi_tb := vi_mem (vi_m5 (List.mem_of_getElem? (i := 52) rfl)) rfl
theorem imX7_comeUp : Cond.instanceMethod yX7_comeUp ∈ vi_tb ∧ Cond.selects yX7_comeUp.cls yX7_comeUp yX7_comeUp ∈ vi_tb := ⟨vi_mem (vi_m5 (List.mem_of_getElem? (i := 50) rfl)) rfl, vi_mem (vi_m5 (List.mem_of_getElem? (i := 51) rfl)) rfl⟩
theorem coX7_forget : Cond.code yX7_forget cX7_forget 1 none ∈ vi_tb := vi_mem (vi_m5 (List.mem_of_getElem? (i := 56) rfl)) rfl
theorem imX7_forget : Cond.instanceMethod yX7_forget ∈ vi_tb ∧ Cond.selects yX7_forget.cls yX7_forget yX7_forget ∈ vi_tb := ⟨vi_mem (vi_m5 (List.mem_of_getElem? (i := 55) rfl)) rfl, vi_ix (i := 37) (by decide +kernel) rfl⟩
theorem coX7_replay : Cond.code yX7_replay cX7_replay 1 none ∈ vi_tb := vi_mem (vi_m5 (List.mem_of_getElem? (i := 97) rfl)) rfl
theorem imX7_replay : Cond.instanceMethod yX7_replay ∈ vi_tb ∧ Cond.selects yX7_replay.cls yX7_replay yX7_replay ∈ vi_tb := ⟨vi_mem (vi_m5 (List.mem_of_getElem? (i := 96) rfl)) rfl, vi_ix (i := 43) (by decide +kernel) rfl⟩
theorem coX7_replayAccepted : Cond.code yX7_replayAccepted cX7_replayAccepted 2 none ∈ vi_tb := vi_mem (vi_m5 (List.mem_of_getElem? (i := 102) rfl)) rfl
theorem imX7_replayAccepted : Cond.instanceMethod yX7_replayAccepted ∈ vi_tb ∧ Cond.selects yX7_replayAccepted.cls yX7_replayAccepted yX7_replayAccepted ∈ vi_tb := ⟨vi_mem (vi_m5 (List.mem_of_getElem? (i := 101) rfl)) rfl, vi_ix (i := 44) (by decide +kernel) rfl⟩
theorem coX7_note : Cond.code yX7_note cX7_note 1 (some .boolean) ∈ vi_tb := vi_mem (vi_m3 (List.mem_of_getElem? (i := 155) rfl)) rfl
theorem imX7_note : Cond.instanceMethod yX7_note ∈ vi_tb ∧ Cond.selects yX7_note.cls yX7_note yX7_note ∈ vi_tb := ⟨vi_mem (vi_m3 (List.mem_of_getElem? (i := 154) rfl)) rfl, vi_ix (i := 9) (by decide +kernel) rfl⟩
theorem coX7_checkpointIfDue : Cond.code yX7_checkpointIfDue cX7_checkpointIfDue 2 (some .boolean) ∈ vi_tb := vi_mem (vi_m3 (List.mem_of_getElem? (i := 192) rfl)) rfl
theorem imX7_checkpointIfDue : Cond.instanceMethod yX7_checkpointIfDue ∈ vi_tb ∧ Cond.selects yX7_checkpointIfDue.cls yX7_checkpointIfDue yX7_checkpointIfDue ∈ vi_tb := ⟨vi_mem (vi_m3 (List.mem_of_getElem? (i := 191) rfl)) rfl, vi_ix (i := 12) (by decide +kernel) rfl⟩
theorem coX7_startPayload : Cond.code yX7_startPayload cX7_startPayload 2 none ∈ vi_tb := vi_mem (vi_m3 (List.mem_of_getElem? (i := 128) rfl)) rfl
theorem imX7_startPayload : Cond.instanceMethod yX7_startPayload ∈ vi_tb ∧ Cond.selects yX7_startPayload.cls yX7_startPayload yX7_startPayload ∈ vi_tb := ⟨vi_mem (vi_m3 (List.mem_of_getElem? (i := 127) rfl)) rfl, vi_ix (i := 8) (by decide +kernel) rfl⟩
theorem coX7_promise : Cond.code yX7_promise cX7_promise 2 (some .boolean) ∈ vi_tb := vi_mem (vi_m4 (List.mem_of_getElem? (i := 24) rfl)) rfl
theorem imX7_promise : Cond.instanceMethod yX7_promise ∈ vi_tb ∧ Cond.selects yX7_promise.cls yX7_promise yX7_promise ∈ vi_tb := ⟨vi_mem (vi_m4 (List.mem_of_getElem? (i := 23) rfl)) rfl, vi_ix (i := 18) (by decide +kernel) rfl⟩
theorem coX7_accept : Cond.code yX7_accept cX7_accept 3 (some .boolean) ∈ vi_tb := vi_mem (vi_m3 (List.mem_of_getElem? (i := 124) rfl)) rfl
theorem imX7_accept : Cond.instanceMethod yX7_accept ∈ vi_tb ∧ Cond.selects yX7_accept.cls yX7_accept yX7_accept ∈ vi_tb := ⟨vi_mem (vi_m3 (List.mem_of_getElem? (i := 123) rfl)) rfl, vi_ix (i := 7) (by decide +kernel) rfl⟩
theorem coX7_learn : Cond.code yX7_learn cX7_learn 2 (some .boolean) ∈ vi_tb := vi_mem (vi_m4 (List.mem_of_getElem? (i := 150) rfl)) rfl
theorem imX7_learn : Cond.instanceMethod yX7_learn ∈ vi_tb ∧ Cond.selects yX7_learn.cls yX7_learn yX7_learn ∈ vi_tb := ⟨vi_mem (vi_m4 (List.mem_of_getElem? (i := 149) rfl)) rfl, vi_ix (i := 28) (by decide +kernel) rfl⟩
theorem coX7_tellAll : Cond.code yX7_tellAll cX7_tellAll 3 none ∈ vi_tb := vi_mem (vi_m4 (List.mem_of_getElem? (i := 172) rfl)) rfl
theorem imX7_tellAll : Cond.instanceMethod yX7_tellAll ∈ vi_tb ∧ Cond.selects yX7_tellAll.cls yX7_tellAll yX7_tellAll ∈ vi_tb := ⟨vi_mem (vi_m4 (List.mem_of_getElem? (i := 171) rfl)) rfl, vi_ix (i := 31) (by decide +kernel) rfl⟩
theorem coX7_sendTo : Cond.code yX7_sendTo cX7_sendTo 6 (some (.object "SnapCluster$Frame")) ∈ vi_tb := vi_mem (vi_m3 (List.mem_of_getElem? (i := 231) rfl)) rfl
theorem imX7_sendTo : Cond.instanceMethod yX7_sendTo ∈ vi_tb ∧ Cond.selects yX7_sendTo.cls yX7_sendTo yX7_sendTo ∈ vi_tb := ⟨vi_mem (vi_m3 (List.mem_of_getElem? (i := 230) rfl)) rfl, vi_ix (i := 14) (by decide +kernel) rfl⟩
theorem coX7_sendToAll : Cond.code yX7_sendToAll cX7_sendToAll 6 none ∈ vi_tb := vi_mem (vi_m3 (List.mem_of_getElem? (i := 227) rfl)) rfl
theorem imX7_sendToAll : Cond.instanceMethod yX7_sendToAll ∈ vi_tb ∧ Cond.selects yX7_sendToAll.cls yX7_sendToAll yX7_sendToAll ∈ vi_tb := ⟨vi_mem (vi_m3 (List.mem_of_getElem? (i := 226) rfl)) rfl, vi_ix (i := 13) (by decide +kernel) rfl⟩
theorem coX7_askFor : Cond.code yX7_askFor cX7_askFor 2 none ∈ vi_tb := vi_mem (vi_m4 (List.mem_of_getElem? (i := 56) rfl)) rfl
theorem imX7_askFor : Cond.instanceMethod yX7_askFor ∈ vi_tb ∧ Cond.selects yX7_askFor.cls yX7_askFor yX7_askFor ∈ vi_tb := ⟨vi_mem (vi_m4 (List.mem_of_getElem? (i := 55) rfl)) rfl, vi_ix (i := 21) (by decide +kernel) rfl⟩
theorem coX7_deny : Cond.code yX7_deny cX7_deny 2 none ∈ vi_tb := vi_mem (vi_m4 (List.mem_of_getElem? (i := 110) rfl)) rfl
theorem imX7_deny : Cond.instanceMethod yX7_deny ∈ vi_tb ∧ Cond.selects yX7_deny.cls yX7_deny yX7_deny ∈ vi_tb := ⟨vi_mem (vi_m4 (List.mem_of_getElem? (i := 109) rfl)) rfl, vi_ix (i := 24) (by decide +kernel) rfl⟩
theorem coX7_help : Cond.code yX7_help cX7_help 7 none ∈ vi_tb := vi_mem (vi_m4 (List.mem_of_getElem? (i := 84) rfl)) rfl
theorem imX7_help : Cond.instanceMethod yX7_help ∈ vi_tb ∧ Cond.selects yX7_help.cls yX7_help yX7_help ∈ vi_tb := ⟨vi_mem (vi_m4 (List.mem_of_getElem? (i := 83) rfl)) rfl, vi_ix (i := 23) (by decide +kernel) rfl⟩
theorem coX7_tick : Cond.code yX7_tick cX7_tick 2 none ∈ vi_tb := vi_mem (vi_m3 (List.mem_of_getElem? (i := 104) rfl)) rfl
theorem imX7_tick : Cond.instanceMethod yX7_tick ∈ vi_tb ∧ Cond.selects yX7_tick.cls yX7_tick yX7_tick ∈ vi_tb := ⟨vi_mem (vi_m3 (List.mem_of_getElem? (i := 102) rfl)) rfl, vi_mem (vi_m3 (List.mem_of_getElem? (i := 103) rfl)) rfl⟩
theorem coX7_remind : Cond.code yX7_remind cX7_remind 1 none ∈ vi_tb := vi_mem (vi_m4 (List.mem_of_getElem? (i := 11) rfl)) rfl
theorem imX7_remind : Cond.instanceMethod yX7_remind ∈ vi_tb ∧ Cond.selects yX7_remind.cls yX7_remind yX7_remind ∈ vi_tb := ⟨vi_mem (vi_m4 (List.mem_of_getElem? (i := 10) rfl)) rfl, vi_ix (i := 15) (by decide +kernel) rfl⟩
theorem coX7_campaignIsDue : Cond.code yX7_campaignIsDue cX7_campaignIsDue 1 (some .boolean) ∈ vi_tb := vi_mem (vi_m4 (List.mem_of_getElem? (i := 15) rfl)) rfl
theorem imX7_campaignIsDue : Cond.instanceMethod yX7_campaignIsDue ∈ vi_tb ∧ Cond.selects yX7_campaignIsDue.cls yX7_campaignIsDue yX7_campaignIsDue ∈ vi_tb := ⟨vi_mem (vi_m4 (List.mem_of_getElem? (i := 14) rfl)) rfl, vi_ix (i := 16) (by decide +kernel) rfl⟩
theorem coX7_tickAsFollower : Cond.code yX7_tickAsFollower cX7_tickAsFollower 1 none ∈ vi_tb := vi_mem (vi_m4 (List.mem_of_getElem? (i := 44) rfl)) rfl
theorem imX7_tickAsFollower : Cond.instanceMethod yX7_tickAsFollower ∈ vi_tb ∧ Cond.selects yX7_tickAsFollower.cls yX7_tickAsFollower yX7_tickAsFollower ∈ vi_tb := ⟨vi_mem (vi_m4 (List.mem_of_getElem? (i := 43) rfl)) rfl, vi_ix (i := 19) (by decide +kernel) rfl⟩
theorem coX7_campaign : Cond.code yX7_campaign cX7_campaign 3 none ∈ vi_tb := vi_mem (vi_m4 (List.mem_of_getElem? (i := 19) rfl)) rfl
theorem imX7_campaign : Cond.instanceMethod yX7_campaign ∈ vi_tb ∧ Cond.selects yX7_campaign.cls yX7_campaign yX7_campaign ∈ vi_tb := ⟨vi_mem (vi_m4 (List.mem_of_getElem? (i := 18) rfl)) rfl, vi_ix (i := 17) (by decide +kernel) rfl⟩
theorem coX7_forward : Cond.code yX7_forward cX7_forward 2 none ∈ vi_tb := vi_mem (vi_m4 (List.mem_of_getElem? (i := 48) rfl)) rfl
theorem imX7_forward : Cond.instanceMethod yX7_forward ∈ vi_tb ∧ Cond.selects yX7_forward.cls yX7_forward yX7_forward ∈ vi_tb := ⟨vi_mem (vi_m4 (List.mem_of_getElem? (i := 47) rfl)) rfl, vi_ix (i := 20) (by decide +kernel) rfl⟩
theorem coX7_propose : Cond.code yX7_propose cX7_propose 2 none ∈ vi_tb := vi_mem (vi_m3 (List.mem_of_getElem? (i := 120) rfl)) rfl
theorem imX7_propose : Cond.instanceMethod yX7_propose ∈ vi_tb ∧ Cond.selects yX7_propose.cls yX7_propose yX7_propose ∈ vi_tb := ⟨vi_mem (vi_m3 (List.mem_of_getElem? (i := 119) rfl)) rfl, vi_ix (i := 6) (by decide +kernel) rfl⟩
theorem coX7_receive : Cond.code yX7_receive cX7_receive 2 none ∈ vi_tb := vi_mem (vi_m4 (List.mem_of_getElem? (i := 76) rfl)) rfl
theorem imX7_receive : Cond.instanceMethod yX7_receive ∈ vi_tb ∧ Cond.selects yX7_receive.cls yX7_receive yX7_receive ∈ vi_tb := ⟨vi_mem (vi_m4 (List.mem_of_getElem? (i := 74) rfl)) rfl, vi_mem (vi_m4 (List.mem_of_getElem? (i := 75) rfl)) rfl⟩
theorem coX7_onPrepare : Cond.code yX7_onPrepare cX7_onPrepare 3 none ∈ vi_tb := vi_mem (vi_m4 (List.mem_of_getElem? (i := 80) rfl)) rfl
theorem imX7_onPrepare : Cond.instanceMethod yX7_onPrepare ∈ vi_tb ∧ Cond.selects yX7_onPrepare.cls yX7_onPrepare yX7_onPrepare ∈ vi_tb := ⟨vi_mem (vi_m4 (List.mem_of_getElem? (i := 79) rfl)) rfl, vi_ix (i := 22) (by decide +kernel) rfl⟩
theorem coX7_afterPromise : Cond.code yX7_afterPromise cX7_afterPromise 2 (some (.object "SnapCluster$Request")) ∈ vi_tb := vi_mem (vi_m4 (List.mem_of_getElem? (i := 115) rfl)) rfl
theorem imX7_afterPromise : Cond.instanceMethod yX7_afterPromise ∈ vi_tb ∧ Cond.selects yX7_afterPromise.cls yX7_afterPromise yX7_afterPromise ∈ vi_tb := ⟨vi_mem (vi_m4 (List.mem_of_getElem? (i := 114) rfl)) rfl, vi_ix (i := 25) (by decide +kernel) rfl⟩
theorem coX7_onAccept : Cond.code yX7_onAccept cX7_onAccept 2 none ∈ vi_tb := vi_mem (vi_m4 (List.mem_of_getElem? (i := 142) rfl)) rfl
theorem imX7_onAccept : Cond.instanceMethod yX7_onAccept ∈ vi_tb ∧ Cond.selects yX7_onAccept.cls yX7_onAccept yX7_onAccept ∈ vi_tb := ⟨vi_mem (vi_m4 (List.mem_of_getElem? (i := 141) rfl)) rfl, vi_ix (i := 26) (by decide +kernel) rfl⟩
theorem coX7_afterAccepted : Cond.code yX7_afterAccepted cX7_afterAccepted 3 (some (.object "SnapCluster$Request")) ∈ vi_tb := vi_mem (vi_m4 (List.mem_of_getElem? (i := 146) rfl)) rfl
theorem imX7_afterAccepted : Cond.instanceMethod yX7_afterAccepted ∈ vi_tb ∧ Cond.selects yX7_afterAccepted.cls yX7_afterAccepted yX7_afterAccepted ∈ vi_tb := ⟨vi_mem (vi_m4 (List.mem_of_getElem? (i := 145) rfl)) rfl, vi_ix (i := 27) (by decide +kernel) rfl⟩
theorem coX7_onChosen : Cond.code yX7_onChosen cX7_onChosen 2 none ∈ vi_tb := vi_mem (vi_m4 (List.mem_of_getElem? (i := 185) rfl)) rfl
theorem imX7_onChosen : Cond.instanceMethod yX7_onChosen ∈ vi_tb ∧ Cond.selects yX7_onChosen.cls yX7_onChosen yX7_onChosen ∈ vi_tb := ⟨vi_mem (vi_m4 (List.mem_of_getElem? (i := 184) rfl)) rfl, vi_ix (i := 32) (by decide +kernel) rfl⟩
theorem coX7_onState : Cond.code yX7_onState cX7_onState 2 none ∈ vi_tb := vi_mem (vi_m4 (List.mem_of_getElem? (i := 193) rfl)) rfl
theorem imX7_onState : Cond.instanceMethod yX7_onState ∈ vi_tb ∧ Cond.selects yX7_onState.cls yX7_onState yX7_onState ∈ vi_tb := ⟨vi_mem (vi_m4 (List.mem_of_getElem? (i := 192) rfl)) rfl, vi_ix (i := 33) (by decide +kernel) rfl⟩
theorem coX7_onForward : Cond.code yX7_onForward cX7_onForward 2 none ∈ vi_tb := vi_mem (vi_m5 (List.mem_of_getElem? (i := 1) rfl)) rfl
theorem imX7_onForward : Cond.instanceMethod yX7_onForward ∈ vi_tb ∧ Cond.selects yX7_onForward.cls yX7_onForward yX7_onForward ∈ vi_tb := ⟨vi_mem (vi_m5 (List.mem_of_getElem? (i := 0) rfl)) rfl, vi_ix (i := 35) (by decide +kernel) rfl⟩
theorem coX7_onBeat : Cond.code yX7_onBeat cX7_onBeat 2 none ∈ vi_tb := vi_mem (vi_m5 (List.mem_of_getElem? (i := 7) rfl)) rfl
theorem imX7_onBeat : Cond.instanceMethod yX7_onBeat ∈ vi_tb ∧ Cond.selects yX7_onBeat.cls yX7_onBeat yX7_onBeat ∈ vi_tb := ⟨vi_mem (vi_m5 (List.mem_of_getElem? (i := 6) rfl)) rfl, vi_ix (i := 36) (by decide +kernel) rfl⟩
theorem coX8_init : Cond.code yX8_init cX8_init 7 none ∈ vi_tb := vi_mem (vi_m3 (List.mem_of_getElem? (i := 47) rfl)) rfl
theorem iiX8_init : yX8_init.name = "<init>" ∧ Cond.instanceMethod yX8_init ∈ vi_tb := ⟨rfl, vi_mem (vi_m3 (List.mem_of_getElem? (i := 46) rfl)) rfl⟩
theorem coX8_takeFrom : Cond.code yX8_takeFrom cX8_takeFrom 8 (some (.object "SnapCluster$Request")) ∈ vi_tb := vi_mem (vi_m5 (List.mem_of_getElem? (i := 105) rfl)) rfl
theorem isX8_takeFrom : Cond.static yX8_takeFrom ∈ vi_tb := vi_mem (vi_m5 (List.mem_of_getElem? (i := 104) rfl)) rfl
theorem coX8_writeTo : Cond.code yX8_writeTo cX8_writeTo 3 none ∈ vi_tb := vi_mem (vi_m3 (List.mem_of_getElem? (i := 138) rfl)) rfl
theorem imX8_writeTo : Cond.instanceMethod yX8_writeTo ∈ vi_tb ∧ Cond.selects yX8_writeTo.cls yX8_writeTo yX8_writeTo ∈ vi_tb := ⟨vi_mem (vi_m3 (List.mem_of_getElem? (i := 136) rfl)) rfl, vi_mem (vi_m3 (List.mem_of_getElem? (i := 137) rfl)) rfl⟩
theorem coX8_isLike : Cond.code yX8_isLike cX8_isLike 2 (some .boolean) ∈ vi_tb := vi_mem (vi_m3 (List.mem_of_getElem? (i := 83) rfl)) rfl
theorem imX8_isLike : Cond.instanceMethod yX8_isLike ∈ vi_tb ∧ Cond.selects yX8_isLike.cls yX8_isLike yX8_isLike ∈ vi_tb := ⟨vi_mem (vi_m3 (List.mem_of_getElem? (i := 81) rfl)) rfl, vi_mem (vi_m3 (List.mem_of_getElem? (i := 82) rfl)) rfl⟩
theorem coX8_tell : Cond.code yX8_tell cX8_tell 2 (some .int) ∈ vi_tb := vi_mem (vi_m5 (List.mem_of_getElem? (i := 155) rfl)) rfl
theorem imX8_tell : Cond.instanceMethod yX8_tell ∈ vi_tb ∧ Cond.selects yX8_tell.cls yX8_tell yX8_tell ∈ vi_tb := ⟨vi_mem (vi_m5 (List.mem_of_getElem? (i := 153) rfl)) rfl, vi_mem (vi_m5 (List.mem_of_getElem? (i := 154) rfl)) rfl⟩
theorem coX9_init : Cond.code yX9_init cX9_init 1 none ∈ vi_tb := vi_mem (vi_m1 (List.mem_of_getElem? (i := 147) rfl)) rfl
theorem iiX9_init : yX9_init.name = "<init>" ∧ Cond.instanceMethod yX9_init ∈ vi_tb := ⟨rfl, vi_mem (vi_m1 (List.mem_of_getElem? (i := 146) rfl)) rfl⟩
theorem coX9_begin : Cond.code yX9_begin cX9_begin 4 none ∈ vi_tb := vi_mem (vi_m3 (List.mem_of_getElem? (i := 12) rfl)) rfl
theorem imX9_begin : Cond.instanceMethod yX9_begin ∈ vi_tb ∧ Cond.selects yX9_begin.cls yX9_begin yX9_begin ∈ vi_tb := ⟨vi_mem (vi_m3 (List.mem_of_getElem? (i := 10) rfl)) rfl, vi_mem (vi_m3 (List.mem_of_getElem? (i := 11) rfl)) rfl⟩
theorem coX9_read : Cond.code yX9_read cX9_read 3 (some .int) ∈ vi_tb := vi_mem (vi_m6 (List.mem_of_getElem? (i := 42) rfl)) rfl
theorem imX9_read : Cond.instanceMethod yX9_read ∈ vi_tb ∧ Cond.selects yX9_read.cls yX9_read yX9_read ∈ vi_tb := ⟨vi_mem (vi_m6 (List.mem_of_getElem? (i := 40) rfl)) rfl, vi_mem (vi_m6 (List.mem_of_getElem? (i := 41) rfl)) rfl⟩
theorem coX9_write : Cond.code yX9_write cX9_write 3 none ∈ vi_tb := vi_mem (vi_m3 (List.mem_of_getElem? (i := 23) rfl)) rfl
theorem imX9_write : Cond.instanceMethod yX9_write ∈ vi_tb ∧ Cond.selects yX9_write.cls yX9_write yX9_write ∈ vi_tb := ⟨vi_mem (vi_m3 (List.mem_of_getElem? (i := 21) rfl)) rfl, vi_mem (vi_m3 (List.mem_of_getElem? (i := 22) rfl)) rfl⟩
theorem coX9_ask : Cond.code yX9_ask cX9_ask 2 none ∈ vi_tb := vi_mem (vi_m3 (List.mem_of_getElem? (i := 35) rfl)) rfl
theorem imX9_ask : Cond.instanceMethod yX9_ask ∈ vi_tb ∧ Cond.selects yX9_ask.cls yX9_ask yX9_ask ∈ vi_tb := ⟨vi_mem (vi_m3 (List.mem_of_getElem? (i := 33) rfl)) rfl, vi_mem (vi_m3 (List.mem_of_getElem? (i := 34) rfl)) rfl⟩
theorem coX9_end : Cond.code yX9_end cX9_end 2 none ∈ vi_tb := vi_mem (vi_m3 (List.mem_of_getElem? (i := 31) rfl)) rfl
theorem imX9_end : Cond.instanceMethod yX9_end ∈ vi_tb ∧ Cond.selects yX9_end.cls yX9_end yX9_end ∈ vi_tb := ⟨vi_mem (vi_m3 (List.mem_of_getElem? (i := 29) rfl)) rfl, vi_mem (vi_m3 (List.mem_of_getElem? (i := 30) rfl)) rfl⟩
theorem coX9_endBy : Cond.code yX9_endBy cX9_endBy 2 none ∈ vi_tb := vi_mem (vi_m3 (List.mem_of_getElem? (i := 95) rfl)) rfl
theorem imX9_endBy : Cond.instanceMethod yX9_endBy ∈ vi_tb ∧ Cond.selects yX9_endBy.cls yX9_endBy yX9_endBy ∈ vi_tb := ⟨vi_mem (vi_m3 (List.mem_of_getElem? (i := 93) rfl)) rfl, vi_mem (vi_m3 (List.mem_of_getElem? (i := 94) rfl)) rfl⟩
theorem coX9_tell : Cond.code yX9_tell cX9_tell 2 (some .int) ∈ vi_tb := vi_mem (vi_m5 (List.mem_of_getElem? (i := 167) rfl)) rfl
theorem imX9_tell : Cond.instanceMethod yX9_tell ∈ vi_tb ∧ Cond.selects yX9_tell.cls yX9_tell yX9_tell ∈ vi_tb := ⟨vi_mem (vi_m5 (List.mem_of_getElem? (i := 165) rfl)) rfl, vi_mem (vi_m5 (List.mem_of_getElem? (i := 166) rfl)) rfl⟩
theorem coX10_init : Cond.code yX10_init cX10_init 3 none ∈ vi_tb := vi_mem (vi_m1 (List.mem_of_getElem? (i := 194) rfl)) rfl
theorem iiX10_init : yX10_init.name = "<init>" ∧ Cond.instanceMethod yX10_init ∈ vi_tb := ⟨rfl, vi_mem (vi_m1 (List.mem_of_getElem? (i := 193) rfl)) rfl⟩
theorem coX10_forget : Cond.code yX10_forget cX10_forget 2 none ∈ vi_tb := vi_mem (vi_m5 (List.mem_of_getElem? (i := 60) rfl)) rfl
theorem imX10_forget : Cond.instanceMethod yX10_forget ∈ vi_tb ∧ Cond.selects yX10_forget.cls yX10_forget yX10_forget ∈ vi_tb := ⟨vi_mem (vi_m5 (List.mem_of_getElem? (i := 58) rfl)) rfl, vi_mem (vi_m5 (List.mem_of_getElem? (i := 59) rfl)) rfl⟩
theorem coX10_rowOf : Cond.code yX10_rowOf cX10_rowOf 1 (some .int) ∈ vi_tb := vi_mem (vi_m3 (List.mem_of_getElem? (i := 200) rfl)) rfl
theorem isX10_rowOf : Cond.static yX10_rowOf ∈ vi_tb := vi_mem (vi_m3 (List.mem_of_getElem? (i := 199) rfl)) rfl
theorem coX10_valueOf : Cond.code yX10_valueOf cX10_valueOf 3 (some .int) ∈ vi_tb := vi_mem (vi_m6 (List.mem_of_getElem? (i := 47) rfl)) rfl
theorem imX10_valueOf : Cond.instanceMethod yX10_valueOf ∈ vi_tb ∧ Cond.selects yX10_valueOf.cls yX10_valueOf yX10_valueOf ∈ vi_tb := ⟨vi_mem (vi_m6 (List.mem_of_getElem? (i := 45) rfl)) rfl, vi_mem (vi_m6 (List.mem_of_getElem? (i := 46) rfl)) rfl⟩
theorem coX10_requestOf : Cond.code yX10_requestOf cX10_requestOf 3 (some (.object "SnapCluster$Request")) ∈ vi_tb := vi_mem (vi_m4 (List.mem_of_getElem? (i := 88) rfl)) rfl
theorem imX10_requestOf : Cond.instanceMethod yX10_requestOf ∈ vi_tb ∧ Cond.selects yX10_requestOf.cls yX10_requestOf yX10_requestOf ∈ vi_tb := ⟨vi_mem (vi_m4 (List.mem_of_getElem? (i := 86) rfl)) rfl, vi_mem (vi_m4 (List.mem_of_getElem? (i := 87) rfl)) rfl⟩
theorem coX10_base : Cond.code yX10_base cX10_base 1 (some .int) ∈ vi_tb := vi_mem (vi_m4 (List.mem_of_getElem? (i := 92) rfl)) rfl
theorem imX10_base : Cond.instanceMethod yX10_base ∈ vi_tb ∧ Cond.selects yX10_base.cls yX10_base yX10_base ∈ vi_tb := ⟨vi_mem (vi_m4 (List.mem_of_getElem? (i := 90) rfl)) rfl, vi_mem (vi_m4 (List.mem_of_getElem? (i := 91) rfl)) rfl⟩
theorem coX10_isNew : Cond.code yX10_isNew cX10_isNew 2 (some .boolean) ∈ vi_tb := vi_mem (vi_m3 (List.mem_of_getElem? (i := 112) rfl)) rfl
theorem imX10_isNew : Cond.instanceMethod yX10_isNew ∈ vi_tb ∧ Cond.selects yX10_isNew.cls yX10_isNew yX10_isNew ∈ vi_tb := ⟨vi_mem (vi_m3 (List.mem_of_getElem? (i := 110) rfl)) rfl, vi_mem (vi_m3 (List.mem_of_getElem? (i := 111) rfl)) rfl⟩
theorem coX10_learn : Cond.code yX10_learn cX10_learn 4 none ∈ vi_tb := vi_mem (vi_m4 (List.mem_of_getElem? (i := 154) rfl)) rfl
theorem imX10_learn : Cond.instanceMethod yX10_learn ∈ vi_tb ∧ Cond.selects yX10_learn.cls yX10_learn yX10_learn ∈ vi_tb := ⟨vi_mem (vi_m4 (List.mem_of_getElem? (i := 152) rfl)) rfl, vi_mem (vi_m4 (List.mem_of_getElem? (i := 153) rfl)) rfl⟩
theorem coX10_isBelated : Cond.code yX10_isBelated cX10_isBelated 3 (some .boolean) ∈ vi_tb := vi_mem (vi_m4 (List.mem_of_getElem? (i := 160) rfl)) rfl
theorem imX10_isBelated : Cond.instanceMethod yX10_isBelated ∈ vi_tb ∧ Cond.selects yX10_isBelated.cls yX10_isBelated yX10_isBelated ∈ vi_tb := ⟨vi_mem (vi_m4 (List.mem_of_getElem? (i := 159) rfl)) rfl, vi_ix (i := 29) (by decide +kernel) rfl⟩
theorem coX10_writeValues : Cond.code yX10_writeValues cX10_writeValues 5 none ∈ vi_tb := vi_mem (vi_m4 (List.mem_of_getElem? (i := 164) rfl)) rfl
theorem imX10_writeValues : Cond.instanceMethod yX10_writeValues ∈ vi_tb ∧ Cond.selects yX10_writeValues.cls yX10_writeValues yX10_writeValues ∈ vi_tb := ⟨vi_mem (vi_m4 (List.mem_of_getElem? (i := 163) rfl)) rfl, vi_ix (i := 30) (by decide +kernel) rfl⟩
theorem coX10_writeTo : Cond.code yX10_writeTo cX10_writeTo 4 none ∈ vi_tb := vi_mem (vi_m3 (List.mem_of_getElem? (i := 196) rfl)) rfl
theorem imX10_writeTo : Cond.instanceMethod yX10_writeTo ∈ vi_tb ∧ Cond.selects yX10_writeTo.cls yX10_writeTo yX10_writeTo ∈ vi_tb := ⟨vi_mem (vi_m3 (List.mem_of_getElem? (i := 194) rfl)) rfl, vi_mem (vi_m3 (List.mem_of_getElem? (i := 195) rfl)) rfl⟩
theorem coX10_writeValuesTo : Cond.code yX10_writeValuesTo cX10_writeValuesTo 5 none ∈ vi_tb := vi_mem (vi_m3 (List.mem_of_getElem? (i := 210) rfl)) rfl
theorem imX10_writeValuesTo : Cond.instanceMethod yX10_writeValuesTo ∈ vi_tb ∧ Cond.selects yX10_writeValuesTo.cls yX10_writeValuesTo yX10_writeValuesTo ∈ vi_tb := ⟨vi_mem (vi_m3 (List.mem_of_getElem? (i := 208) rfl)) rfl, vi_mem (vi_m3 (List.mem_of_getElem? (i := 209) rfl)) rfl⟩
theorem coX10_takeFrom : Cond.code yX10_takeFrom cX10_takeFrom 3 none ∈ vi_tb := vi_mem (vi_m4 (List.mem_of_getElem? (i := 219) rfl)) rfl
theorem imX10_takeFrom : Cond.instanceMethod yX10_takeFrom ∈ vi_tb ∧ Cond.selects yX10_takeFrom.cls yX10_takeFrom yX10_takeFrom ∈ vi_tb := ⟨vi_mem (vi_m4 (List.mem_of_getElem? (i := 217) rfl)) rfl, vi_mem (vi_m4 (List.mem_of_getElem? (i := 218) rfl)) rfl⟩
theorem coX10_takeValuesFrom : Cond.code yX10_takeValuesFrom cX10_takeValuesFrom 4 none ∈ vi_tb := vi_mem (vi_m4 (List.mem_of_getElem? (i := 228) rfl)) rfl
theorem imX10_takeValuesFrom : Cond.instanceMethod yX10_takeValuesFrom ∈ vi_tb ∧ Cond.selects yX10_takeValuesFrom.cls yX10_takeValuesFrom yX10_takeValuesFrom ∈ vi_tb := ⟨vi_mem (vi_m4 (List.mem_of_getElem? (i := 227) rfl)) rfl, vi_ix (i := 34) (by decide +kernel) rfl⟩
theorem coX10_takeOlderFrom : Cond.code yX10_takeOlderFrom cX10_takeOlderFrom 2 none ∈ vi_tb := vi_mem (vi_m5 (List.mem_of_getElem? (i := 115) rfl)) rfl
theorem imX10_takeOlderFrom : Cond.instanceMethod yX10_takeOlderFrom ∈ vi_tb ∧ Cond.selects yX10_takeOlderFrom.cls yX10_takeOlderFrom yX10_takeOlderFrom ∈ vi_tb := ⟨vi_mem (vi_m5 (List.mem_of_getElem? (i := 113) rfl)) rfl, vi_mem (vi_m5 (List.mem_of_getElem? (i := 114) rfl)) rfl⟩
theorem coX11_init : Cond.code yX11_init cX11_init 12 none ∈ vi_tb := vi_mem (vi_m1 (List.mem_of_getElem? (i := 27) rfl)) rfl
theorem iiX11_init : yX11_init.name = "<init>" ∧ Cond.instanceMethod yX11_init ∈ vi_tb := ⟨rfl, vi_mem (vi_m1 (List.mem_of_getElem? (i := 26) rfl)) rfl⟩
theorem coX11_beginAt : Cond.code yX11_beginAt cX11_beginAt 6 (some .boolean) ∈ vi_tb := vi_mem (vi_m2 (List.mem_of_getElem? (i := 236) rfl)) rfl
theorem imX11_beginAt : Cond.instanceMethod yX11_beginAt ∈ vi_tb ∧ Cond.selects yX11_beginAt.cls yX11_beginAt yX11_beginAt ∈ vi_tb := ⟨vi_mem (vi_m2 (List.mem_of_getElem? (i := 234) rfl)) rfl, vi_mem (vi_m2 (List.mem_of_getElem? (i := 235) rfl)) rfl⟩
theorem coX11_readKey : Cond.code yX11_readKey cX11_readKey 5 (some .int) ∈ vi_tb := vi_mem (vi_m5 (List.mem_of_getElem? (i := 200) rfl)) rfl
theorem imX11_readKey : Cond.instanceMethod yX11_readKey ∈ vi_tb ∧ Cond.selects yX11_readKey.cls yX11_readKey yX11_readKey ∈ vi_tb := ⟨vi_mem (vi_m5 (List.mem_of_getElem? (i := 198) rfl)) rfl, vi_mem (vi_m5 (List.mem_of_getElem? (i := 199) rfl)) rfl⟩
theorem coX11_writeKey : Cond.code yX11_writeKey cX11_writeKey 5 (some .boolean) ∈ vi_tb := vi_mem (vi_m3 (List.mem_of_getElem? (i := 16) rfl)) rfl
theorem imX11_writeKey : Cond.instanceMethod yX11_writeKey ∈ vi_tb ∧ Cond.selects yX11_writeKey.cls yX11_writeKey yX11_writeKey ∈ vi_tb := ⟨vi_mem (vi_m3 (List.mem_of_getElem? (i := 14) rfl)) rfl, vi_mem (vi_m3 (List.mem_of_getElem? (i := 15) rfl)) rfl⟩
theorem coX11_commitIt : Cond.code yX11_commitIt cX11_commitIt 4 (some .int) ∈ vi_tb := vi_mem (vi_m3 (List.mem_of_getElem? (i := 27) rfl)) rfl
theorem imX11_commitIt : Cond.instanceMethod yX11_commitIt ∈ vi_tb ∧ Cond.selects yX11_commitIt.cls yX11_commitIt yX11_commitIt ∈ vi_tb := ⟨vi_mem (vi_m3 (List.mem_of_getElem? (i := 25) rfl)) rfl, vi_mem (vi_m3 (List.mem_of_getElem? (i := 26) rfl)) rfl⟩
theorem coX11_giveUp : Cond.code yX11_giveUp cX11_giveUp 3 (some .boolean) ∈ vi_tb := vi_mem (vi_m3 (List.mem_of_getElem? (i := 87) rfl)) rfl
theorem imX11_giveUp : Cond.instanceMethod yX11_giveUp ∈ vi_tb ∧ Cond.selects yX11_giveUp.cls yX11_giveUp yX11_giveUp ∈ vi_tb := ⟨vi_mem (vi_m3 (List.mem_of_getElem? (i := 85) rfl)) rfl, vi_mem (vi_m3 (List.mem_of_getElem? (i := 86) rfl)) rfl⟩
theorem coX11_retryAt : Cond.code yX11_retryAt cX11_retryAt 5 (some .int) ∈ vi_tb := vi_mem (vi_m3 (List.mem_of_getElem? (i := 91) rfl)) rfl
theorem imX11_retryAt : Cond.instanceMethod yX11_retryAt ∈ vi_tb ∧ Cond.selects yX11_retryAt.cls yX11_retryAt yX11_retryAt ∈ vi_tb := ⟨vi_mem (vi_m3 (List.mem_of_getElem? (i := 89) rfl)) rfl, vi_mem (vi_m3 (List.mem_of_getElem? (i := 90) rfl)) rfl⟩
theorem coX11_tickOf : Cond.code yX11_tickOf cX11_tickOf 3 (some .int) ∈ vi_tb := vi_mem (vi_m3 (List.mem_of_getElem? (i := 100) rfl)) rfl
theorem imX11_tickOf : Cond.instanceMethod yX11_tickOf ∈ vi_tb ∧ Cond.selects yX11_tickOf.cls yX11_tickOf yX11_tickOf ∈ vi_tb := ⟨vi_mem (vi_m3 (List.mem_of_getElem? (i := 98) rfl)) rfl, vi_mem (vi_m3 (List.mem_of_getElem? (i := 99) rfl)) rfl⟩
theorem coX11_deliverAt : Cond.code yX11_deliverAt cX11_deliverAt 5 (some .int) ∈ vi_tb := vi_mem (vi_m4 (List.mem_of_getElem? (i := 60) rfl)) rfl
theorem imX11_deliverAt : Cond.instanceMethod yX11_deliverAt ∈ vi_tb ∧ Cond.selects yX11_deliverAt.cls yX11_deliverAt yX11_deliverAt ∈ vi_tb := ⟨vi_mem (vi_m4 (List.mem_of_getElem? (i := 58) rfl)) rfl, vi_mem (vi_m4 (List.mem_of_getElem? (i := 59) rfl)) rfl⟩
theorem coX11_loseAt : Cond.code yX11_loseAt cX11_loseAt 2 (some .boolean) ∈ vi_tb := vi_mem (vi_m5 (List.mem_of_getElem? (i := 11) rfl)) rfl
theorem imX11_loseAt : Cond.instanceMethod yX11_loseAt ∈ vi_tb ∧ Cond.selects yX11_loseAt.cls yX11_loseAt yX11_loseAt ∈ vi_tb := ⟨vi_mem (vi_m5 (List.mem_of_getElem? (i := 9) rfl)) rfl, vi_mem (vi_m5 (List.mem_of_getElem? (i := 10) rfl)) rfl⟩
theorem coX11_doubleAt : Cond.code yX11_doubleAt cX11_doubleAt 3 (some .boolean) ∈ vi_tb := vi_mem (vi_m5 (List.mem_of_getElem? (i := 15) rfl)) rfl
theorem imX11_doubleAt : Cond.instanceMethod yX11_doubleAt ∈ vi_tb ∧ Cond.selects yX11_doubleAt.cls yX11_doubleAt yX11_doubleAt ∈ vi_tb := ⟨vi_mem (vi_m5 (List.mem_of_getElem? (i := 13) rfl)) rfl, vi_mem (vi_m5 (List.mem_of_getElem? (i := 14) rfl)) rfl⟩
theorem coX11_spoilAt : Cond.code yX11_spoilAt cX11_spoilAt 5 (some .boolean) ∈ vi_tb := vi_mem (vi_m5 (List.mem_of_getElem? (i := 32) rfl)) rfl
theorem imX11_spoilAt : Cond.instanceMethod yX11_spoilAt ∈ vi_tb ∧ Cond.selects yX11_spoilAt.cls yX11_spoilAt yX11_spoilAt ∈ vi_tb := ⟨vi_mem (vi_m5 (List.mem_of_getElem? (i := 30) rfl)) rfl, vi_mem (vi_m5 (List.mem_of_getElem? (i := 31) rfl)) rfl⟩
theorem coX11_turnTo : Cond.code yX11_turnTo cX11_turnTo 4 (some .boolean) ∈ vi_tb := vi_mem (vi_m5 (List.mem_of_getElem? (i := 48) rfl)) rfl
theorem imX11_turnTo : Cond.instanceMethod yX11_turnTo ∈ vi_tb ∧ Cond.selects yX11_turnTo.cls yX11_turnTo yX11_turnTo ∈ vi_tb := ⟨vi_mem (vi_m5 (List.mem_of_getElem? (i := 46) rfl)) rfl, vi_mem (vi_m5 (List.mem_of_getElem? (i := 47) rfl)) rfl⟩
theorem coX11_crashAfter : Cond.code yX11_crashAfter cX11_crashAfter 4 (some .boolean) ∈ vi_tb := vi_mem (vi_m5 (List.mem_of_getElem? (i := 120) rfl)) rfl
theorem imX11_crashAfter : Cond.instanceMethod yX11_crashAfter ∈ vi_tb ∧ Cond.selects yX11_crashAfter.cls yX11_crashAfter yX11_crashAfter ∈ vi_tb := ⟨vi_mem (vi_m5 (List.mem_of_getElem? (i := 118) rfl)) rfl, vi_mem (vi_m5 (List.mem_of_getElem? (i := 119) rfl)) rfl⟩
theorem coX11_replicaOf : Cond.code yX11_replicaOf cX11_replicaOf 4 (some .int) ∈ vi_tb := vi_mem (vi_m5 (List.mem_of_getElem? (i := 124) rfl)) rfl
theorem imX11_replicaOf : Cond.instanceMethod yX11_replicaOf ∈ vi_tb ∧ Cond.selects yX11_replicaOf.cls yX11_replicaOf yX11_replicaOf ∈ vi_tb := ⟨vi_mem (vi_m5 (List.mem_of_getElem? (i := 122) rfl)) rfl, vi_mem (vi_m5 (List.mem_of_getElem? (i := 123) rfl)) rfl⟩
theorem coX11_journalOf : Cond.code yX11_journalOf cX11_journalOf 4 (some .int) ∈ vi_tb := vi_mem (vi_m5 (List.mem_of_getElem? (i := 133) rfl)) rfl
theorem imX11_journalOf : Cond.instanceMethod yX11_journalOf ∈ vi_tb ∧ Cond.selects yX11_journalOf.cls yX11_journalOf yX11_journalOf ∈ vi_tb := ⟨vi_mem (vi_m5 (List.mem_of_getElem? (i := 131) rfl)) rfl, vi_mem (vi_m5 (List.mem_of_getElem? (i := 132) rfl)) rfl⟩
theorem coX11_blockOf : Cond.code yX11_blockOf cX11_blockOf 5 (some .long) ∈ vi_tb := vi_mem (vi_m5 (List.mem_of_getElem? (i := 141) rfl)) rfl
theorem imX11_blockOf : Cond.instanceMethod yX11_blockOf ∈ vi_tb ∧ Cond.selects yX11_blockOf.cls yX11_blockOf yX11_blockOf ∈ vi_tb := ⟨vi_mem (vi_m5 (List.mem_of_getElem? (i := 139) rfl)) rfl, vi_mem (vi_m5 (List.mem_of_getElem? (i := 140) rfl)) rfl⟩
theorem coX11_frameOf : Cond.code yX11_frameOf cX11_frameOf 8 (some .long) ∈ vi_tb := vi_mem (vi_m5 (List.mem_of_getElem? (i := 145) rfl)) rfl
theorem imX11_frameOf : Cond.instanceMethod yX11_frameOf ∈ vi_tb ∧ Cond.selects yX11_frameOf.cls yX11_frameOf yX11_frameOf ∈ vi_tb := ⟨vi_mem (vi_m5 (List.mem_of_getElem? (i := 143) rfl)) rfl, vi_mem (vi_m5 (List.mem_of_getElem? (i := 144) rfl)) rfl⟩
theorem coX11_valueAt : Cond.code yX11_valueAt cX11_valueAt 5 (some .int) ∈ vi_tb := vi_mem (vi_m6 (List.mem_of_getElem? (i := 55) rfl)) rfl
theorem imX11_valueAt : Cond.instanceMethod yX11_valueAt ∈ vi_tb ∧ Cond.selects yX11_valueAt.cls yX11_valueAt yX11_valueAt ∈ vi_tb := ⟨vi_mem (vi_m6 (List.mem_of_getElem? (i := 53) rfl)) rfl, vi_mem (vi_m6 (List.mem_of_getElem? (i := 54) rfl)) rfl⟩
theorem coX11_slotOf : Cond.code yX11_slotOf cX11_slotOf 6 (some .int) ∈ vi_tb := vi_mem (vi_m5 (List.mem_of_getElem? (i := 150) rfl)) rfl
theorem imX11_slotOf : Cond.instanceMethod yX11_slotOf ∈ vi_tb ∧ Cond.selects yX11_slotOf.cls yX11_slotOf yX11_slotOf ∈ vi_tb := ⟨vi_mem (vi_m5 (List.mem_of_getElem? (i := 148) rfl)) rfl, vi_mem (vi_m5 (List.mem_of_getElem? (i := 149) rfl)) rfl⟩
theorem coX11_knownOf : Cond.code yX11_knownOf cX11_knownOf 5 (some .int) ∈ vi_tb := vi_mem (vi_m5 (List.mem_of_getElem? (i := 159) rfl)) rfl
theorem imX11_knownOf : Cond.instanceMethod yX11_knownOf ∈ vi_tb ∧ Cond.selects yX11_knownOf.cls yX11_knownOf yX11_knownOf ∈ vi_tb := ⟨vi_mem (vi_m5 (List.mem_of_getElem? (i := 157) rfl)) rfl, vi_mem (vi_m5 (List.mem_of_getElem? (i := 158) rfl)) rfl⟩
theorem coX11_sessionOf : Cond.code yX11_sessionOf cX11_sessionOf 4 (some .int) ∈ vi_tb := vi_mem (vi_m5 (List.mem_of_getElem? (i := 163) rfl)) rfl
theorem imX11_sessionOf : Cond.instanceMethod yX11_sessionOf ∈ vi_tb ∧ Cond.selects yX11_sessionOf.cls yX11_sessionOf yX11_sessionOf ∈ vi_tb := ⟨vi_mem (vi_m5 (List.mem_of_getElem? (i := 161) rfl)) rfl, vi_mem (vi_m5 (List.mem_of_getElem? (i := 162) rfl)) rfl⟩
theorem coX11_messageOf : Cond.code yX11_messageOf cX11_messageOf 4 (some .int) ∈ vi_tb := vi_mem (vi_m5 (List.mem_of_getElem? (i := 171) rfl)) rfl
theorem imX11_messageOf : Cond.instanceMethod yX11_messageOf ∈ vi_tb ∧ Cond.selects yX11_messageOf.cls yX11_messageOf yX11_messageOf ∈ vi_tb := ⟨vi_mem (vi_m5 (List.mem_of_getElem? (i := 169) rfl)) rfl, vi_mem (vi_m5 (List.mem_of_getElem? (i := 170) rfl)) rfl⟩
theorem coX11_lookAt : Cond.code yX11_lookAt cX11_lookAt 2 (some .int) ∈ vi_tb := vi_mem (vi_m5 (List.mem_of_getElem? (i := 180) rfl)) rfl
theorem imX11_lookAt : Cond.instanceMethod yX11_lookAt ∈ vi_tb ∧ Cond.selects yX11_lookAt.cls yX11_lookAt yX11_lookAt ∈ vi_tb := ⟨vi_mem (vi_m5 (List.mem_of_getElem? (i := 178) rfl)) rfl, vi_mem (vi_m5 (List.mem_of_getElem? (i := 179) rfl)) rfl⟩
theorem coX11_greatestIndex : Cond.code yX11_greatestIndex cX11_greatestIndex 3 (some .int) ∈ vi_tb := vi_mem (vi_m5 (List.mem_of_getElem? (i := 184) rfl)) rfl
theorem imX11_greatestIndex : Cond.instanceMethod yX11_greatestIndex ∈ vi_tb ∧ Cond.selects yX11_greatestIndex.cls yX11_greatestIndex yX11_greatestIndex ∈ vi_tb := ⟨vi_mem (vi_m5 (List.mem_of_getElem? (i := 183) rfl)) rfl, vi_ix (i := 45) (by decide +kernel) rfl⟩
theorem coX11_waitingSessions : Cond.code yX11_waitingSessions cX11_waitingSessions 3 (some .int) ∈ vi_tb := vi_mem (vi_m5 (List.mem_of_getElem? (i := 188) rfl)) rfl
theorem imX11_waitingSessions : Cond.instanceMethod yX11_waitingSessions ∈ vi_tb ∧ Cond.selects yX11_waitingSessions.cls yX11_waitingSessions yX11_waitingSessions ∈ vi_tb := ⟨vi_mem (vi_m5 (List.mem_of_getElem? (i := 187) rfl)) rfl, vi_ix (i := 46) (by decide +kernel) rfl⟩
theorem coX11_isKey : Cond.code yX11_isKey cX11_isKey 1 (some .boolean) ∈ vi_tb := vi_mem (vi_m3 (List.mem_of_getElem? (i := 19) rfl)) rfl
theorem isX11_isKey : Cond.static yX11_isKey ∈ vi_tb := vi_mem (vi_m3 (List.mem_of_getElem? (i := 18) rfl)) rfl
theorem coX11_isIn : Cond.code yX11_isIn cX11_isIn 2 (some .boolean) ∈ vi_tb := vi_mem (vi_m3 (List.mem_of_getElem? (i := 147) rfl)) rfl
theorem isX11_isIn : Cond.static yX11_isIn ∈ vi_tb := vi_mem (vi_m3 (List.mem_of_getElem? (i := 146) rfl)) rfl
theorem coX11_sessionNumber : Cond.code yX11_sessionNumber cX11_sessionNumber 2 (some (.object "SnapCluster$Session")) ∈ vi_tb := vi_mem (vi_m3 (List.mem_of_getElem? (i := 0) rfl)) rfl
theorem imX11_sessionNumber : Cond.instanceMethod yX11_sessionNumber ∈ vi_tb ∧ Cond.selects yX11_sessionNumber.cls yX11_sessionNumber yX11_sessionNumber ∈ vi_tb := ⟨vi_mem (vi_m2 (List.mem_of_getElem? (i := 239) rfl)) rfl, vi_ix (i := 2) (by decide +kernel) rfl⟩
theorem coX11_replicaNumber : Cond.code yX11_replicaNumber cX11_replicaNumber 2 (some (.object "SnapCluster$Replica")) ∈ vi_tb := vi_mem (vi_m3 (List.mem_of_getElem? (i := 8) rfl)) rfl
theorem imX11_replicaNumber : Cond.instanceMethod yX11_replicaNumber ∈ vi_tb ∧ Cond.selects yX11_replicaNumber.cls yX11_replicaNumber yX11_replicaNumber ∈ vi_tb := ⟨vi_mem (vi_m3 (List.mem_of_getElem? (i := 7) rfl)) rfl, vi_ix (i := 4) (by decide +kernel) rfl⟩
theorem coX11_upNumber : Cond.code yX11_upNumber cX11_upNumber 3 (some (.object "SnapCluster$Replica")) ∈ vi_tb := vi_mem (vi_m3 (List.mem_of_getElem? (i := 4) rfl)) rfl
theorem imX11_upNumber : Cond.instanceMethod yX11_upNumber ∈ vi_tb ∧ Cond.selects yX11_upNumber.cls yX11_upNumber yX11_upNumber ∈ vi_tb := ⟨vi_mem (vi_m3 (List.mem_of_getElem? (i := 3) rfl)) rfl, vi_ix (i := 3) (by decide +kernel) rfl⟩
theorem coX12_init : Cond.code yX12_init cX12_init 6 none ∈ vi_tb := vi_mem (vi_m6 (List.mem_of_getElem? (i := 76) rfl)) rfl
theorem iiX12_init : yX12_init.name = "<init>" ∧ Cond.instanceMethod yX12_init ∈ vi_tb := ⟨rfl, vi_mem (vi_m6 (List.mem_of_getElem? (i := 75) rfl)) rfl⟩
theorem coX12_thrown : Cond.code yX12_thrown cX12_thrown 1 (some .int) ∈ vi_tb := vi_mem (vi_m7 (List.mem_of_getElem? (i := 76) rfl)) rfl
theorem imX12_thrown : Cond.instanceMethod yX12_thrown ∈ vi_tb ∧ Cond.selects yX12_thrown.cls yX12_thrown yX12_thrown ∈ vi_tb := ⟨vi_mem (vi_m7 (List.mem_of_getElem? (i := 74) rfl)) rfl, vi_mem (vi_m7 (List.mem_of_getElem? (i := 75) rfl)) rfl⟩
theorem coX12_isReplica : Cond.code yX12_isReplica cX12_isReplica 2 (some .boolean) ∈ vi_tb := vi_mem (vi_m7 (List.mem_of_getElem? (i := 91) rfl)) rfl
theorem imX12_isReplica : Cond.instanceMethod yX12_isReplica ∈ vi_tb ∧ Cond.selects yX12_isReplica.cls yX12_isReplica yX12_isReplica ∈ vi_tb := ⟨vi_mem (vi_m7 (List.mem_of_getElem? (i := 90) rfl)) rfl, vi_ix (i := 55) (by decide +kernel) rfl⟩
theorem coX12_isUp : Cond.code yX12_isUp cX12_isUp 2 (some .boolean) ∈ vi_tb := vi_mem (vi_m7 (List.mem_of_getElem? (i := 87) rfl)) rfl
theorem imX12_isUp : Cond.instanceMethod yX12_isUp ∈ vi_tb ∧ Cond.selects yX12_isUp.cls yX12_isUp yX12_isUp ∈ vi_tb := ⟨vi_mem (vi_m7 (List.mem_of_getElem? (i := 86) rfl)) rfl, vi_ix (i := 54) (by decide +kernel) rfl⟩
theorem coX12_isSession : Cond.code yX12_isSession cX12_isSession 1 (some .boolean) ∈ vi_tb := vi_mem (vi_m7 (List.mem_of_getElem? (i := 83) rfl)) rfl
theorem isX12_isSession : Cond.static yX12_isSession ∈ vi_tb := vi_mem (vi_m7 (List.mem_of_getElem? (i := 82) rfl)) rfl
theorem coX12_isKey : Cond.code yX12_isKey cX12_isKey 1 (some .boolean) ∈ vi_tb := vi_mem (vi_m7 (List.mem_of_getElem? (i := 98) rfl)) rfl
theorem isX12_isKey : Cond.static yX12_isKey ∈ vi_tb := vi_mem (vi_m7 (List.mem_of_getElem? (i := 97) rfl)) rfl
theorem coX12_at : Cond.code yX12_at cX12_at 2 (some .int) ∈ vi_tb := vi_mem (vi_m7 (List.mem_of_getElem? (i := 101) rfl)) rfl
theorem isX12_at : Cond.static yX12_at ∈ vi_tb := vi_mem (vi_m7 (List.mem_of_getElem? (i := 100) rfl)) rfl
theorem coX12_verdictOf : Cond.code yX12_verdictOf cX12_verdictOf 5 (some .int) ∈ vi_tb := vi_mem (vi_m8 (List.mem_of_getElem? (i := 24) rfl)) rfl
theorem imX12_verdictOf : Cond.instanceMethod yX12_verdictOf ∈ vi_tb ∧ Cond.selects yX12_verdictOf.cls yX12_verdictOf yX12_verdictOf ∈ vi_tb := ⟨vi_mem (vi_m8 (List.mem_of_getElem? (i := 23) rfl)) rfl, vi_ix (i := 89) (by decide +kernel) rfl⟩
theorem coX12_applyTo : Cond.code yX12_applyTo cX12_applyTo 9 none ∈ vi_tb := vi_mem (vi_m8 (List.mem_of_getElem? (i := 20) rfl)) rfl
theorem imX12_applyTo : Cond.instanceMethod yX12_applyTo ∈ vi_tb ∧ Cond.selects yX12_applyTo.cls yX12_applyTo yX12_applyTo ∈ vi_tb := ⟨vi_mem (vi_m8 (List.mem_of_getElem? (i := 19) rfl)) rfl, vi_ix (i := 88) (by decide +kernel) rfl⟩
theorem coX12_lay : Cond.code yX12_lay cX12_lay 2 none ∈ vi_tb := vi_mem (vi_m6 (List.mem_of_getElem? (i := 88) rfl)) rfl
theorem imX12_lay : Cond.instanceMethod yX12_lay ∈ vi_tb ∧ Cond.selects yX12_lay.cls yX12_lay yX12_lay ∈ vi_tb := ⟨vi_mem (vi_m6 (List.mem_of_getElem? (i := 87) rfl)) rfl, vi_ix (i := 49) (by decide +kernel) rfl⟩
theorem coX12_layU : Cond.code yX12_layU cX12_layU 3 none ∈ vi_tb := vi_mem (vi_m7 (List.mem_of_getElem? (i := 165) rfl)) rfl
theorem imX12_layU : Cond.instanceMethod yX12_layU ∈ vi_tb ∧ Cond.selects yX12_layU.cls yX12_layU yX12_layU ∈ vi_tb := ⟨vi_mem (vi_m7 (List.mem_of_getElem? (i := 164) rfl)) rfl, vi_ix (i := 66) (by decide +kernel) rfl⟩
theorem coX12_layTwo : Cond.code yX12_layTwo cX12_layTwo 2 none ∈ vi_tb := vi_mem (vi_m7 (List.mem_of_getElem? (i := 173) rfl)) rfl
theorem imX12_layTwo : Cond.instanceMethod yX12_layTwo ∈ vi_tb ∧ Cond.selects yX12_layTwo.cls yX12_layTwo yX12_layTwo ∈ vi_tb := ⟨vi_mem (vi_m7 (List.mem_of_getElem? (i := 172) rfl)) rfl, vi_ix (i := 68) (by decide +kernel) rfl⟩
theorem coX12_layFour : Cond.code yX12_layFour cX12_layFour 2 none ∈ vi_tb := vi_mem (vi_m7 (List.mem_of_getElem? (i := 177) rfl)) rfl
theorem imX12_layFour : Cond.instanceMethod yX12_layFour ∈ vi_tb ∧ Cond.selects yX12_layFour.cls yX12_layFour yX12_layFour ∈ vi_tb := ⟨vi_mem (vi_m7 (List.mem_of_getElem? (i := 176) rfl)) rfl, vi_ix (i := 69) (by decide +kernel) rfl⟩
theorem coX12_layRequest : Cond.code yX12_layRequest cX12_layRequest 3 none ∈ vi_tb := vi_mem (vi_m7 (List.mem_of_getElem? (i := 169) rfl)) rfl
theorem imX12_layRequest : Cond.instanceMethod yX12_layRequest ∈ vi_tb ∧ Cond.selects yX12_layRequest.cls yX12_layRequest yX12_layRequest ∈ vi_tb := ⟨vi_mem (vi_m7 (List.mem_of_getElem? (i := 168) rfl)) rfl, vi_ix (i := 67) (by decide +kernel) rfl⟩
theorem coX12_layState : Cond.code yX12_layState cX12_layState 4 none ∈ vi_tb := vi_mem (vi_m7 (List.mem_of_getElem? (i := 204) rfl)) rfl
theorem imX12_layState : Cond.instanceMethod yX12_layState ∈ vi_tb ∧ Cond.selects yX12_layState.cls yX12_layState yX12_layState ∈ vi_tb := ⟨vi_mem (vi_m7 (List.mem_of_getElem? (i := 203) rfl)) rfl, vi_ix (i := 75) (by decide +kernel) rfl⟩
theorem coX12_layCheck : Cond.code yX12_layCheck cX12_layCheck 6 none ∈ vi_tb := vi_mem (vi_m6 (List.mem_of_getElem? (i := 92) rfl)) rfl
theorem imX12_layCheck : Cond.instanceMethod yX12_layCheck ∈ vi_tb ∧ Cond.selects yX12_layCheck.cls yX12_layCheck yX12_layCheck ∈ vi_tb := ⟨vi_mem (vi_m6 (List.mem_of_getElem? (i := 91) rfl)) rfl, vi_ix (i := 50) (by decide +kernel) rfl⟩
theorem coX12_layHead : Cond.code yX12_layHead cX12_layHead 4 none ∈ vi_tb := vi_mem (vi_m6 (List.mem_of_getElem? (i := 84) rfl)) rfl
theorem imX12_layHead : Cond.instanceMethod yX12_layHead ∈ vi_tb ∧ Cond.selects yX12_layHead.cls yX12_layHead yX12_layHead ∈ vi_tb := ⟨vi_mem (vi_m6 (List.mem_of_getElem? (i := 83) rfl)) rfl, vi_ix (i := 48) (by decide +kernel) rfl⟩
theorem coX12_asRecord : Cond.code yX12_asRecord cX12_asRecord 4 none ∈ vi_tb := vi_mem (vi_m7 (List.mem_of_getElem? (i := 185) rfl)) rfl
theorem imX12_asRecord : Cond.instanceMethod yX12_asRecord ∈ vi_tb ∧ Cond.selects yX12_asRecord.cls yX12_asRecord yX12_asRecord ∈ vi_tb := ⟨vi_mem (vi_m7 (List.mem_of_getElem? (i := 184) rfl)) rfl, vi_ix (i := 71) (by decide +kernel) rfl⟩
theorem coX12_putBlock : Cond.code yX12_putBlock cX12_putBlock 6 (some .boolean) ∈ vi_tb := vi_mem (vi_m6 (List.mem_of_getElem? (i := 97) rfl)) rfl
theorem imX12_putBlock : Cond.instanceMethod yX12_putBlock ∈ vi_tb ∧ Cond.selects yX12_putBlock.cls yX12_putBlock yX12_putBlock ∈ vi_tb := ⟨vi_mem (vi_m6 (List.mem_of_getElem? (i := 96) rfl)) rfl, vi_ix (i := 51) (by decide +kernel) rfl⟩
theorem coX12_firstBlock : Cond.code yX12_firstBlock cX12_firstBlock 1 (some .int) ∈ vi_tb := vi_mem (vi_m7 (List.mem_of_getElem? (i := 188) rfl)) rfl
theorem isX12_firstBlock : Cond.static yX12_firstBlock ∈ vi_tb := vi_mem (vi_m7 (List.mem_of_getElem? (i := 187) rfl)) rfl
theorem coX12_note : Cond.code yX12_note cX12_note 11 (some .boolean) ∈ vi_tb := vi_mem (vi_m7 (List.mem_of_getElem? (i := 181) rfl)) rfl
theorem imX12_note : Cond.instanceMethod yX12_note ∈ vi_tb ∧ Cond.selects yX12_note.cls yX12_note yX12_note ∈ vi_tb := ⟨vi_mem (vi_m7 (List.mem_of_getElem? (i := 180) rfl)) rfl, vi_ix (i := 70) (by decide +kernel) rfl⟩
theorem coX12_addNote : Cond.code yX12_addNote cX12_addNote 7 none ∈ vi_tb := vi_mem (vi_m7 (List.mem_of_getElem? (i := 192) rfl)) rfl
theorem imX12_addNote : Cond.instanceMethod yX12_addNote ∈ vi_tb ∧ Cond.selects yX12_addNote.cls yX12_addNote yX12_addNote ∈ vi_tb := ⟨vi_mem (vi_m7 (List.mem_of_getElem? (i := 191) rfl)) rfl, vi_ix (i := 72) (by decide +kernel) rfl⟩
theorem coX12_notePromise : Cond.code yX12_notePromise cX12_notePromise 3 (some .boolean) ∈ vi_tb := vi_mem (vi_m7 (List.mem_of_getElem? (i := 212) rfl)) rfl
theorem imX12_notePromise : Cond.instanceMethod yX12_notePromise ∈ vi_tb ∧ Cond.selects yX12_notePromise.cls yX12_notePromise yX12_notePromise ∈ vi_tb := ⟨vi_mem (vi_m7 (List.mem_of_getElem? (i := 211) rfl)) rfl, vi_ix (i := 77) (by decide +kernel) rfl⟩
theorem coX12_layAccepted : Cond.code yX12_layAccepted cX12_layAccepted 4 none ∈ vi_tb := vi_mem (vi_m7 (List.mem_of_getElem? (i := 161) rfl)) rfl
theorem imX12_layAccepted : Cond.instanceMethod yX12_layAccepted ∈ vi_tb ∧ Cond.selects yX12_layAccepted.cls yX12_layAccepted yX12_layAccepted ∈ vi_tb := ⟨vi_mem (vi_m7 (List.mem_of_getElem? (i := 160) rfl)) rfl, vi_ix (i := 65) (by decide +kernel) rfl⟩
theorem coX12_checkpoint : Cond.code yX12_checkpoint cX12_checkpoint 7 (some .boolean) ∈ vi_tb := vi_mem (vi_m7 (List.mem_of_getElem? (i := 200) rfl)) rfl
theorem imX12_checkpoint : Cond.instanceMethod yX12_checkpoint ∈ vi_tb ∧ Cond.selects yX12_checkpoint.cls yX12_checkpoint yX12_checkpoint ∈ vi_tb := ⟨vi_mem (vi_m7 (List.mem_of_getElem? (i := 199) rfl)) rfl, vi_ix (i := 74) (by decide +kernel) rfl⟩
theorem coX12_comeUp : Cond.code yX12_comeUp cX12_comeUp 6 none ∈ vi_tb := vi_mem (vi_m8 (List.mem_of_getElem? (i := 68) rfl)) rfl
theorem imX12_comeUp : Cond.instanceMethod yX12_comeUp ∈ vi_tb ∧ Cond.selects yX12_comeUp.cls yX12_comeUp yX12_comeUp ∈ vi_tb := ⟨vi_mem (vi_m8 (List.mem_of_getElem? (i := 67) rfl)) rfl, vi_ix (i := 96) (by decide +kernel) rfl⟩
theorem coX12_accept : Cond.code yX12_accept cX12_accept 4 none ∈ vi_tb := vi_mem (vi_m7 (List.mem_of_getElem? (i := 196) rfl)) rfl
theorem imX12_accept : Cond.instanceMethod yX12_accept ∈ vi_tb ∧ Cond.selects yX12_accept.cls yX12_accept yX12_accept ∈ vi_tb := ⟨vi_mem (vi_m7 (List.mem_of_getElem? (i := 195) rfl)) rfl, vi_ix (i := 73) (by decide +kernel) rfl⟩
theorem coX12_goDown : Cond.code yX12_goDown cX12_goDown 3 none ∈ vi_tb := vi_mem (vi_m6 (List.mem_of_getElem? (i := 101) rfl)) rfl
theorem imX12_goDown : Cond.instanceMethod yX12_goDown ∈ vi_tb ∧ Cond.selects yX12_goDown.cls yX12_goDown yX12_goDown ∈ vi_tb := ⟨vi_mem (vi_m6 (List.mem_of_getElem? (i := 100) rfl)) rfl, vi_ix (i := 52) (by decide +kernel) rfl⟩
theorem coX12_send : Cond.code yX12_send cX12_send 9 none ∈ vi_tb := vi_mem (vi_m7 (List.mem_of_getElem? (i := 133) rfl)) rfl
theorem imX12_send : Cond.instanceMethod yX12_send ∈ vi_tb ∧ Cond.selects yX12_send.cls yX12_send yX12_send ∈ vi_tb := ⟨vi_mem (vi_m7 (List.mem_of_getElem? (i := 132) rfl)) rfl, vi_ix (i := 58) (by decide +kernel) rfl⟩
theorem coX12_sendAll : Cond.code yX12_sendAll cX12_sendAll 7 none ∈ vi_tb := vi_mem (vi_m7 (List.mem_of_getElem? (i := 129) rfl)) rfl
theorem imX12_sendAll : Cond.instanceMethod yX12_sendAll ∈ vi_tb ∧ Cond.selects yX12_sendAll.cls yX12_sendAll yX12_sendAll ∈ vi_tb := ⟨vi_mem (vi_m7 (List.mem_of_getElem? (i := 128) rfl)) rfl, vi_ix (i := 57) (by decide +kernel) rfl⟩
theorem coX12_layFrame : Cond.code yX12_layFrame cX12_layFrame 7 none ∈ vi_tb := vi_mem (vi_m8 (List.mem_of_getElem? (i := 60) rfl)) rfl
theorem imX12_layFrame : Cond.instanceMethod yX12_layFrame ∈ vi_tb ∧ Cond.selects yX12_layFrame.cls yX12_layFrame yX12_layFrame ∈ vi_tb := ⟨vi_mem (vi_m8 (List.mem_of_getElem? (i := 59) rfl)) rfl, vi_ix (i := 95) (by decide +kernel) rfl⟩
theorem coX12_layWhole : Cond.code yX12_layWhole cX12_layWhole 4 (some .int) ∈ vi_tb := vi_mem (vi_m7 (List.mem_of_getElem? (i := 236) rfl)) rfl
theorem imX12_layWhole : Cond.instanceMethod yX12_layWhole ∈ vi_tb ∧ Cond.selects yX12_layWhole.cls yX12_layWhole yX12_layWhole ∈ vi_tb := ⟨vi_mem (vi_m7 (List.mem_of_getElem? (i := 235) rfl)) rfl, vi_ix (i := 82) (by decide +kernel) rfl⟩
theorem coX12_store : Cond.code yX12_store cX12_store 5 none ∈ vi_tb := vi_mem (vi_m7 (List.mem_of_getElem? (i := 137) rfl)) rfl
theorem imX12_store : Cond.instanceMethod yX12_store ∈ vi_tb ∧ Cond.selects yX12_store.cls yX12_store yX12_store ∈ vi_tb := ⟨vi_mem (vi_m7 (List.mem_of_getElem? (i := 136) rfl)) rfl, vi_ix (i := 59) (by decide +kernel) rfl⟩
theorem coX12_restore : Cond.code yX12_restore cX12_restore 5 none ∈ vi_tb := vi_mem (vi_m8 (List.mem_of_getElem? (i := 36) rfl)) rfl
theorem imX12_restore : Cond.instanceMethod yX12_restore ∈ vi_tb ∧ Cond.selects yX12_restore.cls yX12_restore yX12_restore ∈ vi_tb := ⟨vi_mem (vi_m8 (List.mem_of_getElem? (i := 35) rfl)) rfl, vi_ix (i := 92) (by decide +kernel) rfl⟩
theorem coX12_remove : Cond.code yX12_remove cX12_remove 3 none ∈ vi_tb := vi_mem (vi_m7 (List.mem_of_getElem? (i := 220) rfl)) rfl
theorem imX12_remove : Cond.instanceMethod yX12_remove ∈ vi_tb ∧ Cond.selects yX12_remove.cls yX12_remove yX12_remove ∈ vi_tb := ⟨vi_mem (vi_m7 (List.mem_of_getElem? (i := 219) rfl)) rfl, vi_ix (i := 78) (by decide +kernel) rfl⟩
theorem coX12_follow : Cond.code yX12_follow cX12_follow 2 none ∈ vi_tb := vi_mem (vi_m6 (List.mem_of_getElem? (i := 105) rfl)) rfl
theorem imX12_follow : Cond.instanceMethod yX12_follow ∈ vi_tb ∧ Cond.selects yX12_follow.cls yX12_follow yX12_follow ∈ vi_tb := ⟨vi_mem (vi_m6 (List.mem_of_getElem? (i := 104) rfl)) rfl, vi_ix (i := 53) (by decide +kernel) rfl⟩
theorem coX12_campaign : Cond.code yX12_campaign cX12_campaign 4 none ∈ vi_tb := vi_mem (vi_m7 (List.mem_of_getElem? (i := 208) rfl)) rfl
theorem imX12_campaign : Cond.instanceMethod yX12_campaign ∈ vi_tb ∧ Cond.selects yX12_campaign.cls yX12_campaign yX12_campaign ∈ vi_tb := ⟨vi_mem (vi_m7 (List.mem_of_getElem? (i := 207) rfl)) rfl, vi_ix (i := 76) (by decide +kernel) rfl⟩
theorem coX12_accepts : Cond.code yX12_accepts cX12_accepts 4 (some .boolean) ∈ vi_tb := vi_mem (vi_m7 (List.mem_of_getElem? (i := 157) rfl)) rfl
theorem imX12_accepts : Cond.instanceMethod yX12_accepts ∈ vi_tb ∧ Cond.selects yX12_accepts.cls yX12_accepts yX12_accepts ∈ vi_tb := ⟨vi_mem (vi_m7 (List.mem_of_getElem? (i := 156) rfl)) rfl, vi_ix (i := 64) (by decide +kernel) rfl⟩
theorem coX12_proposeIt : Cond.code yX12_proposeIt cX12_proposeIt 3 none ∈ vi_tb := vi_mem (vi_m7 (List.mem_of_getElem? (i := 153) rfl)) rfl
theorem imX12_proposeIt : Cond.instanceMethod yX12_proposeIt ∈ vi_tb ∧ Cond.selects yX12_proposeIt.cls yX12_proposeIt yX12_proposeIt ∈ vi_tb := ⟨vi_mem (vi_m7 (List.mem_of_getElem? (i := 152) rfl)) rfl, vi_ix (i := 63) (by decide +kernel) rfl⟩
theorem coX12_dropFirst : Cond.code yX12_dropFirst cX12_dropFirst 4 none ∈ vi_tb := vi_mem (vi_m7 (List.mem_of_getElem? (i := 149) rfl)) rfl
theorem imX12_dropFirst : Cond.instanceMethod yX12_dropFirst ∈ vi_tb ∧ Cond.selects yX12_dropFirst.cls yX12_dropFirst yX12_dropFirst ∈ vi_tb := ⟨vi_mem (vi_m7 (List.mem_of_getElem? (i := 148) rfl)) rfl, vi_ix (i := 62) (by decide +kernel) rfl⟩
theorem coX12_isKnown : Cond.code yX12_isKnown cX12_isKnown 3 (some .boolean) ∈ vi_tb := vi_mem (vi_m7 (List.mem_of_getElem? (i := 145) rfl)) rfl
theorem imX12_isKnown : Cond.instanceMethod yX12_isKnown ∈ vi_tb ∧ Cond.selects yX12_isKnown.cls yX12_isKnown yX12_isKnown ∈ vi_tb := ⟨vi_mem (vi_m7 (List.mem_of_getElem? (i := 144) rfl)) rfl, vi_ix (i := 61) (by decide +kernel) rfl⟩
theorem coX12_propose : Cond.code yX12_propose cX12_propose 4 (some .boolean) ∈ vi_tb := vi_mem (vi_m7 (List.mem_of_getElem? (i := 141) rfl)) rfl
theorem imX12_propose : Cond.instanceMethod yX12_propose ∈ vi_tb ∧ Cond.selects yX12_propose.cls yX12_propose yX12_propose ∈ vi_tb := ⟨vi_mem (vi_m7 (List.mem_of_getElem? (i := 140) rfl)) rfl, vi_ix (i := 60) (by decide +kernel) rfl⟩
theorem coX12_tell : Cond.code yX12_tell cX12_tell 3 none ∈ vi_tb := vi_mem (vi_m8 (List.mem_of_getElem? (i := 28) rfl)) rfl
theorem imX12_tell : Cond.instanceMethod yX12_tell ∈ vi_tb ∧ Cond.selects yX12_tell.cls yX12_tell yX12_tell ∈ vi_tb := ⟨vi_mem (vi_m8 (List.mem_of_getElem? (i := 27) rfl)) rfl, vi_ix (i := 90) (by decide +kernel) rfl⟩
theorem coX12_learn : Cond.code yX12_learn cX12_learn 3 (some .boolean) ∈ vi_tb := vi_mem (vi_m8 (List.mem_of_getElem? (i := 16) rfl)) rfl
theorem imX12_learn : Cond.instanceMethod yX12_learn ∈ vi_tb ∧ Cond.selects yX12_learn.cls yX12_learn yX12_learn ∈ vi_tb := ⟨vi_mem (vi_m8 (List.mem_of_getElem? (i := 15) rfl)) rfl, vi_ix (i := 87) (by decide +kernel) rfl⟩
theorem coX12_help : Cond.code yX12_help cX12_help 6 none ∈ vi_tb := vi_mem (vi_m7 (List.mem_of_getElem? (i := 232) rfl)) rfl
theorem imX12_help : Cond.instanceMethod yX12_help ∈ vi_tb ∧ Cond.selects yX12_help.cls yX12_help yX12_help ∈ vi_tb := ⟨vi_mem (vi_m7 (List.mem_of_getElem? (i := 231) rfl)) rfl, vi_ix (i := 81) (by decide +kernel) rfl⟩
theorem coX12_count : Cond.code yX12_count cX12_count 4 (some .int) ∈ vi_tb := vi_mem (vi_m8 (List.mem_of_getElem? (i := 4) rfl)) rfl
theorem imX12_count : Cond.instanceMethod yX12_count ∈ vi_tb ∧ Cond.selects yX12_count.cls yX12_count yX12_count ∈ vi_tb := ⟨vi_mem (vi_m8 (List.mem_of_getElem? (i := 3) rfl)) rfl, vi_ix (i := 84) (by decide +kernel) rfl⟩
theorem coX12_prepared : Cond.code yX12_prepared cX12_prepared 6 none ∈ vi_tb := vi_mem (vi_m7 (List.mem_of_getElem? (i := 228) rfl)) rfl
theorem imX12_prepared : Cond.instanceMethod yX12_prepared ∈ vi_tb ∧ Cond.selects yX12_prepared.cls yX12_prepared yX12_prepared ∈ vi_tb := ⟨vi_mem (vi_m7 (List.mem_of_getElem? (i := 227) rfl)) rfl, vi_ix (i := 80) (by decide +kernel) rfl⟩
theorem coX12_gotPromise : Cond.code yX12_gotPromise cX12_gotPromise 8 none ∈ vi_tb := vi_mem (vi_m8 (List.mem_of_getElem? (i := 0) rfl)) rfl
theorem imX12_gotPromise : Cond.instanceMethod yX12_gotPromise ∈ vi_tb ∧ Cond.selects yX12_gotPromise.cls yX12_gotPromise yX12_gotPromise ∈ vi_tb := ⟨vi_mem (vi_m7 (List.mem_of_getElem? (i := 239) rfl)) rfl, vi_ix (i := 83) (by decide +kernel) rfl⟩
theorem coX12_gotAccept : Cond.code yX12_gotAccept cX12_gotAccept 6 none ∈ vi_tb := vi_mem (vi_m8 (List.mem_of_getElem? (i := 8) rfl)) rfl
theorem imX12_gotAccept : Cond.instanceMethod yX12_gotAccept ∈ vi_tb ∧ Cond.selects yX12_gotAccept.cls yX12_gotAccept yX12_gotAccept ∈ vi_tb := ⟨vi_mem (vi_m8 (List.mem_of_getElem? (i := 7) rfl)) rfl, vi_ix (i := 85) (by decide +kernel) rfl⟩
theorem coX12_gotAccepted : Cond.code yX12_gotAccepted cX12_gotAccepted 7 none ∈ vi_tb := vi_mem (vi_m8 (List.mem_of_getElem? (i := 12) rfl)) rfl
theorem imX12_gotAccepted : Cond.instanceMethod yX12_gotAccepted ∈ vi_tb ∧ Cond.selects yX12_gotAccepted.cls yX12_gotAccepted yX12_gotAccepted ∈ vi_tb := ⟨vi_mem (vi_m8 (List.mem_of_getElem? (i := 11) rfl)) rfl, vi_ix (i := 86) (by decide +kernel) rfl⟩
theorem coX12_gotForward : Cond.code yX12_gotForward cX12_gotForward 3 none ∈ vi_tb := vi_mem (vi_m8 (List.mem_of_getElem? (i := 40) rfl)) rfl
theorem imX12_gotForward : Cond.instanceMethod yX12_gotForward ∈ vi_tb ∧ Cond.selects yX12_gotForward.cls yX12_gotForward yX12_gotForward ∈ vi_tb := ⟨vi_mem (vi_m8 (List.mem_of_getElem? (i := 39) rfl)) rfl, vi_ix (i := 93) (by decide +kernel) rfl⟩
theorem coX12_gotBeat : Cond.code yX12_gotBeat cX12_gotBeat 5 none ∈ vi_tb := vi_mem (vi_m8 (List.mem_of_getElem? (i := 44) rfl)) rfl
theorem imX12_gotBeat : Cond.instanceMethod yX12_gotBeat ∈ vi_tb ∧ Cond.selects yX12_gotBeat.cls yX12_gotBeat yX12_gotBeat ∈ vi_tb := ⟨vi_mem (vi_m8 (List.mem_of_getElem? (i := 43) rfl)) rfl, vi_ix (i := 94) (by decide +kernel) rfl⟩
theorem coX12_gotState : Cond.code yX12_gotState cX12_gotState 6 none ∈ vi_tb := vi_mem (vi_m8 (List.mem_of_getElem? (i := 32) rfl)) rfl
theorem imX12_gotState : Cond.instanceMethod yX12_gotState ∈ vi_tb ∧ Cond.selects yX12_gotState.cls yX12_gotState yX12_gotState ∈ vi_tb := ⟨vi_mem (vi_m8 (List.mem_of_getElem? (i := 31) rfl)) rfl, vi_ix (i := 91) (by decide +kernel) rfl⟩
theorem coX12_comes : Cond.code yX12_comes cX12_comes 9 none ∈ vi_tb := vi_mem (vi_m7 (List.mem_of_getElem? (i := 224) rfl)) rfl
theorem imX12_comes : Cond.instanceMethod yX12_comes ∈ vi_tb ∧ Cond.selects yX12_comes.cls yX12_comes yX12_comes ∈ vi_tb := ⟨vi_mem (vi_m7 (List.mem_of_getElem? (i := 223) rfl)) rfl, vi_ix (i := 79) (by decide +kernel) rfl⟩
theorem coX12_beginAt : Cond.code yX12_beginAt cX12_beginAt 4 (some .boolean) ∈ vi_tb := vi_mem (vi_m7 (List.mem_of_getElem? (i := 80) rfl)) rfl
theorem imX12_beginAt : Cond.instanceMethod yX12_beginAt ∈ vi_tb ∧ Cond.selects yX12_beginAt.cls yX12_beginAt yX12_beginAt ∈ vi_tb := ⟨vi_mem (vi_m7 (List.mem_of_getElem? (i := 78) rfl)) rfl, vi_mem (vi_m7 (List.mem_of_getElem? (i := 79) rfl)) rfl⟩
theorem coX12_readKey : Cond.code yX12_readKey cX12_readKey 4 (some .int) ∈ vi_tb := vi_mem (vi_m7 (List.mem_of_getElem? (i := 95) rfl)) rfl
theorem imX12_readKey : Cond.instanceMethod yX12_readKey ∈ vi_tb ∧ Cond.selects yX12_readKey.cls yX12_readKey yX12_readKey ∈ vi_tb := ⟨vi_mem (vi_m7 (List.mem_of_getElem? (i := 93) rfl)) rfl, vi_mem (vi_m7 (List.mem_of_getElem? (i := 94) rfl)) rfl⟩
theorem coX12_writeKey : Cond.code yX12_writeKey cX12_writeKey 4 (some .boolean) ∈ vi_tb := vi_mem (vi_m7 (List.mem_of_getElem? (i := 105) rfl)) rfl
theorem imX12_writeKey : Cond.instanceMethod yX12_writeKey ∈ vi_tb ∧ Cond.selects yX12_writeKey.cls yX12_writeKey yX12_writeKey ∈ vi_tb := ⟨vi_mem (vi_m7 (List.mem_of_getElem? (i := 103) rfl)) rfl, vi_mem (vi_m7 (List.mem_of_getElem? (i := 104) rfl)) rfl⟩
theorem coX12_waitAt : Cond.code yX12_waitAt cX12_waitAt 5 none ∈ vi_tb := vi_mem (vi_m7 (List.mem_of_getElem? (i := 113) rfl)) rfl
theorem imX12_waitAt : Cond.instanceMethod yX12_waitAt ∈ vi_tb ∧ Cond.selects yX12_waitAt.cls yX12_waitAt yX12_waitAt ∈ vi_tb := ⟨vi_mem (vi_m7 (List.mem_of_getElem? (i := 112) rfl)) rfl, vi_ix (i := 56) (by decide +kernel) rfl⟩
theorem coX12_commitIt : Cond.code yX12_commitIt cX12_commitIt 4 (some .int) ∈ vi_tb := vi_mem (vi_m7 (List.mem_of_getElem? (i := 109) rfl)) rfl
theorem imX12_commitIt : Cond.instanceMethod yX12_commitIt ∈ vi_tb ∧ Cond.selects yX12_commitIt.cls yX12_commitIt yX12_commitIt ∈ vi_tb := ⟨vi_mem (vi_m7 (List.mem_of_getElem? (i := 107) rfl)) rfl, vi_mem (vi_m7 (List.mem_of_getElem? (i := 108) rfl)) rfl⟩
theorem coX12_giveUp : Cond.code yX12_giveUp cX12_giveUp 2 (some .boolean) ∈ vi_tb := vi_mem (vi_m7 (List.mem_of_getElem? (i := 117) rfl)) rfl
theorem imX12_giveUp : Cond.instanceMethod yX12_giveUp ∈ vi_tb ∧ Cond.selects yX12_giveUp.cls yX12_giveUp yX12_giveUp ∈ vi_tb := ⟨vi_mem (vi_m7 (List.mem_of_getElem? (i := 115) rfl)) rfl, vi_mem (vi_m7 (List.mem_of_getElem? (i := 116) rfl)) rfl⟩
theorem coX12_retryAt : Cond.code yX12_retryAt cX12_retryAt 3 (some .int) ∈ vi_tb := vi_mem (vi_m7 (List.mem_of_getElem? (i := 121) rfl)) rfl
theorem imX12_retryAt : Cond.instanceMethod yX12_retryAt ∈ vi_tb ∧ Cond.selects yX12_retryAt.cls yX12_retryAt yX12_retryAt ∈ vi_tb := ⟨vi_mem (vi_m7 (List.mem_of_getElem? (i := 119) rfl)) rfl, vi_mem (vi_m7 (List.mem_of_getElem? (i := 120) rfl)) rfl⟩
theorem coX12_tickOf : Cond.code yX12_tickOf cX12_tickOf 3 (some .int) ∈ vi_tb := vi_mem (vi_m7 (List.mem_of_getElem? (i := 125) rfl)) rfl
theorem imX12_tickOf : Cond.instanceMethod yX12_tickOf ∈ vi_tb ∧ Cond.selects yX12_tickOf.cls yX12_tickOf yX12_tickOf ∈ vi_tb := ⟨vi_mem (vi_m7 (List.mem_of_getElem? (i := 123) rfl)) rfl, vi_mem (vi_m7 (List.mem_of_getElem? (i := 124) rfl)) rfl⟩
theorem coX12_deliverAt : Cond.code yX12_deliverAt cX12_deliverAt 12 (some .int) ∈ vi_tb := vi_mem (vi_m7 (List.mem_of_getElem? (i := 216) rfl)) rfl
theorem imX12_deliverAt : Cond.instanceMethod yX12_deliverAt ∈ vi_tb ∧ Cond.selects yX12_deliverAt.cls yX12_deliverAt yX12_deliverAt ∈ vi_tb := ⟨vi_mem (vi_m7 (List.mem_of_getElem? (i := 214) rfl)) rfl, vi_mem (vi_m7 (List.mem_of_getElem? (i := 215) rfl)) rfl⟩
theorem coX12_loseAt : Cond.code yX12_loseAt cX12_loseAt 2 (some .boolean) ∈ vi_tb := vi_mem (vi_m8 (List.mem_of_getElem? (i := 48) rfl)) rfl
theorem imX12_loseAt : Cond.instanceMethod yX12_loseAt ∈ vi_tb ∧ Cond.selects yX12_loseAt.cls yX12_loseAt yX12_loseAt ∈ vi_tb := ⟨vi_mem (vi_m8 (List.mem_of_getElem? (i := 46) rfl)) rfl, vi_mem (vi_m8 (List.mem_of_getElem? (i := 47) rfl)) rfl⟩
theorem coX12_doubleAt : Cond.code yX12_doubleAt cX12_doubleAt 3 (some .boolean) ∈ vi_tb := vi_mem (vi_m8 (List.mem_of_getElem? (i := 52) rfl)) rfl
theorem imX12_doubleAt : Cond.instanceMethod yX12_doubleAt ∈ vi_tb ∧ Cond.selects yX12_doubleAt.cls yX12_doubleAt yX12_doubleAt ∈ vi_tb := ⟨vi_mem (vi_m8 (List.mem_of_getElem? (i := 50) rfl)) rfl, vi_mem (vi_m8 (List.mem_of_getElem? (i := 51) rfl)) rfl⟩
theorem coX12_spoilAt : Cond.code yX12_spoilAt cX12_spoilAt 4 (some .boolean) ∈ vi_tb := vi_mem (vi_m8 (List.mem_of_getElem? (i := 56) rfl)) rfl
theorem imX12_spoilAt : Cond.instanceMethod yX12_spoilAt ∈ vi_tb ∧ Cond.selects yX12_spoilAt.cls yX12_spoilAt yX12_spoilAt ∈ vi_tb := ⟨vi_mem (vi_m8 (List.mem_of_getElem? (i := 54) rfl)) rfl, vi_mem (vi_m8 (List.mem_of_getElem? (i := 55) rfl)) rfl⟩
theorem coX12_turnTo : Cond.code yX12_turnTo cX12_turnTo 3 (some .boolean) ∈ vi_tb := vi_mem (vi_m8 (List.mem_of_getElem? (i := 64) rfl)) rfl
theorem imX12_turnTo : Cond.instanceMethod yX12_turnTo ∈ vi_tb ∧ Cond.selects yX12_turnTo.cls yX12_turnTo yX12_turnTo ∈ vi_tb := ⟨vi_mem (vi_m8 (List.mem_of_getElem? (i := 62) rfl)) rfl, vi_mem (vi_m8 (List.mem_of_getElem? (i := 63) rfl)) rfl⟩
theorem coX12_crashAfter : Cond.code yX12_crashAfter cX12_crashAfter 3 (some .boolean) ∈ vi_tb := vi_mem (vi_m8 (List.mem_of_getElem? (i := 72) rfl)) rfl
theorem imX12_crashAfter : Cond.instanceMethod yX12_crashAfter ∈ vi_tb ∧ Cond.selects yX12_crashAfter.cls yX12_crashAfter yX12_crashAfter ∈ vi_tb := ⟨vi_mem (vi_m8 (List.mem_of_getElem? (i := 70) rfl)) rfl, vi_mem (vi_m8 (List.mem_of_getElem? (i := 71) rfl)) rfl⟩
theorem coX12_replicaOf : Cond.code yX12_replicaOf cX12_replicaOf 3 (some .int) ∈ vi_tb := vi_mem (vi_m8 (List.mem_of_getElem? (i := 76) rfl)) rfl
theorem imX12_replicaOf : Cond.instanceMethod yX12_replicaOf ∈ vi_tb ∧ Cond.selects yX12_replicaOf.cls yX12_replicaOf yX12_replicaOf ∈ vi_tb := ⟨vi_mem (vi_m8 (List.mem_of_getElem? (i := 74) rfl)) rfl, vi_mem (vi_m8 (List.mem_of_getElem? (i := 75) rfl)) rfl⟩
theorem coX12_journalOf : Cond.code yX12_journalOf cX12_journalOf 3 (some .int) ∈ vi_tb := vi_mem (vi_m8 (List.mem_of_getElem? (i := 80) rfl)) rfl
theorem imX12_journalOf : Cond.instanceMethod yX12_journalOf ∈ vi_tb ∧ Cond.selects yX12_journalOf.cls yX12_journalOf yX12_journalOf ∈ vi_tb := ⟨vi_mem (vi_m8 (List.mem_of_getElem? (i := 78) rfl)) rfl, vi_mem (vi_m8 (List.mem_of_getElem? (i := 79) rfl)) rfl⟩
theorem coX12_blockOf : Cond.code yX12_blockOf cX12_blockOf 7 (some .long) ∈ vi_tb := vi_mem (vi_m8 (List.mem_of_getElem? (i := 84) rfl)) rfl
theorem imX12_blockOf : Cond.instanceMethod yX12_blockOf ∈ vi_tb ∧ Cond.selects yX12_blockOf.cls yX12_blockOf yX12_blockOf ∈ vi_tb := ⟨vi_mem (vi_m8 (List.mem_of_getElem? (i := 82) rfl)) rfl, vi_mem (vi_m8 (List.mem_of_getElem? (i := 83) rfl)) rfl⟩
theorem coX12_frameOf : Cond.code yX12_frameOf cX12_frameOf 6 (some .long) ∈ vi_tb := vi_mem (vi_m8 (List.mem_of_getElem? (i := 89) rfl)) rfl
theorem imX12_frameOf : Cond.instanceMethod yX12_frameOf ∈ vi_tb ∧ Cond.selects yX12_frameOf.cls yX12_frameOf yX12_frameOf ∈ vi_tb := ⟨vi_mem (vi_m8 (List.mem_of_getElem? (i := 87) rfl)) rfl, vi_mem (vi_m8 (List.mem_of_getElem? (i := 88) rfl)) rfl⟩
theorem coX12_valueAt : Cond.code yX12_valueAt cX12_valueAt 4 (some .int) ∈ vi_tb := vi_mem (vi_m8 (List.mem_of_getElem? (i := 93) rfl)) rfl
theorem imX12_valueAt : Cond.instanceMethod yX12_valueAt ∈ vi_tb ∧ Cond.selects yX12_valueAt.cls yX12_valueAt yX12_valueAt ∈ vi_tb := ⟨vi_mem (vi_m8 (List.mem_of_getElem? (i := 91) rfl)) rfl, vi_mem (vi_m8 (List.mem_of_getElem? (i := 92) rfl)) rfl⟩
theorem coX12_slotOf : Cond.code yX12_slotOf cX12_slotOf 5 (some .int) ∈ vi_tb := vi_mem (vi_m8 (List.mem_of_getElem? (i := 97) rfl)) rfl
theorem imX12_slotOf : Cond.instanceMethod yX12_slotOf ∈ vi_tb ∧ Cond.selects yX12_slotOf.cls yX12_slotOf yX12_slotOf ∈ vi_tb := ⟨vi_mem (vi_m8 (List.mem_of_getElem? (i := 95) rfl)) rfl, vi_mem (vi_m8 (List.mem_of_getElem? (i := 96) rfl)) rfl⟩
theorem coX12_knownOf : Cond.code yX12_knownOf cX12_knownOf 4 (some .int) ∈ vi_tb := vi_mem (vi_m8 (List.mem_of_getElem? (i := 101) rfl)) rfl
theorem imX12_knownOf : Cond.instanceMethod yX12_knownOf ∈ vi_tb ∧ Cond.selects yX12_knownOf.cls yX12_knownOf yX12_knownOf ∈ vi_tb := ⟨vi_mem (vi_m8 (List.mem_of_getElem? (i := 99) rfl)) rfl, vi_mem (vi_m8 (List.mem_of_getElem? (i := 100) rfl)) rfl⟩
theorem coX12_sessionOf : Cond.code yX12_sessionOf cX12_sessionOf 3 (some .int) ∈ vi_tb := vi_mem (vi_m8 (List.mem_of_getElem? (i := 105) rfl)) rfl
theorem imX12_sessionOf : Cond.instanceMethod yX12_sessionOf ∈ vi_tb ∧ Cond.selects yX12_sessionOf.cls yX12_sessionOf yX12_sessionOf ∈ vi_tb := ⟨vi_mem (vi_m8 (List.mem_of_getElem? (i := 103) rfl)) rfl, vi_mem (vi_m8 (List.mem_of_getElem? (i := 104) rfl)) rfl⟩
theorem coX12_messageOf : Cond.code yX12_messageOf cX12_messageOf 4 (some .int) ∈ vi_tb := vi_mem (vi_m8 (List.mem_of_getElem? (i := 109) rfl)) rfl
theorem imX12_messageOf : Cond.instanceMethod yX12_messageOf ∈ vi_tb ∧ Cond.selects yX12_messageOf.cls yX12_messageOf yX12_messageOf ∈ vi_tb := ⟨vi_mem (vi_m8 (List.mem_of_getElem? (i := 107) rfl)) rfl, vi_mem (vi_m8 (List.mem_of_getElem? (i := 108) rfl)) rfl⟩
theorem coX12_lookAt : Cond.code yX12_lookAt cX12_lookAt 5 (some .int) ∈ vi_tb := vi_mem (vi_m8 (List.mem_of_getElem? (i := 113) rfl)) rfl
theorem imX12_lookAt : Cond.instanceMethod yX12_lookAt ∈ vi_tb ∧ Cond.selects yX12_lookAt.cls yX12_lookAt yX12_lookAt ∈ vi_tb := ⟨vi_mem (vi_m8 (List.mem_of_getElem? (i := 111) rfl)) rfl, vi_mem (vi_m8 (List.mem_of_getElem? (i := 112) rfl)) rfl⟩
theorem coJ6_bitCount_0f7a4 : Cond.code yJ6_bitCount_0f7a4 cJ6_bitCount_0f7a4 1 (some .int) ∈ vi_tb := vi_mem (vi_m4 (List.mem_of_getElem? (i := 131) rfl)) rfl
theorem isJ6_bitCount_0f7a4 : Cond.static yJ6_bitCount_0f7a4 ∈ vi_tb := vi_mem (vi_m4 (List.mem_of_getElem? (i := 130) rfl)) rfl
theorem coJ9_floorMod_7cf53 : Cond.code yJ9_floorMod_7cf53 cJ9_floorMod_7cf53 3 (some .int) ∈ vi_tb := vi_mem (vi_m3 (List.mem_of_getElem? (i := 203) rfl)) rfl
theorem isJ9_floorMod_7cf53 : Cond.static yJ9_floorMod_7cf53 ∈ vi_tb := vi_mem (vi_m3 (List.mem_of_getElem? (i := 202) rfl)) rfl
theorem coJ9_max_7cf53 : Cond.code yJ9_max_7cf53 cJ9_max_7cf53 2 (some .int) ∈ vi_tb := vi_mem (vi_m1 (List.mem_of_getElem? (i := 36) rfl)) rfl
theorem isJ9_max_7cf53 : Cond.static yJ9_max_7cf53 ∈ vi_tb := vi_mem (vi_m1 (List.mem_of_getElem? (i := 35) rfl)) rfl
theorem coJ9_min_7cf53 : Cond.code yJ9_min_7cf53 cJ9_min_7cf53 2 (some .int) ∈ vi_tb := vi_mem (vi_m1 (List.mem_of_getElem? (i := 33) rfl)) rfl
theorem isJ9_min_7cf53 : Cond.static yJ9_min_7cf53 ∈ vi_tb := vi_mem (vi_m1 (List.mem_of_getElem? (i := 32) rfl)) rfl
theorem coL_cell : Cond.code yL_cell cL_cell 2 (some .int) ∈ vi_tb := vi_mem (vi_m5 (List.mem_of_getElem? (i := 191) rfl)) rfl
theorem isL_cell : Cond.static yL_cell ∈ vi_tb := vi_mem (vi_m5 (List.mem_of_getElem? (i := 190) rfl)) rfl
theorem inX0 : Cond.initialized RX0 ∈ vi_tb := vi_mem (vi_m1 (List.mem_of_getElem? (i := 3) rfl)) rfl
theorem inX5 : Cond.initialized RX5 ∈ vi_tb := vi_mem (vi_m1 (List.mem_of_getElem? (i := 11) rfl)) rfl
theorem inX3 : Cond.initialized RX3 ∈ vi_tb := vi_mem (vi_m1 (List.mem_of_getElem? (i := 4) rfl)) rfl
theorem inX7 : Cond.initialized RX7 ∈ vi_tb := vi_mem (vi_m1 (List.mem_of_getElem? (i := 9) rfl)) rfl
theorem inX4 : Cond.initialized RX4 ∈ vi_tb := vi_mem (vi_m1 (List.mem_of_getElem? (i := 12) rfl)) rfl
theorem inX6 : Cond.initialized RX6 ∈ vi_tb := vi_mem (vi_m1 (List.mem_of_getElem? (i := 10) rfl)) rfl
theorem inX10 : Cond.initialized RX10 ∈ vi_tb := vi_mem (vi_m1 (List.mem_of_getElem? (i := 7) rfl)) rfl
theorem inJ9 : Cond.initialized RJ9 ∈ vi_tb := vi_mem (vi_m1 (List.mem_of_getElem? (i := 2) rfl)) rfl
theorem inX12 : Cond.initialized RX12 ∈ vi_tb := vi_mem (vi_m1 (List.mem_of_getElem? (i := 13) rfl)) rfl
theorem inJ6 : Cond.initialized RJ6 ∈ vi_tb := vi_mem (vi_m1 (List.mem_of_getElem? (i := 21) rfl)) rfl
theorem inX9 : Cond.initialized RX9 ∈ vi_tb := vi_mem (vi_m1 (List.mem_of_getElem? (i := 6) rfl)) rfl
theorem inL : Cond.initialized RL ∈ vi_tb := vi_mem (vi_m1 (List.mem_of_getElem? (i := 0) rfl)) rfl
theorem inX1 : Cond.initialized RX1 ∈ vi_tb := vi_mem (vi_m1 (List.mem_of_getElem? (i := 5) rfl)) rfl
theorem inX8 : Cond.initialized RX8 ∈ vi_tb := vi_mem (vi_m1 (List.mem_of_getElem? (i := 19) rfl)) rfl
theorem inX11 : Cond.initialized RX11 ∈ vi_tb := vi_mem (vi_m1 (List.mem_of_getElem? (i := 1) rfl)) rfl
theorem inX2 : Cond.initialized RX2 ∈ vi_tb := vi_mem (vi_m1 (List.mem_of_getElem? (i := 8) rfl)) rfl
theorem ivL_29 : vi_Iv RL 29 yX11_init cX11_init 12 none 4 := ⟨coX11_init, inX11, by decide +kernel, Or.inl (vi_mem (vi_m1 (List.mem_of_getElem? (i := 25) rfl)) rfl)⟩
theorem oiX11_3 : Cond.methodLink RX11 3 Lib.objectInit ∈ vi_tb := vi_mem (vi_m1 (List.mem_of_getElem? (i := 28) rfl)) rfl
theorem ivX11_9 : vi_Iv RX11 9 yJ9_min_7cf53 cJ9_min_7cf53 2 (some .int) 2 := ⟨coJ9_min_7cf53, inJ9, by decide +kernel, Or.inl (vi_mem (vi_m1 (List.mem_of_getElem? (i := 31) rfl)) rfl)⟩
theorem mlX11_9 : Cond.methodLink RX11 9 yJ9_min_7cf53 ∈ vi_tb := vi_mem (vi_m1 (List.mem_of_getElem? (i := 31) rfl)) rfl
theorem ivX11_15 : vi_Iv RX11 15 yJ9_max_7cf53 cJ9_max_7cf53 2 (some .int) 2 := ⟨coJ9_max_7cf53, inJ9, by decide +kernel, Or.inl (vi_mem (vi_m1 (List.mem_of_getElem? (i := 34) rfl)) rfl)⟩
theorem mlX11_15 : Cond.methodLink RX11 15 yJ9_max_7cf53 ∈ vi_tb := vi_mem (vi_m1 (List.mem_of_getElem? (i := 34) rfl)) rfl
theorem ivX11_30 : vi_Iv RX11 30 yX0_init cX0_init 2 none 1 := ⟨coX0_init, inX0, by decide +kernel, Or.inl (vi_mem (vi_m1 (List.mem_of_getElem? (i := 39) rfl)) rfl)⟩
theorem oiX0_1 : Cond.methodLink RX0 1 Lib.objectInit ∈ vi_tb := vi_mem (vi_m1 (List.mem_of_getElem? (i := 42) rfl)) rfl
theorem ivX11_39 : vi_Iv RX11 39 yX3_init cX3_init 2 none 0 := ⟨coX3_init, inX3, by decide +kernel, Or.inl (vi_mem (vi_m1 (List.mem_of_getElem? (i := 59) rfl)) rfl)⟩
theorem oiX3_3 : Cond.methodLink RX3 3 Lib.objectInit ∈ vi_tb := vi_mem (vi_m1 (List.mem_of_getElem? (i := 62) rfl)) rfl
theorem ivX3_17 : vi_Iv RX3 17 yX1_init cX1_init 1 none 0 := ⟨coX1_init, inX1, by decide +kernel, Or.inr ⟨"SnapCluster", List.mem_filter.mpr ⟨vi_t1 (List.mem_of_getElem? (i := 66) rfl), rfl⟩⟩⟩
theorem oiX1_3 : Cond.methodLink RX1 3 Lib.objectInit ∈ vi_tb := vi_mem (vi_m1 (List.mem_of_getElem? (i := 69) rfl)) rfl
theorem ivX11_50 : vi_Iv RX11 50 yX9_init cX9_init 1 none 0 := ⟨coX9_init, inX9, by decide +kernel, Or.inr ⟨"SnapCluster", List.mem_filter.mpr ⟨vi_t1 (List.mem_of_getElem? (i := 145) rfl), rfl⟩⟩⟩
theorem oiX9_3 : Cond.methodLink RX9 3 Lib.objectInit ∈ vi_tb := vi_mem (vi_m1 (List.mem_of_getElem? (i := 148) rfl)) rfl
theorem ivX11_59 : vi_Iv RX11 59 yX10_init cX10_init 3 none 2 := ⟨coX10_init, inX10, by decide +kernel, Or.inl (vi_mem (vi_m1 (List.mem_of_getElem? (i := 192) rfl)) rfl)⟩
theorem oiX10_3 : Cond.methodLink RX10 3 Lib.objectInit ∈ vi_tb := vi_mem (vi_m1 (List.mem_of_getElem? (i := 195) rfl)) rfl
theorem ivX11_64 : vi_Iv RX11 64 yX2_init cX2_init 2 none 1 := ⟨coX2_init, inX2, by decide +kernel, Or.inl (vi_mem (vi_m1 (List.mem_of_getElem? (i := 239) rfl)) rfl)⟩
theorem oiX2_3 : Cond.methodLink RX2 3 Lib.objectInit ∈ vi_tb := vi_mem (vi_m2 (List.mem_of_getElem? (i := 2) rfl)) rfl
theorem ivX2_26 : vi_Iv RX2 26 yX2_makeHead cX2_makeHead 4 none 2 := ⟨coX2_makeHead, inX2, by decide +kernel, Or.inl (vi_mem (vi_m2 (List.mem_of_getElem? (i := 3) rfl)) rfl)⟩
theorem ivX2_45 : vi_Iv RX2 45 yX0_clear cX0_clear 1 none 0 := ⟨coX0_clear, inX0, by decide +kernel, Or.inl (vi_mem (vi_m2 (List.mem_of_getElem? (i := 7) rfl)) rfl)⟩
theorem ivX2_56 : vi_Iv RX2 56 yX0_put cX0_put 2 none 1 := ⟨coX0_put, inX0, by decide +kernel, Or.inl (vi_mem (vi_m2 (List.mem_of_getElem? (i := 11) rfl)) rfl)⟩
theorem ivX2_68 : vi_Iv RX2 68 yX0_putCheck cX0_putCheck 4 none 1 := ⟨coX0_putCheck, inX0, by decide +kernel, Or.inl (vi_mem (vi_m2 (List.mem_of_getElem? (i := 15) rfl)) rfl)⟩
theorem ivX0_30 : vi_Iv RX0 30 yX0_byteAt cX0_byteAt 2 (some .int) 1 := ⟨coX0_byteAt, inX0, by decide +kernel, Or.inl (vi_mem (vi_m2 (List.mem_of_getElem? (i := 19) rfl)) rfl)⟩
theorem ivX0_34 : vi_Iv RX0 34 yX0_checkStep cX0_checkStep 4 (some .int) 2 := ⟨coX0_checkStep, inX0, by decide +kernel, Or.inl (vi_mem (vi_m2 (List.mem_of_getElem? (i := 23) rfl)) rfl)⟩
theorem ivX0_20 : vi_Iv RX0 20 yX0_put cX0_put 2 none 1 := ⟨coX0_put, inX0, by decide +kernel, Or.inl (vi_mem (vi_m2 (List.mem_of_getElem? (i := 27) rfl)) rfl)⟩
theorem ivX2_30 : vi_Iv RX2 30 yX2_place cX2_place 5 none 2 := ⟨coX2_place, inX2, by decide +kernel, Or.inl (vi_mem (vi_m2 (List.mem_of_getElem? (i := 28) rfl)) rfl)⟩
theorem ivX2_85 : vi_Iv RX2 85 yJ9_max_7cf53 cJ9_max_7cf53 2 (some .int) 2 := ⟨coJ9_max_7cf53, inJ9, by decide +kernel, Or.inl (vi_mem (vi_m2 (List.mem_of_getElem? (i := 32) rfl)) rfl)⟩
theorem mlX2_85 : Cond.methodLink RX2 85 yJ9_max_7cf53 ∈ vi_tb := vi_mem (vi_m2 (List.mem_of_getElem? (i := 32) rfl)) rfl
theorem ivX2_91 : vi_Iv RX2 91 yX0_byteAt cX0_byteAt 2 (some .int) 1 := ⟨coX0_byteAt, inX0, by decide +kernel, Or.inl (vi_mem (vi_m2 (List.mem_of_getElem? (i := 33) rfl)) rfl)⟩
theorem ivX2_94 : vi_Iv RX2 94 yX2_setByte cX2_setByte 5 none 2 := ⟨coX2_setByte, inX2, by decide +kernel, Or.inl (vi_mem (vi_m2 (List.mem_of_getElem? (i := 34) rfl)) rfl)⟩
theorem ivX11_67 : vi_Iv RX11 67 yX7_init cX7_init 6 none 5 := ⟨coX7_init, inX7, by decide +kernel, Or.inl (vi_mem (vi_m2 (List.mem_of_getElem? (i := 79) rfl)) rfl)⟩
theorem oiX7_3 : Cond.methodLink RX7 3 Lib.objectInit ∈ vi_tb := vi_mem (vi_m2 (List.mem_of_getElem? (i := 82) rfl)) rfl
theorem ivX7_11 : vi_Iv RX7 11 yX6_init cX6_init 1 none 0 := ⟨coX6_init, inX6, by decide +kernel, Or.inr ⟨"SnapCluster", List.mem_filter.mpr ⟨vi_t2 (List.mem_of_getElem? (i := 85) rfl), rfl⟩⟩⟩
theorem oiX6_3 : Cond.methodLink RX6 3 Lib.objectInit ∈ vi_tb := vi_mem (vi_m2 (List.mem_of_getElem? (i := 88) rfl)) rfl
theorem ivX7_20 : vi_Iv RX7 20 yX5_init cX5_init 1 none 0 := ⟨coX5_init, inX5, by decide +kernel, Or.inr ⟨"SnapCluster", List.mem_filter.mpr ⟨vi_t2 (List.mem_of_getElem? (i := 100) rfl), rfl⟩⟩⟩
theorem oiX5_3 : Cond.methodLink RX5 3 Lib.objectInit ∈ vi_tb := vi_mem (vi_m2 (List.mem_of_getElem? (i := 103) rfl)) rfl
theorem ivX7_27 : vi_Iv RX7 27 yX4_init cX4_init 1 none 0 := ⟨coX4_init, inX4, by decide +kernel, Or.inr ⟨"SnapCluster", List.mem_filter.mpr ⟨vi_t2 (List.mem_of_getElem? (i := 123) rfl), rfl⟩⟩⟩
theorem oiX4_3 : Cond.methodLink RX4 3 Lib.objectInit ∈ vi_tb := vi_mem (vi_m2 (List.mem_of_getElem? (i := 126) rfl)) rfl
theorem ivX11_70 : vi_Iv RX11 70 yX7_connect cX7_connect 4 none 3 := ⟨coX7_connect, inX7, by decide +kernel, Or.inl (vi_mem (vi_m2 (List.mem_of_getElem? (i := 207) rfl)) rfl)⟩
theorem ivL_35 : vi_Iv RL 35 yX11_beginAt cX11_beginAt 6 (some .boolean) 3 := ⟨coX11_beginAt, inX11, by decide +kernel, Or.inl (vi_mem (vi_m2 (List.mem_of_getElem? (i := 233) rfl)) rfl)⟩
theorem ivX11_74 : vi_Iv RX11 74 yX11_sessionNumber cX11_sessionNumber 2 (some (.object "SnapCluster$Session")) 1 := ⟨coX11_sessionNumber, inX11, by decide +kernel, Or.inl (vi_mem (vi_m2 (List.mem_of_getElem? (i := 237) rfl)) rfl)⟩
theorem ivX11_78 : vi_Iv RX11 78 yX11_upNumber cX11_upNumber 3 (some (.object "SnapCluster$Replica")) 1 := ⟨coX11_upNumber, inX11, by decide +kernel, Or.inl (vi_mem (vi_m3 (List.mem_of_getElem? (i := 1) rfl)) rfl)⟩
theorem ivX11_209 : vi_Iv RX11 209 yX11_replicaNumber cX11_replicaNumber 2 (some (.object "SnapCluster$Replica")) 1 := ⟨coX11_replicaNumber, inX11, by decide +kernel, Or.inl (vi_mem (vi_m3 (List.mem_of_getElem? (i := 5) rfl)) rfl)⟩
theorem ivX11_92 : vi_Iv RX11 92 yX9_begin cX9_begin 4 none 3 := ⟨coX9_begin, inX9, by decide +kernel, Or.inl (vi_mem (vi_m3 (List.mem_of_getElem? (i := 9) rfl)) rfl)⟩
theorem ivL_48 : vi_Iv RL 48 yX11_writeKey cX11_writeKey 5 (some .boolean) 3 := ⟨coX11_writeKey, inX11, by decide +kernel, Or.inl (vi_mem (vi_m3 (List.mem_of_getElem? (i := 13) rfl)) rfl)⟩
theorem ivX11_96 : vi_Iv RX11 96 yX11_isKey cX11_isKey 1 (some .boolean) 1 := ⟨coX11_isKey, inX11, by decide +kernel, Or.inl (vi_mem (vi_m3 (List.mem_of_getElem? (i := 17) rfl)) rfl)⟩
theorem ivX11_126 : vi_Iv RX11 126 yX9_write cX9_write 3 none 2 := ⟨coX9_write, inX9, by decide +kernel, Or.inl (vi_mem (vi_m3 (List.mem_of_getElem? (i := 20) rfl)) rfl)⟩
theorem ivL_53 : vi_Iv RL 53 yX11_commitIt cX11_commitIt 4 (some .int) 1 := ⟨coX11_commitIt, inX11, by decide +kernel, Or.inl (vi_mem (vi_m3 (List.mem_of_getElem? (i := 24) rfl)) rfl)⟩
theorem ivX11_115 : vi_Iv RX11 115 yX9_end cX9_end 2 none 1 := ⟨coX9_end, inX9, by decide +kernel, Or.inl (vi_mem (vi_m3 (List.mem_of_getElem? (i := 28) rfl)) rfl)⟩
theorem ivX11_132 : vi_Iv RX11 132 yX9_ask cX9_ask 2 none 1 := ⟨coX9_ask, inX9, by decide +kernel, Or.inl (vi_mem (vi_m3 (List.mem_of_getElem? (i := 32) rfl)) rfl)⟩
theorem ivX9_55 : vi_Iv RX9 55 yX8_init cX8_init 7 none 6 := ⟨coX8_init, inX8, by decide +kernel, Or.inl (vi_mem (vi_m3 (List.mem_of_getElem? (i := 45) rfl)) rfl)⟩
theorem oiX8_3 : Cond.methodLink RX8 3 Lib.objectInit ∈ vi_tb := vi_mem (vi_m3 (List.mem_of_getElem? (i := 48) rfl)) rfl
theorem ivX11_143 : vi_Iv RX11 143 yX6_add cX6_add 3 none 1 := ⟨coX6_add, inX6, by decide +kernel, Or.inl (vi_mem (vi_m3 (List.mem_of_getElem? (i := 76) rfl)) rfl)⟩
theorem ivX6_21 : vi_Iv RX6 21 yX8_isLike cX8_isLike 2 (some .boolean) 1 := ⟨coX8_isLike, inX8, by decide +kernel, Or.inl (vi_mem (vi_m3 (List.mem_of_getElem? (i := 80) rfl)) rfl)⟩
theorem ivL_58 : vi_Iv RL 58 yX11_giveUp cX11_giveUp 3 (some .boolean) 1 := ⟨coX11_giveUp, inX11, by decide +kernel, Or.inl (vi_mem (vi_m3 (List.mem_of_getElem? (i := 84) rfl)) rfl)⟩
theorem ivL_63 : vi_Iv RL 63 yX11_retryAt cX11_retryAt 5 (some .int) 2 := ⟨coX11_retryAt, inX11, by decide +kernel, Or.inl (vi_mem (vi_m3 (List.mem_of_getElem? (i := 88) rfl)) rfl)⟩
theorem ivX11_159 : vi_Iv RX11 159 yX9_endBy cX9_endBy 2 none 1 := ⟨coX9_endBy, inX9, by decide +kernel, Or.inl (vi_mem (vi_m3 (List.mem_of_getElem? (i := 92) rfl)) rfl)⟩
theorem ivX9_62 : vi_Iv RX9 62 yX9_end cX9_end 2 none 1 := ⟨coX9_end, inX9, by decide +kernel, Or.inl (vi_mem (vi_m3 (List.mem_of_getElem? (i := 96) rfl)) rfl)⟩
theorem ivL_67 : vi_Iv RL 67 yX11_tickOf cX11_tickOf 3 (some .int) 1 := ⟨coX11_tickOf, inX11, by decide +kernel, Or.inl (vi_mem (vi_m3 (List.mem_of_getElem? (i := 97) rfl)) rfl)⟩
theorem ivX11_162 : vi_Iv RX11 162 yX7_tick cX7_tick 2 none 0 := ⟨coX7_tick, inX7, by decide +kernel, Or.inl (vi_mem (vi_m3 (List.mem_of_getElem? (i := 101) rfl)) rfl)⟩
theorem ivX7_301 : vi_Iv RX7 301 yX6_advance cX6_advance 3 (some (.object "SnapCluster$Request")) 1 := ⟨coX6_advance, inX6, by decide +kernel, Or.inl (vi_mem (vi_m3 (List.mem_of_getElem? (i := 105) rfl)) rfl)⟩
theorem ivX6_25 : vi_Iv RX6 25 yX10_isNew cX10_isNew 2 (some .boolean) 1 := ⟨coX10_isNew, inX10, by decide +kernel, Or.inl (vi_mem (vi_m3 (List.mem_of_getElem? (i := 109) rfl)) rfl)⟩
theorem ivX6_30 : vi_Iv RX6 30 yX6_dropFirst cX6_dropFirst 3 none 1 := ⟨coX6_dropFirst, inX6, by decide +kernel, Or.inl (vi_mem (vi_m3 (List.mem_of_getElem? (i := 113) rfl)) rfl)⟩
theorem ivX7_305 : vi_Iv RX7 305 yX7_propose cX7_propose 2 none 1 := ⟨coX7_propose, inX7, by decide +kernel, Or.inl (vi_mem (vi_m3 (List.mem_of_getElem? (i := 117) rfl)) rfl)⟩
theorem ivX7_350 : vi_Iv RX7 350 yX7_accept cX7_accept 3 (some .boolean) 2 := ⟨coX7_accept, inX7, by decide +kernel, Or.inl (vi_mem (vi_m3 (List.mem_of_getElem? (i := 121) rfl)) rfl)⟩
theorem ivX7_202 : vi_Iv RX7 202 yX7_startPayload cX7_startPayload 2 none 1 := ⟨coX7_startPayload, inX7, by decide +kernel, Or.inl (vi_mem (vi_m3 (List.mem_of_getElem? (i := 125) rfl)) rfl)⟩
theorem ivX7_232 : vi_Iv RX7 232 yX0_clear cX0_clear 1 none 0 := ⟨coX0_clear, inX0, by decide +kernel, Or.inl (vi_mem (vi_m3 (List.mem_of_getElem? (i := 129) rfl)) rfl)⟩
theorem ivX7_233 : vi_Iv RX7 233 yX0_put cX0_put 2 none 1 := ⟨coX0_put, inX0, by decide +kernel, Or.inl (vi_mem (vi_m3 (List.mem_of_getElem? (i := 130) rfl)) rfl)⟩
theorem ivX7_212 : vi_Iv RX7 212 yX0_putU cX0_putU 4 none 1 := ⟨coX0_putU, inX0, by decide +kernel, Or.inl (vi_mem (vi_m3 (List.mem_of_getElem? (i := 131) rfl)) rfl)⟩
theorem ivX7_215 : vi_Iv RX7 215 yX8_writeTo cX8_writeTo 3 none 1 := ⟨coX8_writeTo, inX8, by decide +kernel, Or.inl (vi_mem (vi_m3 (List.mem_of_getElem? (i := 135) rfl)) rfl)⟩
theorem ivX8_53 : vi_Iv RX8 53 yX0_put cX0_put 2 none 1 := ⟨coX0_put, inX0, by decide +kernel, Or.inl (vi_mem (vi_m3 (List.mem_of_getElem? (i := 139) rfl)) rfl)⟩
theorem ivX8_57 : vi_Iv RX8 57 yX0_putU cX0_putU 4 none 1 := ⟨coX0_putU, inX0, by decide +kernel, Or.inl (vi_mem (vi_m3 (List.mem_of_getElem? (i := 140) rfl)) rfl)⟩
theorem ivX8_60 : vi_Iv RX8 60 yX0_putTwo cX0_putTwo 2 none 1 := ⟨coX0_putTwo, inX0, by decide +kernel, Or.inl (vi_mem (vi_m3 (List.mem_of_getElem? (i := 141) rfl)) rfl)⟩
theorem ivX8_43 : vi_Iv RX8 43 yX11_isIn cX11_isIn 2 (some .boolean) 2 := ⟨coX11_isIn, inX11, by decide +kernel, Or.inr ⟨"SnapCluster", List.mem_filter.mpr ⟨vi_t3 (List.mem_of_getElem? (i := 145) rfl), rfl⟩⟩⟩
theorem ivX8_63 : vi_Iv RX8 63 yX0_putFour cX0_putFour 3 none 1 := ⟨coX0_putFour, inX0, by decide +kernel, Or.inl (vi_mem (vi_m3 (List.mem_of_getElem? (i := 148) rfl)) rfl)⟩
theorem ivX7_236 : vi_Iv RX7 236 yX7_note cX7_note 1 (some .boolean) 0 := ⟨coX7_note, inX7, by decide +kernel, Or.inl (vi_mem (vi_m3 (List.mem_of_getElem? (i := 152) rfl)) rfl)⟩
theorem ivX7_187 : vi_Iv RX7 187 yX2_startImage cX2_startImage 1 none 0 := ⟨coX2_startImage, inX2, by decide +kernel, Or.inl (vi_mem (vi_m3 (List.mem_of_getElem? (i := 156) rfl)) rfl)⟩
theorem ivX7_190 : vi_Iv RX7 190 yX2_addRecord cX2_addRecord 3 none 1 := ⟨coX2_addRecord, inX2, by decide +kernel, Or.inl (vi_mem (vi_m3 (List.mem_of_getElem? (i := 160) rfl)) rfl)⟩
theorem ivX2_64 : vi_Iv RX2 64 yX0_putAll cX0_putAll 5 none 3 := ⟨coX0_putAll, inX0, by decide +kernel, Or.inl (vi_mem (vi_m3 (List.mem_of_getElem? (i := 164) rfl)) rfl)⟩
theorem ivX0_24 : vi_Iv RX0 24 yJ9_max_7cf53 cJ9_max_7cf53 2 (some .int) 2 := ⟨coJ9_max_7cf53, inJ9, by decide +kernel, Or.inl (vi_mem (vi_m3 (List.mem_of_getElem? (i := 168) rfl)) rfl)⟩
theorem mlX0_24 : Cond.methodLink RX0 24 yJ9_max_7cf53 ∈ vi_tb := vi_mem (vi_m3 (List.mem_of_getElem? (i := 168) rfl)) rfl
theorem ivX7_193 : vi_Iv RX7 193 yX2_writeNote cX2_writeNote 4 (some .boolean) 0 := ⟨coX2_writeNote, inX2, by decide +kernel, Or.inl (vi_mem (vi_m3 (List.mem_of_getElem? (i := 169) rfl)) rfl)⟩
theorem ivX2_74 : vi_Iv RX2 74 yX2_startOf cX2_startOf 1 (some .int) 1 := ⟨coX2_startOf, inX2, by decide +kernel, Or.inl (vi_mem (vi_m3 (List.mem_of_getElem? (i := 173) rfl)) rfl)⟩
theorem ivX2_78 : vi_Iv RX2 78 yX2_closeImage cX2_closeImage 2 none 1 := ⟨coX2_closeImage, inX2, by decide +kernel, Or.inl (vi_mem (vi_m3 (List.mem_of_getElem? (i := 176) rfl)) rfl)⟩
theorem ivX2_81 : vi_Iv RX2 81 yX2_crashes cX2_crashes 1 (some .boolean) 0 := ⟨coX2_crashes, inX2, by decide +kernel, Or.inl (vi_mem (vi_m3 (List.mem_of_getElem? (i := 180) rfl)) rfl)⟩
theorem ivX7_196 : vi_Iv RX7 196 yX7_goDown cX7_goDown 2 none 0 := ⟨coX7_goDown, inX7, by decide +kernel, Or.inl (vi_mem (vi_m3 (List.mem_of_getElem? (i := 184) rfl)) rfl)⟩
theorem ivX7_126 : vi_Iv RX7 126 yX9_end cX9_end 2 none 1 := ⟨coX9_end, inX9, by decide +kernel, Or.inl (vi_mem (vi_m3 (List.mem_of_getElem? (i := 188) rfl)) rfl)⟩
theorem ivX7_148 : vi_Iv RX7 148 yX7_checkpointIfDue cX7_checkpointIfDue 2 (some .boolean) 0 := ⟨coX7_checkpointIfDue, inX7, by decide +kernel, Or.inl (vi_mem (vi_m3 (List.mem_of_getElem? (i := 189) rfl)) rfl)⟩
theorem ivX7_205 : vi_Iv RX7 205 yX10_writeTo cX10_writeTo 4 none 1 := ⟨coX10_writeTo, inX10, by decide +kernel, Or.inl (vi_mem (vi_m3 (List.mem_of_getElem? (i := 193) rfl)) rfl)⟩
theorem ivX10_105 : vi_Iv RX10 105 yX0_putU cX0_putU 4 none 1 := ⟨coX0_putU, inX0, by decide +kernel, Or.inl (vi_mem (vi_m3 (List.mem_of_getElem? (i := 197) rfl)) rfl)⟩
theorem ivX10_52 : vi_Iv RX10 52 yX10_rowOf cX10_rowOf 1 (some .int) 1 := ⟨coX10_rowOf, inX10, by decide +kernel, Or.inl (vi_mem (vi_m3 (List.mem_of_getElem? (i := 198) rfl)) rfl)⟩
theorem ivX10_46 : vi_Iv RX10 46 yJ9_floorMod_7cf53 cJ9_floorMod_7cf53 3 (some .int) 2 := ⟨coJ9_floorMod_7cf53, inJ9, by decide +kernel, Or.inl (vi_mem (vi_m3 (List.mem_of_getElem? (i := 201) rfl)) rfl)⟩
theorem mlX10_46 : Cond.methodLink RX10 46 yJ9_floorMod_7cf53 ∈ vi_tb := vi_mem (vi_m3 (List.mem_of_getElem? (i := 201) rfl)) rfl
theorem ivX10_111 : vi_Iv RX10 111 yX0_putFour cX0_putFour 3 none 1 := ⟨coX0_putFour, inX0, by decide +kernel, Or.inl (vi_mem (vi_m3 (List.mem_of_getElem? (i := 204) rfl)) rfl)⟩
theorem ivX10_114 : vi_Iv RX10 114 yX0_put cX0_put 2 none 1 := ⟨coX0_put, inX0, by decide +kernel, Or.inl (vi_mem (vi_m3 (List.mem_of_getElem? (i := 205) rfl)) rfl)⟩
theorem ivX10_117 : vi_Iv RX10 117 yX0_putTwo cX0_putTwo 2 none 1 := ⟨coX0_putTwo, inX0, by decide +kernel, Or.inl (vi_mem (vi_m3 (List.mem_of_getElem? (i := 206) rfl)) rfl)⟩
theorem ivX7_208 : vi_Iv RX7 208 yX10_writeValuesTo cX10_writeValuesTo 5 none 2 := ⟨coX10_writeValuesTo, inX10, by decide +kernel, Or.inl (vi_mem (vi_m3 (List.mem_of_getElem? (i := 207) rfl)) rfl)⟩
theorem ivX7_216 : vi_Iv RX7 216 yX2_writeHalf cX2_writeHalf 4 (some .boolean) 0 := ⟨coX2_writeHalf, inX2, by decide +kernel, Or.inl (vi_mem (vi_m3 (List.mem_of_getElem? (i := 211) rfl)) rfl)⟩
theorem ivX7_225 : vi_Iv RX7 225 yX2_makeHead cX2_makeHead 4 none 2 := ⟨coX2_makeHead, inX2, by decide +kernel, Or.inl (vi_mem (vi_m3 (List.mem_of_getElem? (i := 215) rfl)) rfl)⟩
theorem ivX7_229 : vi_Iv RX7 229 yX2_writeHead cX2_writeHead 2 (some .boolean) 0 := ⟨coX2_writeHead, inX2, by decide +kernel, Or.inl (vi_mem (vi_m3 (List.mem_of_getElem? (i := 216) rfl)) rfl)⟩
theorem ivX7_354 : vi_Iv RX7 354 yX4_propose cX4_propose 3 none 2 := ⟨coX4_propose, inX4, by decide +kernel, Or.inl (vi_mem (vi_m3 (List.mem_of_getElem? (i := 220) rfl)) rfl)⟩
theorem ivX7_320 : vi_Iv RX7 320 yX7_sendToAll cX7_sendToAll 6 none 4 := ⟨coX7_sendToAll, inX7, by decide +kernel, Or.inl (vi_mem (vi_m3 (List.mem_of_getElem? (i := 224) rfl)) rfl)⟩
theorem ivX7_277 : vi_Iv RX7 277 yX7_sendTo cX7_sendTo 6 (some (.object "SnapCluster$Frame")) 4 := ⟨coX7_sendTo, inX7, by decide +kernel, Or.inl (vi_mem (vi_m3 (List.mem_of_getElem? (i := 228) rfl)) rfl)⟩
theorem ivX7_262 : vi_Iv RX7 262 yX3_send cX3_send 1 (some (.object "SnapCluster$Frame")) 0 := ⟨coX3_send, inX3, by decide +kernel, Or.inl (vi_mem (vi_m3 (List.mem_of_getElem? (i := 232) rfl)) rfl)⟩
theorem ivX7_274 : vi_Iv RX7 274 yX1_say cX1_say 3 none 2 := ⟨coX1_say, inX1, by decide +kernel, Or.inl (vi_mem (vi_m4 (List.mem_of_getElem? (i := 0) rfl)) rfl)⟩
theorem ivX7_281 : vi_Iv RX7 281 yX1_carry cX1_carry 3 none 2 := ⟨coX1_carry, inX1, by decide +kernel, Or.inl (vi_mem (vi_m4 (List.mem_of_getElem? (i := 4) rfl)) rfl)⟩
theorem ivX7_308 : vi_Iv RX7 308 yX7_remind cX7_remind 1 none 0 := ⟨coX7_remind, inX7, by decide +kernel, Or.inl (vi_mem (vi_m4 (List.mem_of_getElem? (i := 8) rfl)) rfl)⟩
theorem ivX7_311 : vi_Iv RX7 311 yX7_campaignIsDue cX7_campaignIsDue 1 (some .boolean) 0 := ⟨coX7_campaignIsDue, inX7, by decide +kernel, Or.inl (vi_mem (vi_m4 (List.mem_of_getElem? (i := 12) rfl)) rfl)⟩
theorem ivX7_314 : vi_Iv RX7 314 yX7_campaign cX7_campaign 3 none 0 := ⟨coX7_campaign, inX7, by decide +kernel, Or.inl (vi_mem (vi_m4 (List.mem_of_getElem? (i := 16) rfl)) rfl)⟩
theorem ivX7_330 : vi_Iv RX7 330 yJ9_max_7cf53 cJ9_max_7cf53 2 (some .int) 2 := ⟨coJ9_max_7cf53, inJ9, by decide +kernel, Or.inl (vi_mem (vi_m4 (List.mem_of_getElem? (i := 20) rfl)) rfl)⟩
theorem mlX7_330 : Cond.methodLink RX7 330 yJ9_max_7cf53 ∈ vi_tb := vi_mem (vi_m4 (List.mem_of_getElem? (i := 20) rfl)) rfl
theorem ivX7_336 : vi_Iv RX7 336 yX7_promise cX7_promise 2 (some .boolean) 1 := ⟨coX7_promise, inX7, by decide +kernel, Or.inl (vi_mem (vi_m4 (List.mem_of_getElem? (i := 21) rfl)) rfl)⟩
theorem ivX7_340 : vi_Iv RX7 340 yX4_stand cX4_stand 3 none 2 := ⟨coX4_stand, inX4, by decide +kernel, Or.inl (vi_mem (vi_m4 (List.mem_of_getElem? (i := 25) rfl)) rfl)⟩
theorem ivX4_28 : vi_Iv RX4 28 yX4_follow cX4_follow 1 none 0 := ⟨coX4_follow, inX4, by decide +kernel, Or.inl (vi_mem (vi_m4 (List.mem_of_getElem? (i := 29) rfl)) rfl)⟩
theorem ivX4_18 : vi_Iv RX4 18 yX4_dropProposed cX4_dropProposed 1 none 0 := ⟨coX4_dropProposed, inX4, by decide +kernel, Or.inl (vi_mem (vi_m4 (List.mem_of_getElem? (i := 33) rfl)) rfl)⟩
theorem ivX7_343 : vi_Iv RX7 343 yX4_hear cX4_hear 3 none 2 := ⟨coX4_hear, inX4, by decide +kernel, Or.inl (vi_mem (vi_m4 (List.mem_of_getElem? (i := 37) rfl)) rfl)⟩
theorem ivX7_317 : vi_Iv RX7 317 yX7_tickAsFollower cX7_tickAsFollower 1 none 0 := ⟨coX7_tickAsFollower, inX7, by decide +kernel, Or.inl (vi_mem (vi_m4 (List.mem_of_getElem? (i := 41) rfl)) rfl)⟩
theorem ivX7_324 : vi_Iv RX7 324 yX7_forward cX7_forward 2 none 0 := ⟨coX7_forward, inX7, by decide +kernel, Or.inl (vi_mem (vi_m4 (List.mem_of_getElem? (i := 45) rfl)) rfl)⟩
theorem ivX7_346 : vi_Iv RX7 346 yX6_first cX6_first 1 (some (.object "SnapCluster$Request")) 0 := ⟨coX6_first, inX6, by decide +kernel, Or.inl (vi_mem (vi_m4 (List.mem_of_getElem? (i := 49) rfl)) rfl)⟩
theorem ivX7_327 : vi_Iv RX7 327 yX7_askFor cX7_askFor 2 none 1 := ⟨coX7_askFor, inX7, by decide +kernel, Or.inl (vi_mem (vi_m4 (List.mem_of_getElem? (i := 53) rfl)) rfl)⟩
theorem ivL_71 : vi_Iv RL 71 yX11_deliverAt cX11_deliverAt 5 (some .int) 1 := ⟨coX11_deliverAt, inX11, by decide +kernel, Or.inl (vi_mem (vi_m4 (List.mem_of_getElem? (i := 57) rfl)) rfl)⟩
theorem ivX11_168 : vi_Iv RX11 168 yX3_take cX3_take 4 (some (.object "SnapCluster$Frame")) 1 := ⟨coX3_take, inX3, by decide +kernel, Or.inl (vi_mem (vi_m4 (List.mem_of_getElem? (i := 61) rfl)) rfl)⟩
theorem ivX3_29 : vi_Iv RX3 29 yX3_look cX3_look 2 (some (.object "SnapCluster$Frame")) 1 := ⟨coX3_look, inX3, by decide +kernel, Or.inl (vi_mem (vi_m4 (List.mem_of_getElem? (i := 65) rfl)) rfl)⟩
theorem ivX11_172 : vi_Iv RX11 172 yX1_isSpoilt cX1_isSpoilt 1 (some .boolean) 0 := ⟨coX1_isSpoilt, inX1, by decide +kernel, Or.inl (vi_mem (vi_m4 (List.mem_of_getElem? (i := 69) rfl)) rfl)⟩
theorem ivX11_187 : vi_Iv RX11 187 yX7_receive cX7_receive 2 none 1 := ⟨coX7_receive, inX7, by decide +kernel, Or.inl (vi_mem (vi_m4 (List.mem_of_getElem? (i := 73) rfl)) rfl)⟩
theorem ivX7_360 : vi_Iv RX7 360 yX7_onPrepare cX7_onPrepare 3 none 1 := ⟨coX7_onPrepare, inX7, by decide +kernel, Or.inl (vi_mem (vi_m4 (List.mem_of_getElem? (i := 77) rfl)) rfl)⟩
theorem ivX7_383 : vi_Iv RX7 383 yX7_help cX7_help 7 none 2 := ⟨coX7_help, inX7, by decide +kernel, Or.inl (vi_mem (vi_m4 (List.mem_of_getElem? (i := 81) rfl)) rfl)⟩
theorem ivX7_285 : vi_Iv RX7 285 yX10_requestOf cX10_requestOf 3 (some (.object "SnapCluster$Request")) 1 := ⟨coX10_requestOf, inX10, by decide +kernel, Or.inl (vi_mem (vi_m4 (List.mem_of_getElem? (i := 85) rfl)) rfl)⟩
theorem ivX10_56 : vi_Iv RX10 56 yX10_base cX10_base 1 (some .int) 0 := ⟨coX10_base, inX10, by decide +kernel, Or.inl (vi_mem (vi_m4 (List.mem_of_getElem? (i := 89) rfl)) rfl)⟩
theorem ivX7_289 : vi_Iv RX7 289 yX0_copy cX0_copy 2 (some (.array .byte)) 0 := ⟨coX0_copy, inX0, by decide +kernel, Or.inl (vi_mem (vi_m4 (List.mem_of_getElem? (i := 93) rfl)) rfl)⟩
theorem ivX7_293 : vi_Iv RX7 293 yX1_piecesOf cX1_piecesOf 1 (some .int) 1 := ⟨coX1_piecesOf, inX1, by decide +kernel, Or.inl (vi_mem (vi_m4 (List.mem_of_getElem? (i := 100) rfl)) rfl)⟩
theorem ivX7_297 : vi_Iv RX7 297 yX1_carryPiece cX1_carryPiece 3 none 2 := ⟨coX1_carryPiece, inX1, by decide +kernel, Or.inl (vi_mem (vi_m4 (List.mem_of_getElem? (i := 103) rfl)) rfl)⟩
theorem ivX7_398 : vi_Iv RX7 398 yX7_deny cX7_deny 2 none 1 := ⟨coX7_deny, inX7, by decide +kernel, Or.inl (vi_mem (vi_m4 (List.mem_of_getElem? (i := 107) rfl)) rfl)⟩
theorem ivX7_159 : vi_Iv RX7 159 yX4_follow cX4_follow 1 none 0 := ⟨coX4_follow, inX4, by decide +kernel, Or.inl (vi_mem (vi_m4 (List.mem_of_getElem? (i := 111) rfl)) rfl)⟩
theorem ivX7_364 : vi_Iv RX7 364 yX7_afterPromise cX7_afterPromise 2 (some (.object "SnapCluster$Request")) 1 := ⟨coX7_afterPromise, inX7, by decide +kernel, Or.inl (vi_mem (vi_m4 (List.mem_of_getElem? (i := 112) rfl)) rfl)⟩
theorem ivX7_401 : vi_Iv RX7 401 yX4_is cX4_is 3 (some .boolean) 2 := ⟨coX4_is, inX4, by decide +kernel, Or.inl (vi_mem (vi_m4 (List.mem_of_getElem? (i := 116) rfl)) rfl)⟩
theorem ivX7_405 : vi_Iv RX7 405 yX4_hasAnswer cX4_hasAnswer 2 (some .boolean) 1 := ⟨coX4_hasAnswer, inX4, by decide +kernel, Or.inl (vi_mem (vi_m4 (List.mem_of_getElem? (i := 120) rfl)) rfl)⟩
theorem ivX4_37 : vi_Iv RX4 37 yX11_isIn cX11_isIn 2 (some .boolean) 2 := ⟨coX11_isIn, inX11, by decide +kernel, Or.inr ⟨"SnapCluster", List.mem_filter.mpr ⟨vi_t4 (List.mem_of_getElem? (i := 124) rfl), rfl⟩⟩⟩
theorem ivX7_414 : vi_Iv RX7 414 yX4_answer cX4_answer 3 (some .boolean) 2 := ⟨coX4_answer, inX4, by decide +kernel, Or.inl (vi_mem (vi_m4 (List.mem_of_getElem? (i := 125) rfl)) rfl)⟩
theorem ivX4_41 : vi_Iv RX4 41 yJ6_bitCount_0f7a4 cJ6_bitCount_0f7a4 1 (some .int) 1 := ⟨coJ6_bitCount_0f7a4, inJ6, by decide +kernel, Or.inl (vi_mem (vi_m4 (List.mem_of_getElem? (i := 129) rfl)) rfl)⟩
theorem ivX7_417 : vi_Iv RX7 417 yX4_lead cX4_lead 1 none 0 := ⟨coX4_lead, inX4, by decide +kernel, Or.inl (vi_mem (vi_m4 (List.mem_of_getElem? (i := 135) rfl)) rfl)⟩
theorem ivX7_368 : vi_Iv RX7 368 yX7_onAccept cX7_onAccept 2 none 1 := ⟨coX7_onAccept, inX7, by decide +kernel, Or.inl (vi_mem (vi_m4 (List.mem_of_getElem? (i := 139) rfl)) rfl)⟩
theorem ivX7_371 : vi_Iv RX7 371 yX7_afterAccepted cX7_afterAccepted 3 (some (.object "SnapCluster$Request")) 1 := ⟨coX7_afterAccepted, inX7, by decide +kernel, Or.inl (vi_mem (vi_m4 (List.mem_of_getElem? (i := 143) rfl)) rfl)⟩
theorem ivX7_422 : vi_Iv RX7 422 yX7_learn cX7_learn 2 (some .boolean) 1 := ⟨coX7_learn, inX7, by decide +kernel, Or.inl (vi_mem (vi_m4 (List.mem_of_getElem? (i := 147) rfl)) rfl)⟩
theorem ivX7_177 : vi_Iv RX7 177 yX10_learn cX10_learn 4 none 1 := ⟨coX10_learn, inX10, by decide +kernel, Or.inl (vi_mem (vi_m4 (List.mem_of_getElem? (i := 151) rfl)) rfl)⟩
theorem ivX10_72 : vi_Iv RX10 72 yX10_isNew cX10_isNew 2 (some .boolean) 1 := ⟨coX10_isNew, inX10, by decide +kernel, Or.inl (vi_mem (vi_m4 (List.mem_of_getElem? (i := 156) rfl)) rfl)⟩
theorem ivX10_76 : vi_Iv RX10 76 yX10_isBelated cX10_isBelated 3 (some .boolean) 1 := ⟨coX10_isBelated, inX10, by decide +kernel, Or.inl (vi_mem (vi_m4 (List.mem_of_getElem? (i := 157) rfl)) rfl)⟩
theorem ivX10_82 : vi_Iv RX10 82 yX10_writeValues cX10_writeValues 5 none 2 := ⟨coX10_writeValues, inX10, by decide +kernel, Or.inl (vi_mem (vi_m4 (List.mem_of_getElem? (i := 161) rfl)) rfl)⟩
theorem ivX10_98 : vi_Iv RX10 98 yX11_isIn cX11_isIn 2 (some .boolean) 2 := ⟨coX11_isIn, inX11, by decide +kernel, Or.inr ⟨"SnapCluster", List.mem_filter.mpr ⟨vi_t4 (List.mem_of_getElem? (i := 165) rfl), rfl⟩⟩⟩
theorem ivX10_86 : vi_Iv RX10 86 yJ9_max_7cf53 cJ9_max_7cf53 2 (some .int) 2 := ⟨coJ9_max_7cf53, inJ9, by decide +kernel, Or.inl (vi_mem (vi_m4 (List.mem_of_getElem? (i := 166) rfl)) rfl)⟩
theorem mlX10_86 : Cond.methodLink RX10 86 yJ9_max_7cf53 ∈ vi_tb := vi_mem (vi_m4 (List.mem_of_getElem? (i := 166) rfl)) rfl
theorem ivX10_89 : vi_Iv RX10 89 yJ9_min_7cf53 cJ9_min_7cf53 2 (some .int) 2 := ⟨coJ9_min_7cf53, inJ9, by decide +kernel, Or.inl (vi_mem (vi_m4 (List.mem_of_getElem? (i := 167) rfl)) rfl)⟩
theorem mlX10_89 : Cond.methodLink RX10 89 yJ9_min_7cf53 ∈ vi_tb := vi_mem (vi_m4 (List.mem_of_getElem? (i := 167) rfl)) rfl
theorem ivX7_239 : vi_Iv RX7 239 yX4_dropProposed cX4_dropProposed 1 none 0 := ⟨coX4_dropProposed, inX4, by decide +kernel, Or.inl (vi_mem (vi_m4 (List.mem_of_getElem? (i := 168) rfl)) rfl)⟩
theorem ivX7_242 : vi_Iv RX7 242 yX7_tellAll cX7_tellAll 3 none 0 := ⟨coX7_tellAll, inX7, by decide +kernel, Or.inl (vi_mem (vi_m4 (List.mem_of_getElem? (i := 169) rfl)) rfl)⟩
theorem ivX7_156 : vi_Iv RX7 156 yX5_drop cX5_drop 1 none 0 := ⟨coX5_drop, inX5, by decide +kernel, Or.inl (vi_mem (vi_m4 (List.mem_of_getElem? (i := 173) rfl)) rfl)⟩
theorem ivX7_255 : vi_Iv RX7 255 yX9_endBy cX9_endBy 2 none 1 := ⟨coX9_endBy, inX9, by decide +kernel, Or.inl (vi_mem (vi_m4 (List.mem_of_getElem? (i := 177) rfl)) rfl)⟩
theorem ivX7_258 : vi_Iv RX7 258 yX6_dropDecided cX6_dropDecided 4 none 1 := ⟨coX6_dropDecided, inX6, by decide +kernel, Or.inl (vi_mem (vi_m4 (List.mem_of_getElem? (i := 178) rfl)) rfl)⟩
theorem ivX7_374 : vi_Iv RX7 374 yX7_onChosen cX7_onChosen 2 none 1 := ⟨coX7_onChosen, inX7, by decide +kernel, Or.inl (vi_mem (vi_m4 (List.mem_of_getElem? (i := 182) rfl)) rfl)⟩
theorem ivX7_386 : vi_Iv RX7 386 yX4_followAbove cX4_followAbove 2 none 1 := ⟨coX4_followAbove, inX4, by decide +kernel, Or.inl (vi_mem (vi_m4 (List.mem_of_getElem? (i := 186) rfl)) rfl)⟩
theorem ivX7_389 : vi_Iv RX7 389 yX7_onState cX7_onState 2 none 1 := ⟨coX7_onState, inX7, by decide +kernel, Or.inl (vi_mem (vi_m4 (List.mem_of_getElem? (i := 190) rfl)) rfl)⟩
theorem ivX7_425 : vi_Iv RX7 425 yX5_gather cX5_gather 5 (some .boolean) 1 := ⟨coX5_gather, inX5, by decide +kernel, Or.inl (vi_mem (vi_m4 (List.mem_of_getElem? (i := 194) rfl)) rfl)⟩
theorem ivX5_33 : vi_Iv RX5 33 yX5_drop cX5_drop 1 none 0 := ⟨coX5_drop, inX5, by decide +kernel, Or.inl (vi_mem (vi_m4 (List.mem_of_getElem? (i := 198) rfl)) rfl)⟩
theorem ivX5_36 : vi_Iv RX5 36 yX1_pieceStart cX1_pieceStart 1 (some .int) 0 := ⟨coX1_pieceStart, inX1, by decide +kernel, Or.inl (vi_mem (vi_m4 (List.mem_of_getElem? (i := 199) rfl)) rfl)⟩
theorem ivX5_40 : vi_Iv RX5 40 yX1_pieceEnd cX1_pieceEnd 1 (some .int) 0 := ⟨coX1_pieceEnd, inX1, by decide +kernel, Or.inl (vi_mem (vi_m4 (List.mem_of_getElem? (i := 203) rfl)) rfl)⟩
theorem ivX1_63 : vi_Iv RX1 63 yX1_pieceStart cX1_pieceStart 1 (some .int) 0 := ⟨coX1_pieceStart, inX1, by decide +kernel, Or.inl (vi_mem (vi_m4 (List.mem_of_getElem? (i := 207) rfl)) rfl)⟩
theorem ivX1_67 : vi_Iv RX1 67 yJ9_min_7cf53 cJ9_min_7cf53 2 (some .int) 2 := ⟨coJ9_min_7cf53, inJ9, by decide +kernel, Or.inl (vi_mem (vi_m4 (List.mem_of_getElem? (i := 208) rfl)) rfl)⟩
theorem mlX1_67 : Cond.methodLink RX1 67 yJ9_min_7cf53 ∈ vi_tb := vi_mem (vi_m4 (List.mem_of_getElem? (i := 208) rfl)) rfl
theorem ivX5_43 : vi_Iv RX5 43 yJ9_max_7cf53 cJ9_max_7cf53 2 (some .int) 2 := ⟨coJ9_max_7cf53, inJ9, by decide +kernel, Or.inl (vi_mem (vi_m4 (List.mem_of_getElem? (i := 209) rfl)) rfl)⟩
theorem mlX5_43 : Cond.methodLink RX5 43 yJ9_max_7cf53 ∈ vi_tb := vi_mem (vi_m4 (List.mem_of_getElem? (i := 209) rfl)) rfl
theorem ivX5_52 : vi_Iv RX5 52 yX1_piecesOf cX1_piecesOf 1 (some .int) 1 := ⟨coX1_piecesOf, inX1, by decide +kernel, Or.inl (vi_mem (vi_m4 (List.mem_of_getElem? (i := 210) rfl)) rfl)⟩
theorem ivX7_436 : vi_Iv RX7 436 yX0_putAll cX0_putAll 5 none 3 := ⟨coX0_putAll, inX0, by decide +kernel, Or.inl (vi_mem (vi_m4 (List.mem_of_getElem? (i := 211) rfl)) rfl)⟩
theorem ivX7_162 : vi_Iv RX7 162 yX0_take cX0_take 2 (some .int) 0 := ⟨coX0_take, inX0, by decide +kernel, Or.inl (vi_mem (vi_m4 (List.mem_of_getElem? (i := 212) rfl)) rfl)⟩
theorem ivX7_181 : vi_Iv RX7 181 yX10_takeFrom cX10_takeFrom 3 none 1 := ⟨coX10_takeFrom, inX10, by decide +kernel, Or.inl (vi_mem (vi_m4 (List.mem_of_getElem? (i := 216) rfl)) rfl)⟩
theorem ivX10_120 : vi_Iv RX10 120 yX0_takeU cX0_takeU 4 (some .int) 0 := ⟨coX0_takeU, inX0, by decide +kernel, Or.inl (vi_mem (vi_m4 (List.mem_of_getElem? (i := 220) rfl)) rfl)⟩
theorem ivX0_38 : vi_Iv RX0 38 yX0_take cX0_take 2 (some .int) 0 := ⟨coX0_take, inX0, by decide +kernel, Or.inl (vi_mem (vi_m4 (List.mem_of_getElem? (i := 224) rfl)) rfl)⟩
theorem ivX10_123 : vi_Iv RX10 123 yX10_takeValuesFrom cX10_takeValuesFrom 4 none 1 := ⟨coX10_takeValuesFrom, inX10, by decide +kernel, Or.inl (vi_mem (vi_m4 (List.mem_of_getElem? (i := 225) rfl)) rfl)⟩
theorem ivX10_133 : vi_Iv RX10 133 yX0_takeFour cX0_takeFour 3 (some .int) 0 := ⟨coX0_takeFour, inX0, by decide +kernel, Or.inl (vi_mem (vi_m4 (List.mem_of_getElem? (i := 229) rfl)) rfl)⟩
theorem ivX10_127 : vi_Iv RX10 127 yX0_take cX0_take 2 (some .int) 0 := ⟨coX0_take, inX0, by decide +kernel, Or.inl (vi_mem (vi_m4 (List.mem_of_getElem? (i := 233) rfl)) rfl)⟩
theorem ivX10_130 : vi_Iv RX10 130 yX0_takeTwo cX0_takeTwo 2 (some .int) 0 := ⟨coX0_takeTwo, inX0, by decide +kernel, Or.inl (vi_mem (vi_m4 (List.mem_of_getElem? (i := 234) rfl)) rfl)⟩
theorem ivX7_392 : vi_Iv RX7 392 yX7_onForward cX7_onForward 2 none 1 := ⟨coX7_onForward, inX7, by decide +kernel, Or.inl (vi_mem (vi_m4 (List.mem_of_getElem? (i := 238) rfl)) rfl)⟩
theorem ivX7_440 : vi_Iv RX7 440 yX10_isNew cX10_isNew 2 (some .boolean) 1 := ⟨coX10_isNew, inX10, by decide +kernel, Or.inl (vi_mem (vi_m5 (List.mem_of_getElem? (i := 2) rfl)) rfl)⟩
theorem ivX7_443 : vi_Iv RX7 443 yX6_add cX6_add 3 none 1 := ⟨coX6_add, inX6, by decide +kernel, Or.inl (vi_mem (vi_m5 (List.mem_of_getElem? (i := 3) rfl)) rfl)⟩
theorem ivX7_395 : vi_Iv RX7 395 yX7_onBeat cX7_onBeat 2 none 1 := ⟨coX7_onBeat, inX7, by decide +kernel, Or.inl (vi_mem (vi_m5 (List.mem_of_getElem? (i := 4) rfl)) rfl)⟩
theorem ivL_75 : vi_Iv RL 75 yX11_loseAt cX11_loseAt 2 (some .boolean) 1 := ⟨coX11_loseAt, inX11, by decide +kernel, Or.inl (vi_mem (vi_m5 (List.mem_of_getElem? (i := 8) rfl)) rfl)⟩
theorem ivL_79 : vi_Iv RL 79 yX11_doubleAt cX11_doubleAt 3 (some .boolean) 1 := ⟨coX11_doubleAt, inX11, by decide +kernel, Or.inl (vi_mem (vi_m5 (List.mem_of_getElem? (i := 12) rfl)) rfl)⟩
theorem ivX11_191 : vi_Iv RX11 191 yX3_look cX3_look 2 (some (.object "SnapCluster$Frame")) 1 := ⟨coX3_look, inX3, by decide +kernel, Or.inl (vi_mem (vi_m5 (List.mem_of_getElem? (i := 16) rfl)) rfl)⟩
theorem ivX11_194 : vi_Iv RX11 194 yX3_repeat cX3_repeat 2 none 1 := ⟨coX3_repeat, inX3, by decide +kernel, Or.inl (vi_mem (vi_m5 (List.mem_of_getElem? (i := 17) rfl)) rfl)⟩
theorem ivX3_39 : vi_Iv RX3 39 yX1_copy cX1_copy 2 none 1 := ⟨coX1_copy, inX1, by decide +kernel, Or.inl (vi_mem (vi_m5 (List.mem_of_getElem? (i := 21) rfl)) rfl)⟩
theorem ivX1_48 : vi_Iv RX1 48 yX1_say cX1_say 3 none 2 := ⟨coX1_say, inX1, by decide +kernel, Or.inl (vi_mem (vi_m5 (List.mem_of_getElem? (i := 26) rfl)) rfl)⟩
theorem ivX1_52 : vi_Iv RX1 52 yX1_carry cX1_carry 3 none 2 := ⟨coX1_carry, inX1, by decide +kernel, Or.inl (vi_mem (vi_m5 (List.mem_of_getElem? (i := 27) rfl)) rfl)⟩
theorem ivX1_56 : vi_Iv RX1 56 yX1_carryPiece cX1_carryPiece 3 none 2 := ⟨coX1_carryPiece, inX1, by decide +kernel, Or.inl (vi_mem (vi_m5 (List.mem_of_getElem? (i := 28) rfl)) rfl)⟩
theorem ivL_83 : vi_Iv RL 83 yX11_spoilAt cX11_spoilAt 5 (some .boolean) 3 := ⟨coX11_spoilAt, inX11, by decide +kernel, Or.inl (vi_mem (vi_m5 (List.mem_of_getElem? (i := 29) rfl)) rfl)⟩
theorem ivX11_197 : vi_Iv RX11 197 yX1_writeTo cX1_writeTo 2 none 1 := ⟨coX1_writeTo, inX1, by decide +kernel, Or.inl (vi_mem (vi_m5 (List.mem_of_getElem? (i := 33) rfl)) rfl)⟩
theorem ivX1_73 : vi_Iv RX1 73 yX0_clear cX0_clear 1 none 0 := ⟨coX0_clear, inX0, by decide +kernel, Or.inl (vi_mem (vi_m5 (List.mem_of_getElem? (i := 37) rfl)) rfl)⟩
theorem ivX1_78 : vi_Iv RX1 78 yX0_put cX0_put 2 none 1 := ⟨coX0_put, inX0, by decide +kernel, Or.inl (vi_mem (vi_m5 (List.mem_of_getElem? (i := 38) rfl)) rfl)⟩
theorem ivX1_82 : vi_Iv RX1 82 yX0_putU cX0_putU 4 none 1 := ⟨coX0_putU, inX0, by decide +kernel, Or.inl (vi_mem (vi_m5 (List.mem_of_getElem? (i := 39) rfl)) rfl)⟩
theorem ivX1_85 : vi_Iv RX1 85 yX8_writeTo cX8_writeTo 3 none 1 := ⟨coX8_writeTo, inX8, by decide +kernel, Or.inl (vi_mem (vi_m5 (List.mem_of_getElem? (i := 40) rfl)) rfl)⟩
theorem ivX1_91 : vi_Iv RX1 91 yX1_piecesOf cX1_piecesOf 1 (some .int) 1 := ⟨coX1_piecesOf, inX1, by decide +kernel, Or.inl (vi_mem (vi_m5 (List.mem_of_getElem? (i := 41) rfl)) rfl)⟩
theorem ivX1_95 : vi_Iv RX1 95 yX1_pieceEnd cX1_pieceEnd 1 (some .int) 0 := ⟨coX1_pieceEnd, inX1, by decide +kernel, Or.inl (vi_mem (vi_m5 (List.mem_of_getElem? (i := 42) rfl)) rfl)⟩
theorem ivX1_98 : vi_Iv RX1 98 yX0_putAll cX0_putAll 5 none 3 := ⟨coX0_putAll, inX0, by decide +kernel, Or.inl (vi_mem (vi_m5 (List.mem_of_getElem? (i := 43) rfl)) rfl)⟩
theorem ivX1_102 : vi_Iv RX1 102 yX0_putCheck cX0_putCheck 4 none 1 := ⟨coX0_putCheck, inX0, by decide +kernel, Or.inl (vi_mem (vi_m5 (List.mem_of_getElem? (i := 44) rfl)) rfl)⟩
theorem ivL_87 : vi_Iv RL 87 yX11_turnTo cX11_turnTo 4 (some .boolean) 2 := ⟨coX11_turnTo, inX11, by decide +kernel, Or.inl (vi_mem (vi_m5 (List.mem_of_getElem? (i := 45) rfl)) rfl)⟩
theorem ivX11_215 : vi_Iv RX11 215 yX7_comeUp cX7_comeUp 2 none 0 := ⟨coX7_comeUp, inX7, by decide +kernel, Or.inl (vi_mem (vi_m5 (List.mem_of_getElem? (i := 49) rfl)) rfl)⟩
theorem ivX7_130 : vi_Iv RX7 130 yX7_forget cX7_forget 1 none 0 := ⟨coX7_forget, inX7, by decide +kernel, Or.inl (vi_mem (vi_m5 (List.mem_of_getElem? (i := 53) rfl)) rfl)⟩
theorem ivX7_152 : vi_Iv RX7 152 yX10_forget cX10_forget 2 none 0 := ⟨coX10_forget, inX10, by decide +kernel, Or.inl (vi_mem (vi_m5 (List.mem_of_getElem? (i := 57) rfl)) rfl)⟩
theorem ivX7_153 : vi_Iv RX7 153 yX6_clear cX6_clear 1 none 0 := ⟨coX6_clear, inX6, by decide +kernel, Or.inl (vi_mem (vi_m5 (List.mem_of_getElem? (i := 61) rfl)) rfl)⟩
theorem ivX7_133 : vi_Iv RX7 133 yX2_open cX2_open 4 none 0 := ⟨coX2_open, inX2, by decide +kernel, Or.inl (vi_mem (vi_m5 (List.mem_of_getElem? (i := 65) rfl)) rfl)⟩
theorem ivX2_105 : vi_Iv RX2 105 yX2_generationIn cX2_generationIn 5 (some .int) 1 := ⟨coX2_generationIn, inX2, by decide +kernel, Or.inl (vi_mem (vi_m5 (List.mem_of_getElem? (i := 69) rfl)) rfl)⟩
theorem ivX2_101 : vi_Iv RX2 101 yX2_byteAt cX2_byteAt 3 (some .int) 1 := ⟨coX2_byteAt, inX2, by decide +kernel, Or.inl (vi_mem (vi_m5 (List.mem_of_getElem? (i := 73) rfl)) rfl)⟩
theorem ivX2_108 : vi_Iv RX2 108 yX2_fourLowFirst cX2_fourLowFirst 2 (some .int) 1 := ⟨coX2_fourLowFirst, inX2, by decide +kernel, Or.inl (vi_mem (vi_m5 (List.mem_of_getElem? (i := 77) rfl)) rfl)⟩
theorem ivX2_102 : vi_Iv RX2 102 yX2_twoLowFirst cX2_twoLowFirst 2 (some .int) 1 := ⟨coX2_twoLowFirst, inX2, by decide +kernel, Or.inl (vi_mem (vi_m5 (List.mem_of_getElem? (i := 81) rfl)) rfl)⟩
theorem ivX2_111 : vi_Iv RX2 111 yX2_isChecked cX2_isChecked 5 (some .boolean) 2 := ⟨coX2_isChecked, inX2, by decide +kernel, Or.inl (vi_mem (vi_m5 (List.mem_of_getElem? (i := 85) rfl)) rfl)⟩
theorem ivX2_115 : vi_Iv RX2 115 yX0_checkStep cX0_checkStep 4 (some .int) 2 := ⟨coX0_checkStep, inX0, by decide +kernel, Or.inl (vi_mem (vi_m5 (List.mem_of_getElem? (i := 89) rfl)) rfl)⟩
theorem ivX7_138 : vi_Iv RX7 138 yX2_readNext cX2_readNext 7 (some .boolean) 1 := ⟨coX2_readNext, inX2, by decide +kernel, Or.inl (vi_mem (vi_m5 (List.mem_of_getElem? (i := 90) rfl)) rfl)⟩
theorem ivX7_142 : vi_Iv RX7 142 yX7_replay cX7_replay 1 none 0 := ⟨coX7_replay, inX7, by decide +kernel, Or.inl (vi_mem (vi_m5 (List.mem_of_getElem? (i := 94) rfl)) rfl)⟩
theorem ivX7_167 : vi_Iv RX7 167 yX0_takeU cX0_takeU 4 (some .int) 0 := ⟨coX0_takeU, inX0, by decide +kernel, Or.inl (vi_mem (vi_m5 (List.mem_of_getElem? (i := 98) rfl)) rfl)⟩
theorem ivX7_170 : vi_Iv RX7 170 yX7_replayAccepted cX7_replayAccepted 2 none 0 := ⟨coX7_replayAccepted, inX7, by decide +kernel, Or.inl (vi_mem (vi_m5 (List.mem_of_getElem? (i := 99) rfl)) rfl)⟩
theorem ivX7_173 : vi_Iv RX7 173 yX8_takeFrom cX8_takeFrom 8 (some (.object "SnapCluster$Request")) 1 := ⟨coX8_takeFrom, inX8, by decide +kernel, Or.inl (vi_mem (vi_m5 (List.mem_of_getElem? (i := 103) rfl)) rfl)⟩
theorem ivX8_31 : vi_Iv RX8 31 yX0_take cX0_take 2 (some .int) 0 := ⟨coX0_take, inX0, by decide +kernel, Or.inl (vi_mem (vi_m5 (List.mem_of_getElem? (i := 106) rfl)) rfl)⟩
theorem ivX8_37 : vi_Iv RX8 37 yX0_takeU cX0_takeU 4 (some .int) 0 := ⟨coX0_takeU, inX0, by decide +kernel, Or.inl (vi_mem (vi_m5 (List.mem_of_getElem? (i := 107) rfl)) rfl)⟩
theorem ivX8_40 : vi_Iv RX8 40 yX0_takeTwo cX0_takeTwo 2 (some .int) 0 := ⟨coX0_takeTwo, inX0, by decide +kernel, Or.inl (vi_mem (vi_m5 (List.mem_of_getElem? (i := 108) rfl)) rfl)⟩
theorem ivX8_47 : vi_Iv RX8 47 yX0_takeFour cX0_takeFour 3 (some .int) 0 := ⟨coX0_takeFour, inX0, by decide +kernel, Or.inl (vi_mem (vi_m5 (List.mem_of_getElem? (i := 109) rfl)) rfl)⟩
theorem ivX8_50 : vi_Iv RX8 50 yX8_init cX8_init 7 none 6 := ⟨coX8_init, inX8, by decide +kernel, Or.inl (vi_mem (vi_m5 (List.mem_of_getElem? (i := 111) rfl)) rfl)⟩
theorem ivX7_184 : vi_Iv RX7 184 yX10_takeOlderFrom cX10_takeOlderFrom 2 none 1 := ⟨coX10_takeOlderFrom, inX10, by decide +kernel, Or.inl (vi_mem (vi_m5 (List.mem_of_getElem? (i := 112) rfl)) rfl)⟩
theorem ivX11_218 : vi_Iv RX11 218 yX7_goDown cX7_goDown 2 none 0 := ⟨coX7_goDown, inX7, by decide +kernel, Or.inl (vi_mem (vi_m5 (List.mem_of_getElem? (i := 116) rfl)) rfl)⟩
theorem ivL_92 : vi_Iv RL 92 yX11_crashAfter cX11_crashAfter 4 (some .boolean) 2 := ⟨coX11_crashAfter, inX11, by decide +kernel, Or.inl (vi_mem (vi_m5 (List.mem_of_getElem? (i := 117) rfl)) rfl)⟩
theorem ivL_97 : vi_Iv RL 97 yX11_replicaOf cX11_replicaOf 4 (some .int) 2 := ⟨coX11_replicaOf, inX11, by decide +kernel, Or.inl (vi_mem (vi_m5 (List.mem_of_getElem? (i := 121) rfl)) rfl)⟩
theorem ivX11_228 : vi_Iv RX11 228 yX7_tell cX7_tell 2 (some .int) 1 := ⟨coX7_tell, inX7, by decide +kernel, Or.inl (vi_mem (vi_m5 (List.mem_of_getElem? (i := 125) rfl)) rfl)⟩
theorem ivX7_74 : vi_Iv RX7 74 yX10_base cX10_base 1 (some .int) 0 := ⟨coX10_base, inX10, by decide +kernel, Or.inl (vi_mem (vi_m5 (List.mem_of_getElem? (i := 129) rfl)) rfl)⟩
theorem ivL_101 : vi_Iv RL 101 yX11_journalOf cX11_journalOf 4 (some .int) 2 := ⟨coX11_journalOf, inX11, by decide +kernel, Or.inl (vi_mem (vi_m5 (List.mem_of_getElem? (i := 130) rfl)) rfl)⟩
theorem ivX11_232 : vi_Iv RX11 232 yX2_tell cX2_tell 2 (some .int) 1 := ⟨coX2_tell, inX2, by decide +kernel, Or.inl (vi_mem (vi_m5 (List.mem_of_getElem? (i := 134) rfl)) rfl)⟩
theorem ivL_105 : vi_Iv RL 105 yX11_blockOf cX11_blockOf 5 (some .long) 3 := ⟨coX11_blockOf, inX11, by decide +kernel, Or.inl (vi_mem (vi_m5 (List.mem_of_getElem? (i := 138) rfl)) rfl)⟩
theorem ivL_110 : vi_Iv RL 110 yX11_frameOf cX11_frameOf 8 (some .long) 2 := ⟨coX11_frameOf, inX11, by decide +kernel, Or.inl (vi_mem (vi_m5 (List.mem_of_getElem? (i := 142) rfl)) rfl)⟩
theorem ivX11_237 : vi_Iv RX11 237 yX0_byteAt cX0_byteAt 2 (some .int) 1 := ⟨coX0_byteAt, inX0, by decide +kernel, Or.inl (vi_mem (vi_m5 (List.mem_of_getElem? (i := 146) rfl)) rfl)⟩
theorem ivL_119 : vi_Iv RL 119 yX11_slotOf cX11_slotOf 6 (some .int) 3 := ⟨coX11_slotOf, inX11, by decide +kernel, Or.inl (vi_mem (vi_m5 (List.mem_of_getElem? (i := 147) rfl)) rfl)⟩
theorem ivX11_246 : vi_Iv RX11 246 yX10_requestOf cX10_requestOf 3 (some (.object "SnapCluster$Request")) 1 := ⟨coX10_requestOf, inX10, by decide +kernel, Or.inl (vi_mem (vi_m5 (List.mem_of_getElem? (i := 151) rfl)) rfl)⟩
theorem ivX11_250 : vi_Iv RX11 250 yX8_tell cX8_tell 2 (some .int) 1 := ⟨coX8_tell, inX8, by decide +kernel, Or.inl (vi_mem (vi_m5 (List.mem_of_getElem? (i := 152) rfl)) rfl)⟩
theorem ivL_123 : vi_Iv RL 123 yX11_knownOf cX11_knownOf 5 (some .int) 3 := ⟨coX11_knownOf, inX11, by decide +kernel, Or.inl (vi_mem (vi_m5 (List.mem_of_getElem? (i := 156) rfl)) rfl)⟩
theorem ivL_128 : vi_Iv RL 128 yX11_sessionOf cX11_sessionOf 4 (some .int) 2 := ⟨coX11_sessionOf, inX11, by decide +kernel, Or.inl (vi_mem (vi_m5 (List.mem_of_getElem? (i := 160) rfl)) rfl)⟩
theorem ivX11_253 : vi_Iv RX11 253 yX9_tell cX9_tell 2 (some .int) 1 := ⟨coX9_tell, inX9, by decide +kernel, Or.inl (vi_mem (vi_m5 (List.mem_of_getElem? (i := 164) rfl)) rfl)⟩
theorem ivL_132 : vi_Iv RL 132 yX11_messageOf cX11_messageOf 4 (some .int) 2 := ⟨coX11_messageOf, inX11, by decide +kernel, Or.inl (vi_mem (vi_m5 (List.mem_of_getElem? (i := 168) rfl)) rfl)⟩
theorem ivX11_254 : vi_Iv RX11 254 yX1_tell cX1_tell 2 (some .int) 1 := ⟨coX1_tell, inX1, by decide +kernel, Or.inl (vi_mem (vi_m5 (List.mem_of_getElem? (i := 172) rfl)) rfl)⟩
theorem ivX1_108 : vi_Iv RX1 108 yX1_isSpoilt cX1_isSpoilt 1 (some .boolean) 0 := ⟨coX1_isSpoilt, inX1, by decide +kernel, Or.inl (vi_mem (vi_m5 (List.mem_of_getElem? (i := 176) rfl)) rfl)⟩
theorem ivL_136 : vi_Iv RL 136 yX11_lookAt cX11_lookAt 2 (some .int) 1 := ⟨coX11_lookAt, inX11, by decide +kernel, Or.inl (vi_mem (vi_m5 (List.mem_of_getElem? (i := 177) rfl)) rfl)⟩
theorem ivX11_261 : vi_Iv RX11 261 yX11_greatestIndex cX11_greatestIndex 3 (some .int) 0 := ⟨coX11_greatestIndex, inX11, by decide +kernel, Or.inl (vi_mem (vi_m5 (List.mem_of_getElem? (i := 181) rfl)) rfl)⟩
theorem ivX11_265 : vi_Iv RX11 265 yX11_waitingSessions cX11_waitingSessions 3 (some .int) 0 := ⟨coX11_waitingSessions, inX11, by decide +kernel, Or.inl (vi_mem (vi_m5 (List.mem_of_getElem? (i := 185) rfl)) rfl)⟩
theorem ivL_23 : vi_Iv RL 23 yL_cell cL_cell 2 (some .int) 2 := ⟨coL_cell, inL, by decide +kernel, Or.inl (vi_mem (vi_m5 (List.mem_of_getElem? (i := 189) rfl)) rfl)⟩
theorem ivL_7 : vi_Iv RL 7 yX11_readKey cX11_readKey 5 (some .int) 2 := ⟨coX11_readKey, inX11, by decide +kernel, Or.inl (vi_mem (vi_m5 (List.mem_of_getElem? (i := 197) rfl)) rfl)⟩
theorem ivX11_118 : vi_Iv RX11 118 yX9_read cX9_read 3 (some .int) 2 := ⟨coX9_read, inX9, by decide +kernel, Or.inl (vi_mem (vi_m6 (List.mem_of_getElem? (i := 39) rfl)) rfl)⟩
theorem ivX9_35 : vi_Iv RX9 35 yX11_isIn cX11_isIn 2 (some .boolean) 2 := ⟨coX11_isIn, inX11, by decide +kernel, Or.inr ⟨"SnapCluster", List.mem_filter.mpr ⟨vi_t6 (List.mem_of_getElem? (i := 43) rfl), rfl⟩⟩⟩
theorem ivX9_39 : vi_Iv RX9 39 yX10_valueOf cX10_valueOf 3 (some .int) 2 := ⟨coX10_valueOf, inX10, by decide +kernel, Or.inl (vi_mem (vi_m6 (List.mem_of_getElem? (i := 44) rfl)) rfl)⟩
theorem ivL_17 : vi_Iv RL 17 yX11_valueAt cX11_valueAt 5 (some .int) 3 := ⟨coX11_valueAt, inX11, by decide +kernel, Or.inl (vi_mem (vi_m6 (List.mem_of_getElem? (i := 52) rfl)) rfl)⟩
theorem ivX11_243 : vi_Iv RX11 243 yX10_valueOf cX10_valueOf 3 (some .int) 2 := ⟨coX10_valueOf, inX10, by decide +kernel, Or.inl (vi_mem (vi_m6 (List.mem_of_getElem? (i := 71) rfl)) rfl)⟩
theorem ivL_34 : vi_Iv RL 34 yX12_init cX12_init 6 none 4 := ⟨coX12_init, inX12, by decide +kernel, Or.inl (vi_mem (vi_m6 (List.mem_of_getElem? (i := 74) rfl)) rfl)⟩
theorem oiX12_1 : Cond.methodLink RX12 1 Lib.objectInit ∈ vi_tb := vi_mem (vi_m6 (List.mem_of_getElem? (i := 77) rfl)) rfl
theorem ivX12_196 : vi_Iv RX12 196 yX12_layHead cX12_layHead 4 none 2 := ⟨coX12_layHead, inX12, by decide +kernel, Or.inl (vi_mem (vi_m6 (List.mem_of_getElem? (i := 81) rfl)) rfl)⟩
theorem ivX12_221 : vi_Iv RX12 221 yX12_lay cX12_lay 2 none 1 := ⟨coX12_lay, inX12, by decide +kernel, Or.inl (vi_mem (vi_m6 (List.mem_of_getElem? (i := 85) rfl)) rfl)⟩
theorem ivX12_235 : vi_Iv RX12 235 yX12_layCheck cX12_layCheck 6 none 1 := ⟨coX12_layCheck, inX12, by decide +kernel, Or.inl (vi_mem (vi_m6 (List.mem_of_getElem? (i := 89) rfl)) rfl)⟩
theorem ivX12_200 : vi_Iv RX12 200 yX12_putBlock cX12_putBlock 6 (some .boolean) 3 := ⟨coX12_putBlock, inX12, by decide +kernel, Or.inl (vi_mem (vi_m6 (List.mem_of_getElem? (i := 94) rfl)) rfl)⟩
theorem ivX12_238 : vi_Iv RX12 238 yX12_goDown cX12_goDown 3 none 1 := ⟨coX12_goDown, inX12, by decide +kernel, Or.inl (vi_mem (vi_m6 (List.mem_of_getElem? (i := 98) rfl)) rfl)⟩
theorem ivX12_284 : vi_Iv RX12 284 yX12_follow cX12_follow 2 none 1 := ⟨coX12_follow, inX12, by decide +kernel, Or.inl (vi_mem (vi_m6 (List.mem_of_getElem? (i := 102) rfl)) rfl)⟩
theorem ivL_44 : vi_Iv RL 44 yX12_thrown cX12_thrown 1 (some .int) 0 := ⟨coX12_thrown, inX12, by decide +kernel, Or.inl (vi_mem (vi_m7 (List.mem_of_getElem? (i := 73) rfl)) rfl)⟩
theorem ivL_39 : vi_Iv RL 39 yX12_beginAt cX12_beginAt 4 (some .boolean) 3 := ⟨coX12_beginAt, inX12, by decide +kernel, Or.inl (vi_mem (vi_m7 (List.mem_of_getElem? (i := 77) rfl)) rfl)⟩
theorem ivX12_370 : vi_Iv RX12 370 yX12_isSession cX12_isSession 1 (some .boolean) 1 := ⟨coX12_isSession, inX12, by decide +kernel, Or.inl (vi_mem (vi_m7 (List.mem_of_getElem? (i := 81) rfl)) rfl)⟩
theorem ivX12_373 : vi_Iv RX12 373 yX12_isUp cX12_isUp 2 (some .boolean) 1 := ⟨coX12_isUp, inX12, by decide +kernel, Or.inl (vi_mem (vi_m7 (List.mem_of_getElem? (i := 84) rfl)) rfl)⟩
theorem ivX12_207 : vi_Iv RX12 207 yX12_isReplica cX12_isReplica 2 (some .boolean) 1 := ⟨coX12_isReplica, inX12, by decide +kernel, Or.inl (vi_mem (vi_m7 (List.mem_of_getElem? (i := 88) rfl)) rfl)⟩
theorem ivL_43 : vi_Iv RL 43 yX12_readKey cX12_readKey 4 (some .int) 2 := ⟨coX12_readKey, inX12, by decide +kernel, Or.inl (vi_mem (vi_m7 (List.mem_of_getElem? (i := 92) rfl)) rfl)⟩
theorem ivX12_376 : vi_Iv RX12 376 yX12_isKey cX12_isKey 1 (some .boolean) 1 := ⟨coX12_isKey, inX12, by decide +kernel, Or.inl (vi_mem (vi_m7 (List.mem_of_getElem? (i := 96) rfl)) rfl)⟩
theorem ivX12_211 : vi_Iv RX12 211 yX12_at cX12_at 2 (some .int) 2 := ⟨coX12_at, inX12, by decide +kernel, Or.inl (vi_mem (vi_m7 (List.mem_of_getElem? (i := 99) rfl)) rfl)⟩
theorem ivL_52 : vi_Iv RL 52 yX12_writeKey cX12_writeKey 4 (some .boolean) 3 := ⟨coX12_writeKey, inX12, by decide +kernel, Or.inl (vi_mem (vi_m7 (List.mem_of_getElem? (i := 102) rfl)) rfl)⟩
theorem ivL_57 : vi_Iv RL 57 yX12_commitIt cX12_commitIt 4 (some .int) 1 := ⟨coX12_commitIt, inX12, by decide +kernel, Or.inl (vi_mem (vi_m7 (List.mem_of_getElem? (i := 106) rfl)) rfl)⟩
theorem ivX12_341 : vi_Iv RX12 341 yX12_waitAt cX12_waitAt 5 none 2 := ⟨coX12_waitAt, inX12, by decide +kernel, Or.inl (vi_mem (vi_m7 (List.mem_of_getElem? (i := 110) rfl)) rfl)⟩
theorem ivL_62 : vi_Iv RL 62 yX12_giveUp cX12_giveUp 2 (some .boolean) 1 := ⟨coX12_giveUp, inX12, by decide +kernel, Or.inl (vi_mem (vi_m7 (List.mem_of_getElem? (i := 114) rfl)) rfl)⟩
theorem ivL_66 : vi_Iv RL 66 yX12_retryAt cX12_retryAt 3 (some .int) 2 := ⟨coX12_retryAt, inX12, by decide +kernel, Or.inl (vi_mem (vi_m7 (List.mem_of_getElem? (i := 118) rfl)) rfl)⟩
theorem ivL_70 : vi_Iv RL 70 yX12_tickOf cX12_tickOf 3 (some .int) 1 := ⟨coX12_tickOf, inX12, by decide +kernel, Or.inl (vi_mem (vi_m7 (List.mem_of_getElem? (i := 122) rfl)) rfl)⟩
theorem ivX12_311 : vi_Iv RX12 311 yX12_sendAll cX12_sendAll 7 none 5 := ⟨coX12_sendAll, inX12, by decide +kernel, Or.inl (vi_mem (vi_m7 (List.mem_of_getElem? (i := 126) rfl)) rfl)⟩
theorem ivX12_299 : vi_Iv RX12 299 yX12_send cX12_send 9 none 7 := ⟨coX12_send, inX12, by decide +kernel, Or.inl (vi_mem (vi_m7 (List.mem_of_getElem? (i := 130) rfl)) rfl)⟩
theorem ivX12_260 : vi_Iv RX12 260 yX12_store cX12_store 5 none 3 := ⟨coX12_store, inX12, by decide +kernel, Or.inl (vi_mem (vi_m7 (List.mem_of_getElem? (i := 134) rfl)) rfl)⟩
theorem ivX12_335 : vi_Iv RX12 335 yX12_propose cX12_propose 4 (some .boolean) 1 := ⟨coX12_propose, inX12, by decide +kernel, Or.inl (vi_mem (vi_m7 (List.mem_of_getElem? (i := 138) rfl)) rfl)⟩
theorem ivX12_317 : vi_Iv RX12 317 yX12_isKnown cX12_isKnown 3 (some .boolean) 2 := ⟨coX12_isKnown, inX12, by decide +kernel, Or.inl (vi_mem (vi_m7 (List.mem_of_getElem? (i := 142) rfl)) rfl)⟩
theorem ivX12_320 : vi_Iv RX12 320 yX12_dropFirst cX12_dropFirst 4 none 2 := ⟨coX12_dropFirst, inX12, by decide +kernel, Or.inl (vi_mem (vi_m7 (List.mem_of_getElem? (i := 146) rfl)) rfl)⟩
theorem ivX12_323 : vi_Iv RX12 323 yX12_proposeIt cX12_proposeIt 3 none 2 := ⟨coX12_proposeIt, inX12, by decide +kernel, Or.inl (vi_mem (vi_m7 (List.mem_of_getElem? (i := 150) rfl)) rfl)⟩
theorem ivX12_314 : vi_Iv RX12 314 yX12_accepts cX12_accepts 4 (some .boolean) 3 := ⟨coX12_accepts, inX12, by decide +kernel, Or.inl (vi_mem (vi_m7 (List.mem_of_getElem? (i := 154) rfl)) rfl)⟩
theorem ivX12_268 : vi_Iv RX12 268 yX12_layAccepted cX12_layAccepted 4 none 3 := ⟨coX12_layAccepted, inX12, by decide +kernel, Or.inl (vi_mem (vi_m7 (List.mem_of_getElem? (i := 158) rfl)) rfl)⟩
theorem ivX12_228 : vi_Iv RX12 228 yX12_layU cX12_layU 3 none 1 := ⟨coX12_layU, inX12, by decide +kernel, Or.inl (vi_mem (vi_m7 (List.mem_of_getElem? (i := 162) rfl)) rfl)⟩
theorem ivX12_257 : vi_Iv RX12 257 yX12_layRequest cX12_layRequest 3 none 1 := ⟨coX12_layRequest, inX12, by decide +kernel, Or.inl (vi_mem (vi_m7 (List.mem_of_getElem? (i := 166) rfl)) rfl)⟩
theorem ivX12_225 : vi_Iv RX12 225 yX12_layTwo cX12_layTwo 2 none 1 := ⟨coX12_layTwo, inX12, by decide +kernel, Or.inl (vi_mem (vi_m7 (List.mem_of_getElem? (i := 170) rfl)) rfl)⟩
theorem ivX12_231 : vi_Iv RX12 231 yX12_layFour cX12_layFour 2 none 1 := ⟨coX12_layFour, inX12, by decide +kernel, Or.inl (vi_mem (vi_m7 (List.mem_of_getElem? (i := 174) rfl)) rfl)⟩
theorem ivX12_253 : vi_Iv RX12 253 yX12_note cX12_note 11 (some .boolean) 5 := ⟨coX12_note, inX12, by decide +kernel, Or.inl (vi_mem (vi_m7 (List.mem_of_getElem? (i := 178) rfl)) rfl)⟩
theorem ivX12_242 : vi_Iv RX12 242 yX12_asRecord cX12_asRecord 4 none 1 := ⟨coX12_asRecord, inX12, by decide +kernel, Or.inl (vi_mem (vi_m7 (List.mem_of_getElem? (i := 182) rfl)) rfl)⟩
theorem ivX12_245 : vi_Iv RX12 245 yX12_firstBlock cX12_firstBlock 1 (some .int) 1 := ⟨coX12_firstBlock, inX12, by decide +kernel, Or.inl (vi_mem (vi_m7 (List.mem_of_getElem? (i := 186) rfl)) rfl)⟩
theorem ivX12_249 : vi_Iv RX12 249 yX12_addNote cX12_addNote 7 none 5 := ⟨coX12_addNote, inX12, by decide +kernel, Or.inl (vi_mem (vi_m7 (List.mem_of_getElem? (i := 189) rfl)) rfl)⟩
theorem ivX12_272 : vi_Iv RX12 272 yX12_accept cX12_accept 4 none 3 := ⟨coX12_accept, inX12, by decide +kernel, Or.inl (vi_mem (vi_m7 (List.mem_of_getElem? (i := 193) rfl)) rfl)⟩
theorem ivX12_281 : vi_Iv RX12 281 yX12_checkpoint cX12_checkpoint 7 (some .boolean) 1 := ⟨coX12_checkpoint, inX12, by decide +kernel, Or.inl (vi_mem (vi_m7 (List.mem_of_getElem? (i := 197) rfl)) rfl)⟩
theorem ivX12_264 : vi_Iv RX12 264 yX12_layState cX12_layState 4 none 2 := ⟨coX12_layState, inX12, by decide +kernel, Or.inl (vi_mem (vi_m7 (List.mem_of_getElem? (i := 201) rfl)) rfl)⟩
theorem ivX12_379 : vi_Iv RX12 379 yX12_campaign cX12_campaign 4 none 1 := ⟨coX12_campaign, inX12, by decide +kernel, Or.inl (vi_mem (vi_m7 (List.mem_of_getElem? (i := 205) rfl)) rfl)⟩
theorem ivX12_307 : vi_Iv RX12 307 yX12_notePromise cX12_notePromise 3 (some .boolean) 2 := ⟨coX12_notePromise, inX12, by decide +kernel, Or.inl (vi_mem (vi_m7 (List.mem_of_getElem? (i := 209) rfl)) rfl)⟩
theorem ivL_74 : vi_Iv RL 74 yX12_deliverAt cX12_deliverAt 12 (some .int) 1 := ⟨coX12_deliverAt, inX12, by decide +kernel, Or.inl (vi_mem (vi_m7 (List.mem_of_getElem? (i := 213) rfl)) rfl)⟩
theorem ivX12_382 : vi_Iv RX12 382 yX12_remove cX12_remove 3 none 1 := ⟨coX12_remove, inX12, by decide +kernel, Or.inl (vi_mem (vi_m7 (List.mem_of_getElem? (i := 217) rfl)) rfl)⟩
theorem ivX12_388 : vi_Iv RX12 388 yX12_comes cX12_comes 9 none 7 := ⟨coX12_comes, inX12, by decide +kernel, Or.inl (vi_mem (vi_m7 (List.mem_of_getElem? (i := 221) rfl)) rfl)⟩
theorem ivX12_344 : vi_Iv RX12 344 yX12_prepared cX12_prepared 6 none 4 := ⟨coX12_prepared, inX12, by decide +kernel, Or.inl (vi_mem (vi_m7 (List.mem_of_getElem? (i := 225) rfl)) rfl)⟩
theorem ivX12_329 : vi_Iv RX12 329 yX12_help cX12_help 6 none 3 := ⟨coX12_help, inX12, by decide +kernel, Or.inl (vi_mem (vi_m7 (List.mem_of_getElem? (i := 229) rfl)) rfl)⟩
theorem ivX12_303 : vi_Iv RX12 303 yX12_layWhole cX12_layWhole 4 (some .int) 2 := ⟨coX12_layWhole, inX12, by decide +kernel, Or.inl (vi_mem (vi_m7 (List.mem_of_getElem? (i := 233) rfl)) rfl)⟩
theorem ivX12_348 : vi_Iv RX12 348 yX12_gotPromise cX12_gotPromise 8 none 6 := ⟨coX12_gotPromise, inX12, by decide +kernel, Or.inl (vi_mem (vi_m7 (List.mem_of_getElem? (i := 237) rfl)) rfl)⟩
theorem ivX12_332 : vi_Iv RX12 332 yX12_count cX12_count 4 (some .int) 1 := ⟨coX12_count, inX12, by decide +kernel, Or.inl (vi_mem (vi_m8 (List.mem_of_getElem? (i := 1) rfl)) rfl)⟩
theorem ivX12_352 : vi_Iv RX12 352 yX12_gotAccept cX12_gotAccept 6 none 5 := ⟨coX12_gotAccept, inX12, by decide +kernel, Or.inl (vi_mem (vi_m8 (List.mem_of_getElem? (i := 5) rfl)) rfl)⟩
theorem ivX12_355 : vi_Iv RX12 355 yX12_gotAccepted cX12_gotAccepted 7 none 4 := ⟨coX12_gotAccepted, inX12, by decide +kernel, Or.inl (vi_mem (vi_m8 (List.mem_of_getElem? (i := 9) rfl)) rfl)⟩
theorem ivX12_338 : vi_Iv RX12 338 yX12_learn cX12_learn 3 (some .boolean) 2 := ⟨coX12_learn, inX12, by decide +kernel, Or.inl (vi_mem (vi_m8 (List.mem_of_getElem? (i := 13) rfl)) rfl)⟩
theorem ivX12_275 : vi_Iv RX12 275 yX12_applyTo cX12_applyTo 9 none 2 := ⟨coX12_applyTo, inX12, by decide +kernel, Or.inl (vi_mem (vi_m8 (List.mem_of_getElem? (i := 17) rfl)) rfl)⟩
theorem ivX12_215 : vi_Iv RX12 215 yX12_verdictOf cX12_verdictOf 5 (some .int) 2 := ⟨coX12_verdictOf, inX12, by decide +kernel, Or.inl (vi_mem (vi_m8 (List.mem_of_getElem? (i := 21) rfl)) rfl)⟩
theorem ivX12_326 : vi_Iv RX12 326 yX12_tell cX12_tell 3 none 1 := ⟨coX12_tell, inX12, by decide +kernel, Or.inl (vi_mem (vi_m8 (List.mem_of_getElem? (i := 25) rfl)) rfl)⟩
theorem ivX12_361 : vi_Iv RX12 361 yX12_gotState cX12_gotState 6 none 3 := ⟨coX12_gotState, inX12, by decide +kernel, Or.inl (vi_mem (vi_m8 (List.mem_of_getElem? (i := 29) rfl)) rfl)⟩
theorem ivX12_278 : vi_Iv RX12 278 yX12_restore cX12_restore 5 none 3 := ⟨coX12_restore, inX12, by decide +kernel, Or.inl (vi_mem (vi_m8 (List.mem_of_getElem? (i := 33) rfl)) rfl)⟩
theorem ivX12_364 : vi_Iv RX12 364 yX12_gotForward cX12_gotForward 3 none 2 := ⟨coX12_gotForward, inX12, by decide +kernel, Or.inl (vi_mem (vi_m8 (List.mem_of_getElem? (i := 37) rfl)) rfl)⟩
theorem ivX12_367 : vi_Iv RX12 367 yX12_gotBeat cX12_gotBeat 5 none 4 := ⟨coX12_gotBeat, inX12, by decide +kernel, Or.inl (vi_mem (vi_m8 (List.mem_of_getElem? (i := 41) rfl)) rfl)⟩
theorem ivL_78 : vi_Iv RL 78 yX12_loseAt cX12_loseAt 2 (some .boolean) 1 := ⟨coX12_loseAt, inX12, by decide +kernel, Or.inl (vi_mem (vi_m8 (List.mem_of_getElem? (i := 45) rfl)) rfl)⟩
theorem ivL_82 : vi_Iv RL 82 yX12_doubleAt cX12_doubleAt 3 (some .boolean) 1 := ⟨coX12_doubleAt, inX12, by decide +kernel, Or.inl (vi_mem (vi_m8 (List.mem_of_getElem? (i := 49) rfl)) rfl)⟩
theorem ivL_86 : vi_Iv RL 86 yX12_spoilAt cX12_spoilAt 4 (some .boolean) 3 := ⟨coX12_spoilAt, inX12, by decide +kernel, Or.inl (vi_mem (vi_m8 (List.mem_of_getElem? (i := 53) rfl)) rfl)⟩
theorem ivX12_391 : vi_Iv RX12 391 yX12_layFrame cX12_layFrame 7 none 1 := ⟨coX12_layFrame, inX12, by decide +kernel, Or.inl (vi_mem (vi_m8 (List.mem_of_getElem? (i := 57) rfl)) rfl)⟩
theorem ivL_91 : vi_Iv RL 91 yX12_turnTo cX12_turnTo 3 (some .boolean) 2 := ⟨coX12_turnTo, inX12, by decide +kernel, Or.inl (vi_mem (vi_m8 (List.mem_of_getElem? (i := 61) rfl)) rfl)⟩
theorem ivX12_394 : vi_Iv RX12 394 yX12_comeUp cX12_comeUp 6 none 1 := ⟨coX12_comeUp, inX12, by decide +kernel, Or.inl (vi_mem (vi_m8 (List.mem_of_getElem? (i := 65) rfl)) rfl)⟩
theorem ivL_96 : vi_Iv RL 96 yX12_crashAfter cX12_crashAfter 3 (some .boolean) 2 := ⟨coX12_crashAfter, inX12, by decide +kernel, Or.inl (vi_mem (vi_m8 (List.mem_of_getElem? (i := 69) rfl)) rfl)⟩
theorem ivL_100 : vi_Iv RL 100 yX12_replicaOf cX12_replicaOf 3 (some .int) 2 := ⟨coX12_replicaOf, inX12, by decide +kernel, Or.inl (vi_mem (vi_m8 (List.mem_of_getElem? (i := 73) rfl)) rfl)⟩
theorem ivL_104 : vi_Iv RL 104 yX12_journalOf cX12_journalOf 3 (some .int) 2 := ⟨coX12_journalOf, inX12, by decide +kernel, Or.inl (vi_mem (vi_m8 (List.mem_of_getElem? (i := 77) rfl)) rfl)⟩
theorem ivL_109 : vi_Iv RL 109 yX12_blockOf cX12_blockOf 7 (some .long) 3 := ⟨coX12_blockOf, inX12, by decide +kernel, Or.inl (vi_mem (vi_m8 (List.mem_of_getElem? (i := 81) rfl)) rfl)⟩
theorem ivL_114 : vi_Iv RL 114 yX12_frameOf cX12_frameOf 6 (some .long) 2 := ⟨coX12_frameOf, inX12, by decide +kernel, Or.inl (vi_mem (vi_m8 (List.mem_of_getElem? (i := 86) rfl)) rfl)⟩
theorem ivL_118 : vi_Iv RL 118 yX12_valueAt cX12_valueAt 4 (some .int) 3 := ⟨coX12_valueAt, inX12, by decide +kernel, Or.inl (vi_mem (vi_m8 (List.mem_of_getElem? (i := 90) rfl)) rfl)⟩
theorem ivL_122 : vi_Iv RL 122 yX12_slotOf cX12_slotOf 5 (some .int) 3 := ⟨coX12_slotOf, inX12, by decide +kernel, Or.inl (vi_mem (vi_m8 (List.mem_of_getElem? (i := 94) rfl)) rfl)⟩
theorem ivL_127 : vi_Iv RL 127 yX12_knownOf cX12_knownOf 4 (some .int) 3 := ⟨coX12_knownOf, inX12, by decide +kernel, Or.inl (vi_mem (vi_m8 (List.mem_of_getElem? (i := 98) rfl)) rfl)⟩
theorem ivL_131 : vi_Iv RL 131 yX12_sessionOf cX12_sessionOf 3 (some .int) 2 := ⟨coX12_sessionOf, inX12, by decide +kernel, Or.inl (vi_mem (vi_m8 (List.mem_of_getElem? (i := 102) rfl)) rfl)⟩
theorem ivL_135 : vi_Iv RL 135 yX12_messageOf cX12_messageOf 4 (some .int) 2 := ⟨coX12_messageOf, inX12, by decide +kernel, Or.inl (vi_mem (vi_m8 (List.mem_of_getElem? (i := 106) rfl)) rfl)⟩
theorem ivL_139 : vi_Iv RL 139 yX12_lookAt cX12_lookAt 5 (some .int) 1 := ⟨coX12_lookAt, inX12, by decide +kernel, Or.inl (vi_mem (vi_m8 (List.mem_of_getElem? (i := 110) rfl)) rfl)⟩
theorem clL_8 : Cond.classLink RL 8 RX11 ∈ vi_tb := vi_mem (vi_m1 (List.mem_of_getElem? (i := 23) rfl)) rfl
theorem nlL_8 : vi_Nl RL 8 11 7 := ⟨_, rfl, rfl, clL_8, vi_mem (vi_m1 (List.mem_of_getElem? (i := 24) rfl)) rfl, vi_mem (vi_m1 (List.mem_of_getElem? (i := 1) rfl)) rfl⟩
theorem clX11_28 : Cond.classLink RX11 28 RX0 ∈ vi_tb := vi_mem (vi_m1 (List.mem_of_getElem? (i := 37) rfl)) rfl
theorem nlX11_28 : vi_Nl RX11 28 0 3 := ⟨_, rfl, rfl, clX11_28, vi_mem (vi_m1 (List.mem_of_getElem? (i := 38) rfl)) rfl, vi_mem (vi_m1 (List.mem_of_getElem? (i := 3) rfl)) rfl⟩
theorem clX11_37 : Cond.classLink RX11 37 RX3 ∈ vi_tb := vi_mem (vi_m1 (List.mem_of_getElem? (i := 57) rfl)) rfl
theorem nlX11_37 : vi_Nl RX11 37 3 7 := ⟨_, rfl, rfl, clX11_37, vi_mem (vi_m1 (List.mem_of_getElem? (i := 58) rfl)) rfl, vi_mem (vi_m1 (List.mem_of_getElem? (i := 4) rfl)) rfl⟩
theorem clX3_9 : Cond.classLink RX3 9 RX1 ∈ vi_tb := vi_mem (vi_m1 (List.mem_of_getElem? (i := 63) rfl)) rfl
theorem nlX3_9 : vi_Nl RX3 9 1 11 := ⟨_, rfl, rfl, clX3_9, vi_mem (vi_m1 (List.mem_of_getElem? (i := 65) rfl)) rfl, vi_mem (vi_m1 (List.mem_of_getElem? (i := 5) rfl)) rfl⟩
theorem clX11_44 : Cond.classLink RX11 44 RX9 ∈ vi_tb := vi_mem (vi_m1 (List.mem_of_getElem? (i := 142) rfl)) rfl
theorem nlX11_44 : vi_Nl RX11 44 9 9 := ⟨_, rfl, rfl, clX11_44, vi_mem (vi_m1 (List.mem_of_getElem? (i := 144) rfl)) rfl, vi_mem (vi_m1 (List.mem_of_getElem? (i := 6) rfl)) rfl⟩
theorem clX11_51 : Cond.classLink RX11 51 RX7 ∈ vi_tb := vi_mem (vi_m1 (List.mem_of_getElem? (i := 188) rfl)) rfl
theorem nlX11_51 : vi_Nl RX11 51 7 17 := ⟨_, rfl, rfl, clX11_51, vi_mem (vi_m2 (List.mem_of_getElem? (i := 78) rfl)) rfl, vi_mem (vi_m1 (List.mem_of_getElem? (i := 9) rfl)) rfl⟩
theorem clX11_57 : Cond.classLink RX11 57 RX10 ∈ vi_tb := vi_mem (vi_m1 (List.mem_of_getElem? (i := 190) rfl)) rfl
theorem nlX11_57 : vi_Nl RX11 57 10 10 := ⟨_, rfl, rfl, clX11_57, vi_mem (vi_m1 (List.mem_of_getElem? (i := 191) rfl)) rfl, vi_mem (vi_m1 (List.mem_of_getElem? (i := 7) rfl)) rfl⟩
theorem clX10_24 : Cond.classLink RX10 24 RX8 ∈ vi_tb := vi_mem (vi_m1 (List.mem_of_getElem? (i := 196) rfl)) rfl
theorem nlX10_24 : vi_Nl RX10 24 8 6 := ⟨_, rfl, rfl, clX10_24, vi_mem (vi_m3 (List.mem_of_getElem? (i := 37) rfl)) rfl, vi_mem (vi_m1 (List.mem_of_getElem? (i := 19) rfl)) rfl⟩
theorem clX11_62 : Cond.classLink RX11 62 RX2 ∈ vi_tb := vi_mem (vi_m1 (List.mem_of_getElem? (i := 237) rfl)) rfl
theorem nlX11_62 : vi_Nl RX11 62 2 10 := ⟨_, rfl, rfl, clX11_62, vi_mem (vi_m1 (List.mem_of_getElem? (i := 238) rfl)) rfl, vi_mem (vi_m1 (List.mem_of_getElem? (i := 8) rfl)) rfl⟩
theorem kX0_37 : Cond.constant RX0 37 (-306674912) ∈ vi_tb := vi_mem (vi_m2 (List.mem_of_getElem? (i := 26) rfl)) rfl
theorem kX2_97 : Cond.constantLong RX2 97 (255) ∈ vi_tb := vi_mem (vi_m2 (List.mem_of_getElem? (i := 38) rfl)) rfl
theorem kX2_99 : Cond.constantLong RX2 99 (-1) ∈ vi_tb := vi_mem (vi_m2 (List.mem_of_getElem? (i := 39) rfl)) rfl
theorem clX7_9 : Cond.classLink RX7 9 RX6 ∈ vi_tb := vi_mem (vi_m2 (List.mem_of_getElem? (i := 83) rfl)) rfl
theorem nlX7_9 : vi_Nl RX7 9 6 2 := ⟨_, rfl, rfl, clX7_9, vi_mem (vi_m2 (List.mem_of_getElem? (i := 84) rfl)) rfl, vi_mem (vi_m1 (List.mem_of_getElem? (i := 10) rfl)) rfl⟩
theorem clX6_9 : Cond.classLink RX6 9 RX8 ∈ vi_tb := vi_mem (vi_m2 (List.mem_of_getElem? (i := 89) rfl)) rfl
theorem nlX6_9 : vi_Nl RX6 9 8 6 := ⟨_, rfl, rfl, clX6_9, vi_mem (vi_m3 (List.mem_of_getElem? (i := 37) rfl)) rfl, vi_mem (vi_m1 (List.mem_of_getElem? (i := 19) rfl)) rfl⟩
theorem clX7_18 : Cond.classLink RX7 18 RX5 ∈ vi_tb := vi_mem (vi_m2 (List.mem_of_getElem? (i := 98) rfl)) rfl
theorem nlX7_18 : vi_Nl RX7 18 5 4 := ⟨_, rfl, rfl, clX7_18, vi_mem (vi_m2 (List.mem_of_getElem? (i := 99) rfl)) rfl, vi_mem (vi_m1 (List.mem_of_getElem? (i := 11) rfl)) rfl⟩
theorem clX7_25 : Cond.classLink RX7 25 RX4 ∈ vi_tb := vi_mem (vi_m2 (List.mem_of_getElem? (i := 121) rfl)) rfl
theorem nlX7_25 : vi_Nl RX7 25 4 6 := ⟨_, rfl, rfl, clX7_25, vi_mem (vi_m2 (List.mem_of_getElem? (i := 122) rfl)) rfl, vi_mem (vi_m1 (List.mem_of_getElem? (i := 12) rfl)) rfl⟩
theorem clX9_48 : Cond.classLink RX9 48 RX8 ∈ vi_tb := vi_mem (vi_m3 (List.mem_of_getElem? (i := 36) rfl)) rfl
theorem nlX9_48 : vi_Nl RX9 48 8 6 := ⟨_, rfl, rfl, clX9_48, vi_mem (vi_m3 (List.mem_of_getElem? (i := 37) rfl)) rfl, vi_mem (vi_m1 (List.mem_of_getElem? (i := 19) rfl)) rfl⟩
theorem kJ6_265 : Cond.constant RJ6 265 (1431655765) ∈ vi_tb := vi_mem (vi_m4 (List.mem_of_getElem? (i := 132) rfl)) rfl
theorem kJ6_266 : Cond.constant RJ6 266 (858993459) ∈ vi_tb := vi_mem (vi_m4 (List.mem_of_getElem? (i := 133) rfl)) rfl
theorem kJ6_267 : Cond.constant RJ6 267 (252645135) ∈ vi_tb := vi_mem (vi_m4 (List.mem_of_getElem? (i := 134) rfl)) rfl
theorem clX8_10 : Cond.classLink RX8 10 RX8 ∈ vi_tb := vi_mem (vi_m5 (List.mem_of_getElem? (i := 110) rfl)) rfl
theorem nlX8_10 : vi_Nl RX8 10 8 6 := ⟨_, rfl, rfl, clX8_10, vi_mem (vi_m3 (List.mem_of_getElem? (i := 37) rfl)) rfl, vi_mem (vi_m1 (List.mem_of_getElem? (i := 19) rfl)) rfl⟩
theorem clL_32 : Cond.classLink RL 32 RX12 ∈ vi_tb := vi_mem (vi_m6 (List.mem_of_getElem? (i := 72) rfl)) rfl
theorem nlL_32 : vi_Nl RL 32 12 68 := ⟨_, rfl, rfl, clL_32, vi_mem (vi_m6 (List.mem_of_getElem? (i := 73) rfl)) rfl, vi_mem (vi_m1 (List.mem_of_getElem? (i := 13) rfl)) rfl⟩
theorem kX12_29 : Cond.constant RX12 29 (67200) ∈ vi_tb := vi_mem (vi_m6 (List.mem_of_getElem? (i := 78) rfl)) rfl
theorem kX12_103 : Cond.constant RX12 103 (57600) ∈ vi_tb := vi_mem (vi_m6 (List.mem_of_getElem? (i := 79) rfl)) rfl
theorem kX12_125 : Cond.constant RX12 125 (294912) ∈ vi_tb := vi_mem (vi_m6 (List.mem_of_getElem? (i := 80) rfl)) rfl
theorem kX12_234 : Cond.constant RX12 234 (-306674912) ∈ vi_tb := vi_mem (vi_m6 (List.mem_of_getElem? (i := 93) rfl)) rfl
theorem kX12_241 : Cond.constant RX12 241 (32768) ∈ vi_tb := vi_mem (vi_m6 (List.mem_of_getElem? (i := 106) rfl)) rfl
theorem kX12_397 : Cond.constantLong RX12 397 (255) ∈ vi_tb := vi_mem (vi_m8 (List.mem_of_getElem? (i := 85) rfl)) rfl
theorem oi_i : Cond.instanceMethod Lib.objectInit ∈ vi_tb := vi_mem (vi_m1 (List.mem_of_getElem? (i := 29) rfl)) rfl
theorem oi_c : Cond.code Lib.objectInit ⟨#[0xb1]⟩ 1 none ∈ vi_tb := vi_mem (vi_m1 (List.mem_of_getElem? (i := 30) rfl)) rfl
theorem ac_byte : Cond.arrayClass .byte ∈ vi_tb := vi_mem (vi_m1 (List.mem_of_getElem? (i := 56) rfl)) rfl
theorem ac_int : Cond.arrayClass .int ∈ vi_tb := vi_mem (vi_m1 (List.mem_of_getElem? (i := 187) rfl)) rfl
theorem ac_long : Cond.arrayClass .long ∈ vi_tb := vi_mem (vi_m2 (List.mem_of_getElem? (i := 77) rfl)) rfl
theorem ac_boolean : Cond.arrayClass .boolean ∈ vi_tb := vi_mem (vi_m7 (List.mem_of_getElem? (i := 72) rfl)) rfl
theorem ao_24 {E : vE} : ∀ U, vi_K E U → va_AO RX1 U := fun U h => h.2.2.2.1
theorem ao_25 {E : vE} : ∀ U, vi_K E U → va_AO RX7 U := fun U h => h.2.2.2.2.1
theorem ao_26 {E : vE} : ∀ U, vi_K E U → va_AO RX8 U := fun U h => h.2.2.2.2.2.1
theorem ao_27 {E : vE} : ∀ U, vi_K E U → va_AO RX9 U := fun U h => h.2.2.2.2.2.2
