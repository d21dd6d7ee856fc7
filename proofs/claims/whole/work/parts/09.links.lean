theorem vi_ix {i : Nat} {w : Cond} (h : lw_tbl[i]? = some w) (g : goodWord w = true) : w ∈ vi_tb := vi_mem (List.mem_of_getElem? h) g
theorem vi_t1 {w : Cond} (h : w ∈ tables_1_1) : w ∈ tables_1 := List.mem_append_left _ h
theorem vi_m1 {w : Cond} (h : w ∈ tables_1_1) : w ∈ lw_tbl := List.mem_append_right _ (vi_t1 h)
theorem vi_t2 {w : Cond} (h : w ∈ tables_1_2) : w ∈ tables_1 := List.mem_append_right _ (List.mem_append_left _ h)
theorem vi_m2 {w : Cond} (h : w ∈ tables_1_2) : w ∈ lw_tbl := List.mem_append_right _ (vi_t2 h)
theorem vi_t3 {w : Cond} (h : w ∈ tables_1_3) : w ∈ tables_1 := List.mem_append_right _ (List.mem_append_right _ (List.mem_append_left _ h))
theorem vi_m3 {w : Cond} (h : w ∈ tables_1_3) : w ∈ lw_tbl := List.mem_append_right _ (vi_t3 h)
theorem vi_t4 {w : Cond} (h : w ∈ tables_1_4) : w ∈ tables_1 := List.mem_append_right _ (List.mem_append_right _ (List.mem_append_right _ (List.mem_append_left _ h)))
theorem vi_m4 {w : Cond} (h : w ∈ tables_1_4) : w ∈ lw_tbl := List.mem_append_right _ (vi_t4 h)
theorem vi_t5 {w : Cond} (h : w ∈ tables_1_5) : w ∈ tables_1 := List.mem_append_right _ (List.mem_append_right _ (List.mem_append_right _ (List.mem_append_right _ (List.mem_append_left _ h))))
theorem vi_m5 {w : Cond} (h : w ∈ tables_1_5) : w ∈ lw_tbl := List.mem_append_right _ (vi_t5 h)
theorem vi_t6 {w : Cond} (h : w ∈ tables_1_6) : w ∈ tables_1 := List.mem_append_right _ (List.mem_append_right _ (List.mem_append_right _ (List.mem_append_right _ (List.mem_append_right _ (List.mem_append_left _ h)))))
theorem vi_m6 {w : Cond} (h : w ∈ tables_1_6) : w ∈ lw_tbl := List.mem_append_right _ (vi_t6 h)
theorem vi_t7 {w : Cond} (h : w ∈ tables_1_7) : w ∈ tables_1 := List.mem_append_right _ (List.mem_append_right _ (List.mem_append_right _ (List.mem_append_right _ (List.mem_append_right _ (List.mem_append_right _ (List.mem_append_left _ h))))))
theorem vi_m7 {w : Cond} (h : w ∈ tables_1_7) : w ∈ lw_tbl := List.mem_append_right _ (vi_t7 h)
theorem vi_t8 {w : Cond} (h : w ∈ tables_1_8) : w ∈ tables_1 := List.mem_append_right _ (List.mem_append_right _ (List.mem_append_right _ (List.mem_append_right _ (List.mem_append_right _ (List.mem_append_right _ (List.mem_append_right _ (h)))))))
theorem vi_m8 {w : Cond} (h : w ∈ tables_1_8) : w ∈ lw_tbl := List.mem_append_right _ (vi_t8 h)
theorem fX0_7 : vi_Fl RX0 7 0 0 := ⟨_, rfl, by decide, Or.inl (vi_mem (vi_m1 (List.mem_of_getElem? (i := 43) rfl)) rfl)⟩
theorem fpX0_7 : vi_Fp RX0 "<init>" 7 0 0 := ⟨_, rfl, by decide, Or.inr ⟨rfl, rfl, rfl, vi_mem (vi_m1 (List.mem_of_getElem? (i := 43) rfl)) rfl⟩⟩
theorem fX2_60 : vi_Fl RX2 60 0 0 := ⟨_, rfl, by decide, Or.inr ⟨"SnapCluster", List.mem_filter.mpr ⟨vi_t1 (List.mem_of_getElem? (i := 44) rfl), rfl⟩⟩⟩
theorem fX0_13 : vi_Fl RX0 13 0 1 := ⟨_, rfl, by decide, Or.inl (vi_mem (vi_m1 (List.mem_of_getElem? (i := 45) rfl)) rfl)⟩
theorem fpX0_13 (nm : String) : vi_Fp RX0 nm 13 0 1 := ⟨_, rfl, by decide, Or.inl ⟨rfl, Or.inl (vi_mem (vi_m1 (List.mem_of_getElem? (i := 45) rfl)) rfl)⟩⟩
theorem fX2_53 : vi_Fl RX2 53 0 1 := ⟨_, rfl, by decide, Or.inr ⟨"SnapCluster", List.mem_filter.mpr ⟨vi_t1 (List.mem_of_getElem? (i := 46) rfl), rfl⟩⟩⟩
theorem fpX2_53 (nm : String) : vi_Fp RX2 nm 53 0 1 := ⟨_, rfl, by decide, Or.inl ⟨rfl, Or.inr ⟨"SnapCluster", List.mem_filter.mpr ⟨vi_t1 (List.mem_of_getElem? (i := 46) rfl), rfl⟩⟩⟩⟩
theorem fX11_200 : vi_Fl RX11 200 0 1 := ⟨_, rfl, by decide, Or.inr ⟨"SnapCluster", List.mem_filter.mpr ⟨vi_t1 (List.mem_of_getElem? (i := 47) rfl), rfl⟩⟩⟩
theorem fpX11_200 (nm : String) : vi_Fp RX11 nm 200 0 1 := ⟨_, rfl, by decide, Or.inl ⟨rfl, Or.inr ⟨"SnapCluster", List.mem_filter.mpr ⟨vi_t1 (List.mem_of_getElem? (i := 47) rfl), rfl⟩⟩⟩⟩
theorem fX0_17 : vi_Fl RX0 17 0 2 := ⟨_, rfl, by decide, Or.inl (vi_mem (vi_m1 (List.mem_of_getElem? (i := 48) rfl)) rfl)⟩
theorem fpX0_17 (nm : String) : vi_Fp RX0 nm 17 0 2 := ⟨_, rfl, by decide, Or.inl ⟨rfl, Or.inl (vi_mem (vi_m1 (List.mem_of_getElem? (i := 48) rfl)) rfl)⟩⟩
theorem fX1_18 : vi_Fl RX1 18 1 0 := ⟨_, rfl, by decide, Or.inl (vi_mem (vi_m1 (List.mem_of_getElem? (i := 70) rfl)) rfl)⟩
theorem fpX1_18 (nm : String) : vi_Fp RX1 nm 18 1 0 := ⟨_, rfl, by decide, Or.inl ⟨rfl, Or.inl (vi_mem (vi_m1 (List.mem_of_getElem? (i := 70) rfl)) rfl)⟩⟩
theorem fX11_181 : vi_Fl RX11 181 1 0 := ⟨_, rfl, by decide, Or.inr ⟨"SnapCluster", List.mem_filter.mpr ⟨vi_t1 (List.mem_of_getElem? (i := 71) rfl), rfl⟩⟩⟩
theorem fpX11_181 (nm : String) : vi_Fp RX11 nm 181 1 0 := ⟨_, rfl, by decide, Or.inl ⟨rfl, Or.inr ⟨"SnapCluster", List.mem_filter.mpr ⟨vi_t1 (List.mem_of_getElem? (i := 71) rfl), rfl⟩⟩⟩⟩
theorem fX7_357 : vi_Fl RX7 357 1 0 := ⟨_, rfl, by decide, Or.inr ⟨"SnapCluster", List.mem_filter.mpr ⟨vi_t1 (List.mem_of_getElem? (i := 72) rfl), rfl⟩⟩⟩
theorem fpX7_357 (nm : String) : vi_Fp RX7 nm 357 1 0 := ⟨_, rfl, by decide, Or.inl ⟨rfl, Or.inr ⟨"SnapCluster", List.mem_filter.mpr ⟨vi_t1 (List.mem_of_getElem? (i := 72) rfl), rfl⟩⟩⟩⟩
theorem fX1_21 : vi_Fl RX1 21 1 1 := ⟨_, rfl, by decide, Or.inl (vi_mem (vi_m1 (List.mem_of_getElem? (i := 73) rfl)) rfl)⟩
theorem fpX1_21 (nm : String) : vi_Fp RX1 nm 21 1 1 := ⟨_, rfl, by decide, Or.inl ⟨rfl, Or.inl (vi_mem (vi_m1 (List.mem_of_getElem? (i := 73) rfl)) rfl)⟩⟩
theorem fX7_380 : vi_Fl RX7 380 1 1 := ⟨_, rfl, by decide, Or.inr ⟨"SnapCluster", List.mem_filter.mpr ⟨vi_t1 (List.mem_of_getElem? (i := 74) rfl), rfl⟩⟩⟩
theorem fpX7_380 (nm : String) : vi_Fp RX7 nm 380 1 1 := ⟨_, rfl, by decide, Or.inl ⟨rfl, Or.inr ⟨"SnapCluster", List.mem_filter.mpr ⟨vi_t1 (List.mem_of_getElem? (i := 74) rfl), rfl⟩⟩⟩⟩
theorem fX1_24 : vi_Fl RX1 24 1 2 := ⟨_, rfl, by decide, Or.inl (vi_mem (vi_m1 (List.mem_of_getElem? (i := 75) rfl)) rfl)⟩
theorem fpX1_24 (nm : String) : vi_Fp RX1 nm 24 1 2 := ⟨_, rfl, by decide, Or.inl ⟨rfl, Or.inl (vi_mem (vi_m1 (List.mem_of_getElem? (i := 75) rfl)) rfl)⟩⟩
theorem fX11_184 : vi_Fl RX11 184 1 2 := ⟨_, rfl, by decide, Or.inr ⟨"SnapCluster", List.mem_filter.mpr ⟨vi_t1 (List.mem_of_getElem? (i := 76) rfl), rfl⟩⟩⟩
theorem fpX11_184 (nm : String) : vi_Fp RX11 nm 184 1 2 := ⟨_, rfl, by decide, Or.inl ⟨rfl, Or.inr ⟨"SnapCluster", List.mem_filter.mpr ⟨vi_t1 (List.mem_of_getElem? (i := 76) rfl), rfl⟩⟩⟩⟩
theorem fX1_38 : vi_Fl RX1 38 1 3 := ⟨_, rfl, by decide, Or.inl (vi_mem (vi_m1 (List.mem_of_getElem? (i := 77) rfl)) rfl)⟩
theorem fpX1_38 (nm : String) : vi_Fp RX1 nm 38 1 3 := ⟨_, rfl, by decide, Or.inl ⟨rfl, Or.inl (vi_mem (vi_m1 (List.mem_of_getElem? (i := 77) rfl)) rfl)⟩⟩
theorem fX7_356 : vi_Fl RX7 356 1 3 := ⟨_, rfl, by decide, Or.inr ⟨"SnapCluster", List.mem_filter.mpr ⟨vi_t1 (List.mem_of_getElem? (i := 78) rfl), rfl⟩⟩⟩
theorem fpX7_356 (nm : String) : vi_Fp RX7 nm 356 1 3 := ⟨_, rfl, by decide, Or.inl ⟨rfl, Or.inr ⟨"SnapCluster", List.mem_filter.mpr ⟨vi_t1 (List.mem_of_getElem? (i := 78) rfl), rfl⟩⟩⟩⟩
theorem fX1_41 : vi_Fl RX1 41 1 4 := ⟨_, rfl, by decide, Or.inl (vi_mem (vi_m1 (List.mem_of_getElem? (i := 79) rfl)) rfl)⟩
theorem fpX1_41 (nm : String) : vi_Fp RX1 nm 41 1 4 := ⟨_, rfl, by decide, Or.inl ⟨rfl, Or.inl (vi_mem (vi_m1 (List.mem_of_getElem? (i := 79) rfl)) rfl)⟩⟩
theorem fX5_30 : vi_Fl RX5 30 1 4 := ⟨_, rfl, by decide, Or.inr ⟨"SnapCluster", List.mem_filter.mpr ⟨vi_t1 (List.mem_of_getElem? (i := 80) rfl), rfl⟩⟩⟩
theorem fpX5_30 (nm : String) : vi_Fp RX5 nm 30 1 4 := ⟨_, rfl, by decide, Or.inl ⟨rfl, Or.inr ⟨"SnapCluster", List.mem_filter.mpr ⟨vi_t1 (List.mem_of_getElem? (i := 80) rfl), rfl⟩⟩⟩⟩
theorem fX7_377 : vi_Fl RX7 377 1 4 := ⟨_, rfl, by decide, Or.inr ⟨"SnapCluster", List.mem_filter.mpr ⟨vi_t1 (List.mem_of_getElem? (i := 81) rfl), rfl⟩⟩⟩
theorem fpX7_377 (nm : String) : vi_Fp RX7 nm 377 1 4 := ⟨_, rfl, by decide, Or.inl ⟨rfl, Or.inr ⟨"SnapCluster", List.mem_filter.mpr ⟨vi_t1 (List.mem_of_getElem? (i := 81) rfl), rfl⟩⟩⟩⟩
theorem fX1_27 : vi_Fl RX1 27 1 5 := ⟨_, rfl, by decide, Or.inl (vi_mem (vi_m1 (List.mem_of_getElem? (i := 82) rfl)) rfl)⟩
theorem fpX1_27 (nm : String) : vi_Fp RX1 nm 27 1 5 := ⟨_, rfl, by decide, Or.inl ⟨rfl, Or.inl (vi_mem (vi_m1 (List.mem_of_getElem? (i := 82) rfl)) rfl)⟩⟩
theorem fX7_408 : vi_Fl RX7 408 1 5 := ⟨_, rfl, by decide, Or.inr ⟨"SnapCluster", List.mem_filter.mpr ⟨vi_t1 (List.mem_of_getElem? (i := 83) rfl), rfl⟩⟩⟩
theorem fpX7_408 (nm : String) : vi_Fp RX7 nm 408 1 5 := ⟨_, rfl, by decide, Or.inl ⟨rfl, Or.inr ⟨"SnapCluster", List.mem_filter.mpr ⟨vi_t1 (List.mem_of_getElem? (i := 83) rfl), rfl⟩⟩⟩⟩
theorem fX1_31 : vi_Fl RX1 31 1 6 := ⟨_, rfl, by decide, Or.inl (vi_mem (vi_m1 (List.mem_of_getElem? (i := 84) rfl)) rfl)⟩
theorem fpX1_31 (nm : String) : vi_Fp RX1 nm 31 1 6 := ⟨_, rfl, by decide, Or.inl ⟨rfl, Or.inl (vi_mem (vi_m1 (List.mem_of_getElem? (i := 84) rfl)) rfl)⟩⟩
theorem fX7_411 : vi_Fl RX7 411 1 6 := ⟨_, rfl, by decide, Or.inr ⟨"SnapCluster", List.mem_filter.mpr ⟨vi_t1 (List.mem_of_getElem? (i := 85) rfl), rfl⟩⟩⟩
theorem fpX7_411 (nm : String) : vi_Fp RX7 nm 411 1 6 := ⟨_, rfl, by decide, Or.inl ⟨rfl, Or.inr ⟨"SnapCluster", List.mem_filter.mpr ⟨vi_t1 (List.mem_of_getElem? (i := 85) rfl), rfl⟩⟩⟩⟩
theorem fX1_34 : vi_Fl RX1 34 1 7 := ⟨_, rfl, by decide, Or.inl (vi_mem (vi_m1 (List.mem_of_getElem? (i := 86) rfl)) rfl)⟩
theorem fpX1_34 (nm : String) : vi_Fp RX1 nm 34 1 7 := ⟨_, rfl, by decide, Or.inl ⟨rfl, Or.inl (vi_mem (vi_m1 (List.mem_of_getElem? (i := 86) rfl)) rfl)⟩⟩
theorem fX5_25 : vi_Fl RX5 25 1 7 := ⟨_, rfl, by decide, Or.inr ⟨"SnapCluster", List.mem_filter.mpr ⟨vi_t1 (List.mem_of_getElem? (i := 87) rfl), rfl⟩⟩⟩
theorem fpX5_25 (nm : String) : vi_Fp RX5 nm 25 1 7 := ⟨_, rfl, by decide, Or.inl ⟨rfl, Or.inr ⟨"SnapCluster", List.mem_filter.mpr ⟨vi_t1 (List.mem_of_getElem? (i := 87) rfl), rfl⟩⟩⟩⟩
theorem fX1_9 : vi_Fl RX1 9 1 8 := ⟨_, rfl, by decide, Or.inl (vi_mem (vi_m1 (List.mem_of_getElem? (i := 88) rfl)) rfl)⟩
theorem fpX1_9 (nm : String) : vi_Fp RX1 nm 9 1 8 := ⟨_, rfl, by decide, Or.inl ⟨rfl, Or.inl (vi_mem (vi_m1 (List.mem_of_getElem? (i := 88) rfl)) rfl)⟩⟩
theorem fX5_49 : vi_Fl RX5 49 1 8 := ⟨_, rfl, by decide, Or.inr ⟨"SnapCluster", List.mem_filter.mpr ⟨vi_t1 (List.mem_of_getElem? (i := 89) rfl), rfl⟩⟩⟩
theorem fpX5_49 (nm : String) : vi_Fp RX5 nm 49 1 8 := ⟨_, rfl, by decide, Or.inl ⟨rfl, Or.inr ⟨"SnapCluster", List.mem_filter.mpr ⟨vi_t1 (List.mem_of_getElem? (i := 89) rfl), rfl⟩⟩⟩⟩
theorem fX1_15 : vi_Fl RX1 15 1 9 := ⟨_, rfl, by decide, Or.inl (vi_mem (vi_m1 (List.mem_of_getElem? (i := 90) rfl)) rfl)⟩
theorem fpX1_15 (nm : String) : vi_Fp RX1 nm 15 1 9 := ⟨_, rfl, by decide, Or.inl ⟨rfl, Or.inl (vi_mem (vi_m1 (List.mem_of_getElem? (i := 90) rfl)) rfl)⟩⟩
theorem fX11_203 : vi_Fl RX11 203 1 9 := ⟨_, rfl, by decide, Or.inr ⟨"SnapCluster", List.mem_filter.mpr ⟨vi_t1 (List.mem_of_getElem? (i := 91) rfl), rfl⟩⟩⟩
theorem fpX11_203 (nm : String) : vi_Fp RX11 nm 203 1 9 := ⟨_, rfl, by decide, Or.inl ⟨rfl, Or.inr ⟨"SnapCluster", List.mem_filter.mpr ⟨vi_t1 (List.mem_of_getElem? (i := 91) rfl), rfl⟩⟩⟩⟩
theorem fX1_60 : vi_Fl RX1 60 1 10 := ⟨_, rfl, by decide, Or.inl (vi_mem (vi_m1 (List.mem_of_getElem? (i := 92) rfl)) rfl)⟩
theorem fpX1_60 (nm : String) : vi_Fp RX1 nm 60 1 10 := ⟨_, rfl, by decide, Or.inl ⟨rfl, Or.inl (vi_mem (vi_m1 (List.mem_of_getElem? (i := 92) rfl)) rfl)⟩⟩
theorem fX11_206 : vi_Fl RX11 206 1 10 := ⟨_, rfl, by decide, Or.inr ⟨"SnapCluster", List.mem_filter.mpr ⟨vi_t1 (List.mem_of_getElem? (i := 93) rfl), rfl⟩⟩⟩
theorem fpX11_206 (nm : String) : vi_Fp RX11 nm 206 1 10 := ⟨_, rfl, by decide, Or.inl ⟨rfl, Or.inr ⟨"SnapCluster", List.mem_filter.mpr ⟨vi_t1 (List.mem_of_getElem? (i := 93) rfl), rfl⟩⟩⟩⟩
theorem fX3_11 : vi_Fl RX3 11 3 0 := ⟨_, rfl, by decide, Or.inl (vi_mem (vi_m1 (List.mem_of_getElem? (i := 117) rfl)) rfl)⟩
