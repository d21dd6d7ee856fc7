theorem coX1_address : Cond.code yX1_address cX1_address 4 none ∈ vi_tb := vi_mem (vi_m3 (List.mem_of_getElem? (i := 239) rfl)) rfl
theorem imX1_address : Cond.instanceMethod yX1_address ∈ vi_tb ∧ Cond.selects yX1_address.cls yX1_address yX1_address ∈ vi_tb := ⟨vi_mem (vi_m3 (List.mem_of_getElem? (i := 237) rfl)) rfl, vi_mem (vi_m3 (List.mem_of_getElem? (i := 238) rfl)) rfl⟩
theorem ivX7_268 : vi_Iv RX7 268 yX1_address cX1_address 4 none 3 := ⟨coX1_address, inX1, by decide +kernel, Or.inl (vi_mem (vi_m3 (List.mem_of_getElem? (i := 236) rfl)) rfl)⟩
theorem ivX1_44 : vi_Iv RX1 44 yX1_address cX1_address 4 none 3 := ⟨coX1_address, inX1, by decide +kernel, Or.inl (vi_mem (vi_m5 (List.mem_of_getElem? (i := 25) rfl)) rfl)⟩
