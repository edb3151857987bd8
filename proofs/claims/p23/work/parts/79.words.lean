/-! the words of the law's own level -/
def hz_we : List Cond := [.methodLink RL 80 yX7_init, .instanceMethod yX7_init, .methodLink RL 83 yX12_init, .instanceMethod yX12_init, .methodLink RL 84 yL_mast, .static yL_mast, .codeWith yL_mast cL_mast 9 (some .int) [(0, 18, 21, 13), (0, 18, 25, 15)], .methodLink RL 89 yX12_mast, .instanceMethod yX12_mast, .selects RX12 yX12_mast yX12_mast, .methodLink RL 164 yX7_digest, .instanceMethod yX7_digest, .selects RX7 yX7_digest yX7_digest, .methodLink RL 168 yX12_digest, .instanceMethod yX12_digest, .selects RX12 yX12_digest yX12_digest, .methodLink RL 7 yX7_mast, .instanceMethod yX7_mast, .selects RX7 yX7_mast yX7_mast, .initialized RL, .initialized RX12, .initialized RX7, .classLink RL 8 RX7, .classLink RL 81 RX12, .arrayClass .long]
theorem hz_tbl : ∀ w ∈ hz_we, w ∈ lw_tbl := by decide +kernel
theorem hz_good : GoodIn lw_tbl hz_we := fun w hw => ⟨hz_tbl w hw, good_of_word (List.all_eq_true.mp (by decide +kernel : hz_we.all goodWord = true) w hw)⟩
theorem hz_0 : (Cond.methodLink RL 80 yX7_init) ∈ hz_we := List.mem_of_getElem? (i := 0) rfl
theorem hz_1 : (Cond.instanceMethod yX7_init) ∈ hz_we := List.mem_of_getElem? (i := 1) rfl
theorem hz_2 : (Cond.methodLink RL 83 yX12_init) ∈ hz_we := List.mem_of_getElem? (i := 2) rfl
theorem hz_3 : (Cond.instanceMethod yX12_init) ∈ hz_we := List.mem_of_getElem? (i := 3) rfl
theorem hz_4 : (Cond.methodLink RL 84 yL_mast) ∈ hz_we := List.mem_of_getElem? (i := 4) rfl
theorem hz_5 : (Cond.static yL_mast) ∈ hz_we := List.mem_of_getElem? (i := 5) rfl
theorem hz_6 : (Cond.codeWith yL_mast cL_mast 9 (some .int) [(0, 18, 21, 13), (0, 18, 25, 15)]) ∈ hz_we := List.mem_of_getElem? (i := 6) rfl
theorem hz_7 : (Cond.methodLink RL 89 yX12_mast) ∈ hz_we := List.mem_of_getElem? (i := 7) rfl
theorem hz_8 : (Cond.instanceMethod yX12_mast) ∈ hz_we := List.mem_of_getElem? (i := 8) rfl
theorem hz_9 : (Cond.selects RX12 yX12_mast yX12_mast) ∈ hz_we := List.mem_of_getElem? (i := 9) rfl
theorem hz_10 : (Cond.methodLink RL 164 yX7_digest) ∈ hz_we := List.mem_of_getElem? (i := 10) rfl
theorem hz_11 : (Cond.instanceMethod yX7_digest) ∈ hz_we := List.mem_of_getElem? (i := 11) rfl
theorem hz_12 : (Cond.selects RX7 yX7_digest yX7_digest) ∈ hz_we := List.mem_of_getElem? (i := 12) rfl
theorem hz_13 : (Cond.methodLink RL 168 yX12_digest) ∈ hz_we := List.mem_of_getElem? (i := 13) rfl
theorem hz_14 : (Cond.instanceMethod yX12_digest) ∈ hz_we := List.mem_of_getElem? (i := 14) rfl
theorem hz_15 : (Cond.selects RX12 yX12_digest yX12_digest) ∈ hz_we := List.mem_of_getElem? (i := 15) rfl
theorem hz_16 : (Cond.methodLink RL 7 yX7_mast) ∈ hz_we := List.mem_of_getElem? (i := 16) rfl
theorem hz_17 : (Cond.instanceMethod yX7_mast) ∈ hz_we := List.mem_of_getElem? (i := 17) rfl
theorem hz_18 : (Cond.selects RX7 yX7_mast yX7_mast) ∈ hz_we := List.mem_of_getElem? (i := 18) rfl
theorem hz_19 : (Cond.initialized RL) ∈ hz_we := List.mem_of_getElem? (i := 19) rfl
theorem hz_20 : (Cond.initialized RX12) ∈ hz_we := List.mem_of_getElem? (i := 20) rfl
theorem hz_21 : (Cond.initialized RX7) ∈ hz_we := List.mem_of_getElem? (i := 21) rfl
theorem hz_22 : (Cond.classLink RL 8 RX7) ∈ hz_we := List.mem_of_getElem? (i := 22) rfl
theorem hz_23 : (Cond.classLink RL 81 RX12) ∈ hz_we := List.mem_of_getElem? (i := 23) rfl
theorem hz_24 : (Cond.arrayClass .long) ∈ hz_we := List.mem_of_getElem? (i := 24) rfl
def hz_wl : List Cond := hh_wa ++ hz_we
theorem hz_wl_tbl : ∀ w ∈ hz_wl, w ∈ lw_tbl := fun w h => (List.mem_append.mp h).elim (hh_tbl w) (hz_tbl w)
theorem hz_goodl : GoodIn hz_wl hz_wl := fun w hw => ⟨hw, (List.mem_append.mp hw).elim (fun h => (hh_good w h).2) (fun h => (hz_good w h).2)⟩
