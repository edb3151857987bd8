/-! THE LAW: its own level: two worlds and a row of one number -/
def hq_a0 : List Cond := [.methodLink RL 80 yX7_init, .instanceMethod yX7_init, .methodLink RL 83 yX12_init, .instanceMethod yX12_init, .methodLink RL 84 yL_mast, .static yL_mast, .codeWith yL_mast cL_mast 9 (some .int) [(0, 18, 21, 13), (0, 18, 25, 15)], .methodLink RL 89 yX12_mast, .instanceMethod yX12_mast, .selects RX12 yX12_mast yX12_mast, .methodLink RL 90 yX12_thrown, .instanceMethod yX12_thrown, .selects RX12 yX12_thrown yX12_thrown, .methodLink RL 94 yL_handset, .static yL_handset, .codeWith yL_handset cL_handset 7 (some .int) [(0, 14, 17, 13), (0, 14, 21, 15)], .methodLink RL 97 yX12_handset, .instanceMethod yX12_handset, .selects RX12 yX12_handset yX12_handset, .methodLink RL 98 yL_speed, .static yL_speed, .codeWith yL_speed cL_speed 5 (some .int) [(0, 10, 13, 25), (0, 10, 17, 13)], .methodLink RL 101 yX12_speed, .instanceMethod yX12_speed, .selects RX12 yX12_speed yX12_speed, .methodLink RL 102 yL_top, .static yL_top, .codeWith yL_top cL_top 5 (some .int) [(0, 10, 13, 25), (0, 10, 17, 13)], .methodLink RL 104 yX12_top, .instanceMethod yX12_top]
theorem hq_t0 : ∀ w ∈ hq_a0, w ∈ lw_tbl := by decide +kernel
def hq_a1 : List Cond := [.selects RX12 yX12_top yX12_top, .methodLink RL 105 yL_turn, .static yL_turn, .codeWith yL_turn cL_turn 5 (some .int) [(0, 17, 20, 25)], .methodLink RL 108 yX12_turn, .instanceMethod yX12_turn, .selects RX12 yX12_turn yX12_turn, .methodLink RL 109 yL_wake, .static yL_wake, .codeWith yL_wake cL_wake 5 (some .int) [(0, 17, 20, 25)], .methodLink RL 111 yX12_wake, .instanceMethod yX12_wake, .selects RX12 yX12_wake yX12_wake, .methodLink RL 112 yL_call, .static yL_call, .codeWith yL_call cL_call 5 (some .int) [(0, 10, 13, 25), (0, 10, 17, 13), (0, 10, 21, 15)], .methodLink RL 114 yX12_call, .instanceMethod yX12_call, .selects RX12 yX12_call yX12_call, .methodLink RL 115 yL_emergency, .static yL_emergency, .codeWith yL_emergency cL_emergency 4 (some .int) [(0, 9, 12, 25), (0, 9, 15, 15)], .methodLink RL 118 yX12_emergency, .instanceMethod yX12_emergency, .selects RX12 yX12_emergency yX12_emergency, .methodLink RL 119 yL_hang, .static yL_hang, .codeWith yL_hang cL_hang 4 (some .int) [(0, 9, 12, 25), (0, 9, 15, 15)], .methodLink RL 121 yX12_hang, .instanceMethod yX12_hang]
theorem hq_t1 : ∀ w ∈ hq_a1, w ∈ lw_tbl := by decide +kernel
def hq_a2 : List Cond := [.selects RX12 yX12_hang yX12_hang, .methodLink RL 122 yL_text, .static yL_text, .codeWith yL_text cL_text 5 (some .int) [(0, 10, 13, 25), (0, 10, 17, 13), (0, 10, 21, 15)], .methodLink RL 124 yX12_text, .instanceMethod yX12_text, .selects RX12 yX12_text yX12_text, .methodLink RL 125 yX7_forget, .instanceMethod yX7_forget, .selects RX7 yX7_forget yX7_forget, .methodLink RL 128 yX12_forget, .instanceMethod yX12_forget, .selects RX12 yX12_forget yX12_forget, .methodLink RL 129 yL_pass, .static yL_pass, .codeWith yL_pass cL_pass 4 (some .int) [(0, 9, 12, 13)], .methodLink RL 131 yX12_pass, .instanceMethod yX12_pass, .selects RX12 yX12_pass yX12_pass, .methodLink RL 132 yL_quality, .static yL_quality, .codeWith yL_quality cL_quality 5 (some .int) [(0, 10, 13, 25), (0, 10, 17, 13)], .methodLink RL 134 yX12_quality, .instanceMethod yX12_quality, .selects RX12 yX12_quality yX12_quality, .methodLink RL 135 yL_best, .static yL_best, .codeWith yL_best cL_best 4 (some .int) [(0, 9, 12, 13)], .methodLink RL 137 yX12_best, .instanceMethod yX12_best]
theorem hq_t2 : ∀ w ∈ hq_a2, w ∈ lw_tbl := by decide +kernel
def hq_a3 : List Cond := [.selects RX12 yX12_best yX12_best, .methodLink RL 138 yL_ofMast, .static yL_ofMast, .codeWith yL_ofMast cL_ofMast 5 (some .int) [(0, 10, 13, 25), (0, 10, 17, 13)], .methodLink RL 140 yX12_ofMast, .instanceMethod yX12_ofMast, .selects RX12 yX12_ofMast yX12_ofMast, .methodLink RL 141 yL_ofHandset, .static yL_ofHandset, .codeWith yL_ofHandset cL_ofHandset 5 (some .int) [(0, 10, 13, 25), (0, 10, 17, 13)], .methodLink RL 143 yX12_ofHandset, .instanceMethod yX12_ofHandset, .selects RX12 yX12_ofHandset yX12_ofHandset, .methodLink RL 144 yL_ofCall, .static yL_ofCall, .codeWith yL_ofCall cL_ofCall 5 (some .int) [(0, 10, 13, 25), (0, 10, 17, 13)], .methodLink RL 146 yX12_ofCall, .instanceMethod yX12_ofCall, .selects RX12 yX12_ofCall yX12_ofCall, .methodLink RL 147 yL_many, .static yL_many, .codeWith yL_many cL_many 4 (some .int) [(0, 9, 12, 13)], .methodLink RL 149 yX12_many, .instanceMethod yX12_many, .selects RX12 yX12_many yX12_many, .methodLink RL 150 yX7_meanSeconds, .instanceMethod yX7_meanSeconds, .selects RX7 yX7_meanSeconds yX7_meanSeconds, .methodLink RL 154 yX12_meanSeconds, .instanceMethod yX12_meanSeconds]
theorem hq_t3 : ∀ w ∈ hq_a3, w ∈ lw_tbl := by decide +kernel
def hq_a4 : List Cond := [.selects RX12 yX12_meanSeconds yX12_meanSeconds, .methodLink RL 155 yL_endsIn, .static yL_endsIn, .codeWith yL_endsIn cL_endsIn 5 (some .int) [(0, 10, 13, 25), (0, 10, 17, 13)], .methodLink RL 157 yX12_endsIn, .instanceMethod yX12_endsIn, .selects RX12 yX12_endsIn yX12_endsIn, .methodLink RL 158 yL_wouldBeOn, .static yL_wouldBeOn, .codeWith yL_wouldBeOn cL_wouldBeOn 5 (some .int) [(0, 10, 13, 25), (0, 10, 17, 13)], .methodLink RL 160 yX12_wouldBeOn, .instanceMethod yX12_wouldBeOn, .selects RX12 yX12_wouldBeOn yX12_wouldBeOn, .methodLink RL 161 yL_bestPlace, .static yL_bestPlace, .codeWith yL_bestPlace cL_bestPlace 5 (some .int) [(0, 10, 13, 13)], .methodLink RL 163 yX12_bestPlace, .instanceMethod yX12_bestPlace, .selects RX12 yX12_bestPlace yX12_bestPlace, .methodLink RL 164 yX7_digest, .instanceMethod yX7_digest, .selects RX7 yX7_digest yX7_digest, .methodLink RL 168 yX12_digest, .instanceMethod yX12_digest, .selects RX12 yX12_digest yX12_digest, .initialized RL, .initialized RX12, .initialized RX7, .classLink RL 8 RX7, .classLink RL 81 RX12]
theorem hq_t4 : ∀ w ∈ hq_a4, w ∈ lw_tbl := by decide +kernel
def hq_a5 : List Cond := [.arrayClass .long]
theorem hq_t5 : ∀ w ∈ hq_a5, w ∈ lw_tbl := by decide +kernel
def hq_we : List Cond := hq_a0 ++ (hq_a1 ++ (hq_a2 ++ (hq_a3 ++ (hq_a4 ++ (hq_a5)))))
theorem hq_tbl : ∀ w ∈ hq_we, w ∈ lw_tbl := fun w h => (List.mem_append.mp h).elim (hq_t0 w) (fun h => (List.mem_append.mp h).elim (hq_t1 w) (fun h => (List.mem_append.mp h).elim (hq_t2 w) (fun h => (List.mem_append.mp h).elim (hq_t3 w) (fun h => (List.mem_append.mp h).elim (hq_t4 w) (fun h => hq_t5 w h)))))
theorem hq_good : GoodIn lw_tbl hq_we := goodIn_sub hq_tbl (by decide +kernel)
theorem hq_0 : (Cond.methodLink RL 80 yX7_init) ∈ hq_we := List.mem_of_getElem? (i := 0) rfl
theorem hq_1 : (Cond.instanceMethod yX7_init) ∈ hq_we := List.mem_of_getElem? (i := 1) rfl
theorem hq_2 : (Cond.methodLink RL 83 yX12_init) ∈ hq_we := List.mem_of_getElem? (i := 2) rfl
theorem hq_3 : (Cond.instanceMethod yX12_init) ∈ hq_we := List.mem_of_getElem? (i := 3) rfl
theorem hq_4 : (Cond.methodLink RL 84 yL_mast) ∈ hq_we := List.mem_of_getElem? (i := 4) rfl
theorem hq_5 : (Cond.static yL_mast) ∈ hq_we := List.mem_of_getElem? (i := 5) rfl
theorem hq_6 : (Cond.codeWith yL_mast cL_mast 9 (some .int) [(0, 18, 21, 13), (0, 18, 25, 15)]) ∈ hq_we := List.mem_of_getElem? (i := 6) rfl
theorem hq_7 : (Cond.methodLink RL 89 yX12_mast) ∈ hq_we := List.mem_of_getElem? (i := 7) rfl
theorem hq_8 : (Cond.instanceMethod yX12_mast) ∈ hq_we := List.mem_of_getElem? (i := 8) rfl
theorem hq_9 : (Cond.selects RX12 yX12_mast yX12_mast) ∈ hq_we := List.mem_of_getElem? (i := 9) rfl
theorem hq_10 : (Cond.methodLink RL 90 yX12_thrown) ∈ hq_we := List.mem_of_getElem? (i := 10) rfl
theorem hq_11 : (Cond.instanceMethod yX12_thrown) ∈ hq_we := List.mem_of_getElem? (i := 11) rfl
theorem hq_12 : (Cond.selects RX12 yX12_thrown yX12_thrown) ∈ hq_we := List.mem_of_getElem? (i := 12) rfl
theorem hq_13 : (Cond.methodLink RL 94 yL_handset) ∈ hq_we := List.mem_of_getElem? (i := 13) rfl
theorem hq_14 : (Cond.static yL_handset) ∈ hq_we := List.mem_of_getElem? (i := 14) rfl
theorem hq_15 : (Cond.codeWith yL_handset cL_handset 7 (some .int) [(0, 14, 17, 13), (0, 14, 21, 15)]) ∈ hq_we := List.mem_of_getElem? (i := 15) rfl
theorem hq_16 : (Cond.methodLink RL 97 yX12_handset) ∈ hq_we := List.mem_of_getElem? (i := 16) rfl
theorem hq_17 : (Cond.instanceMethod yX12_handset) ∈ hq_we := List.mem_of_getElem? (i := 17) rfl
theorem hq_18 : (Cond.selects RX12 yX12_handset yX12_handset) ∈ hq_we := List.mem_of_getElem? (i := 18) rfl
theorem hq_19 : (Cond.methodLink RL 98 yL_speed) ∈ hq_we := List.mem_of_getElem? (i := 19) rfl
theorem hq_20 : (Cond.static yL_speed) ∈ hq_we := List.mem_of_getElem? (i := 20) rfl
theorem hq_21 : (Cond.codeWith yL_speed cL_speed 5 (some .int) [(0, 10, 13, 25), (0, 10, 17, 13)]) ∈ hq_we := List.mem_of_getElem? (i := 21) rfl
theorem hq_22 : (Cond.methodLink RL 101 yX12_speed) ∈ hq_we := List.mem_of_getElem? (i := 22) rfl
theorem hq_23 : (Cond.instanceMethod yX12_speed) ∈ hq_we := List.mem_of_getElem? (i := 23) rfl
theorem hq_24 : (Cond.selects RX12 yX12_speed yX12_speed) ∈ hq_we := List.mem_of_getElem? (i := 24) rfl
theorem hq_25 : (Cond.methodLink RL 102 yL_top) ∈ hq_we := List.mem_of_getElem? (i := 25) rfl
theorem hq_26 : (Cond.static yL_top) ∈ hq_we := List.mem_of_getElem? (i := 26) rfl
theorem hq_27 : (Cond.codeWith yL_top cL_top 5 (some .int) [(0, 10, 13, 25), (0, 10, 17, 13)]) ∈ hq_we := List.mem_of_getElem? (i := 27) rfl
theorem hq_28 : (Cond.methodLink RL 104 yX12_top) ∈ hq_we := List.mem_of_getElem? (i := 28) rfl
theorem hq_29 : (Cond.instanceMethod yX12_top) ∈ hq_we := List.mem_of_getElem? (i := 29) rfl
theorem hq_30 : (Cond.selects RX12 yX12_top yX12_top) ∈ hq_we := List.mem_of_getElem? (i := 30) rfl
theorem hq_31 : (Cond.methodLink RL 105 yL_turn) ∈ hq_we := List.mem_of_getElem? (i := 31) rfl
theorem hq_32 : (Cond.static yL_turn) ∈ hq_we := List.mem_of_getElem? (i := 32) rfl
theorem hq_33 : (Cond.codeWith yL_turn cL_turn 5 (some .int) [(0, 17, 20, 25)]) ∈ hq_we := List.mem_of_getElem? (i := 33) rfl
theorem hq_34 : (Cond.methodLink RL 108 yX12_turn) ∈ hq_we := List.mem_of_getElem? (i := 34) rfl
theorem hq_35 : (Cond.instanceMethod yX12_turn) ∈ hq_we := List.mem_of_getElem? (i := 35) rfl
theorem hq_36 : (Cond.selects RX12 yX12_turn yX12_turn) ∈ hq_we := List.mem_of_getElem? (i := 36) rfl
theorem hq_37 : (Cond.methodLink RL 109 yL_wake) ∈ hq_we := List.mem_of_getElem? (i := 37) rfl
theorem hq_38 : (Cond.static yL_wake) ∈ hq_we := List.mem_of_getElem? (i := 38) rfl
theorem hq_39 : (Cond.codeWith yL_wake cL_wake 5 (some .int) [(0, 17, 20, 25)]) ∈ hq_we := List.mem_of_getElem? (i := 39) rfl
theorem hq_40 : (Cond.methodLink RL 111 yX12_wake) ∈ hq_we := List.mem_of_getElem? (i := 40) rfl
theorem hq_41 : (Cond.instanceMethod yX12_wake) ∈ hq_we := List.mem_of_getElem? (i := 41) rfl
theorem hq_42 : (Cond.selects RX12 yX12_wake yX12_wake) ∈ hq_we := List.mem_of_getElem? (i := 42) rfl
theorem hq_43 : (Cond.methodLink RL 112 yL_call) ∈ hq_we := List.mem_of_getElem? (i := 43) rfl
theorem hq_44 : (Cond.static yL_call) ∈ hq_we := List.mem_of_getElem? (i := 44) rfl
theorem hq_45 : (Cond.codeWith yL_call cL_call 5 (some .int) [(0, 10, 13, 25), (0, 10, 17, 13), (0, 10, 21, 15)]) ∈ hq_we := List.mem_of_getElem? (i := 45) rfl
theorem hq_46 : (Cond.methodLink RL 114 yX12_call) ∈ hq_we := List.mem_of_getElem? (i := 46) rfl
theorem hq_47 : (Cond.instanceMethod yX12_call) ∈ hq_we := List.mem_of_getElem? (i := 47) rfl
theorem hq_48 : (Cond.selects RX12 yX12_call yX12_call) ∈ hq_we := List.mem_of_getElem? (i := 48) rfl
theorem hq_49 : (Cond.methodLink RL 115 yL_emergency) ∈ hq_we := List.mem_of_getElem? (i := 49) rfl
theorem hq_50 : (Cond.static yL_emergency) ∈ hq_we := List.mem_of_getElem? (i := 50) rfl
theorem hq_51 : (Cond.codeWith yL_emergency cL_emergency 4 (some .int) [(0, 9, 12, 25), (0, 9, 15, 15)]) ∈ hq_we := List.mem_of_getElem? (i := 51) rfl
theorem hq_52 : (Cond.methodLink RL 118 yX12_emergency) ∈ hq_we := List.mem_of_getElem? (i := 52) rfl
theorem hq_53 : (Cond.instanceMethod yX12_emergency) ∈ hq_we := List.mem_of_getElem? (i := 53) rfl
theorem hq_54 : (Cond.selects RX12 yX12_emergency yX12_emergency) ∈ hq_we := List.mem_of_getElem? (i := 54) rfl
theorem hq_55 : (Cond.methodLink RL 119 yL_hang) ∈ hq_we := List.mem_of_getElem? (i := 55) rfl
theorem hq_56 : (Cond.static yL_hang) ∈ hq_we := List.mem_of_getElem? (i := 56) rfl
theorem hq_57 : (Cond.codeWith yL_hang cL_hang 4 (some .int) [(0, 9, 12, 25), (0, 9, 15, 15)]) ∈ hq_we := List.mem_of_getElem? (i := 57) rfl
theorem hq_58 : (Cond.methodLink RL 121 yX12_hang) ∈ hq_we := List.mem_of_getElem? (i := 58) rfl
theorem hq_59 : (Cond.instanceMethod yX12_hang) ∈ hq_we := List.mem_of_getElem? (i := 59) rfl
theorem hq_60 : (Cond.selects RX12 yX12_hang yX12_hang) ∈ hq_we := List.mem_of_getElem? (i := 60) rfl
theorem hq_61 : (Cond.methodLink RL 122 yL_text) ∈ hq_we := List.mem_of_getElem? (i := 61) rfl
theorem hq_62 : (Cond.static yL_text) ∈ hq_we := List.mem_of_getElem? (i := 62) rfl
theorem hq_63 : (Cond.codeWith yL_text cL_text 5 (some .int) [(0, 10, 13, 25), (0, 10, 17, 13), (0, 10, 21, 15)]) ∈ hq_we := List.mem_of_getElem? (i := 63) rfl
theorem hq_64 : (Cond.methodLink RL 124 yX12_text) ∈ hq_we := List.mem_of_getElem? (i := 64) rfl
theorem hq_65 : (Cond.instanceMethod yX12_text) ∈ hq_we := List.mem_of_getElem? (i := 65) rfl
theorem hq_66 : (Cond.selects RX12 yX12_text yX12_text) ∈ hq_we := List.mem_of_getElem? (i := 66) rfl
theorem hq_67 : (Cond.methodLink RL 125 yX7_forget) ∈ hq_we := List.mem_of_getElem? (i := 67) rfl
theorem hq_68 : (Cond.instanceMethod yX7_forget) ∈ hq_we := List.mem_of_getElem? (i := 68) rfl
theorem hq_69 : (Cond.selects RX7 yX7_forget yX7_forget) ∈ hq_we := List.mem_of_getElem? (i := 69) rfl
theorem hq_70 : (Cond.methodLink RL 128 yX12_forget) ∈ hq_we := List.mem_of_getElem? (i := 70) rfl
theorem hq_71 : (Cond.instanceMethod yX12_forget) ∈ hq_we := List.mem_of_getElem? (i := 71) rfl
theorem hq_72 : (Cond.selects RX12 yX12_forget yX12_forget) ∈ hq_we := List.mem_of_getElem? (i := 72) rfl
theorem hq_73 : (Cond.methodLink RL 129 yL_pass) ∈ hq_we := List.mem_of_getElem? (i := 73) rfl
theorem hq_74 : (Cond.static yL_pass) ∈ hq_we := List.mem_of_getElem? (i := 74) rfl
theorem hq_75 : (Cond.codeWith yL_pass cL_pass 4 (some .int) [(0, 9, 12, 13)]) ∈ hq_we := List.mem_of_getElem? (i := 75) rfl
theorem hq_76 : (Cond.methodLink RL 131 yX12_pass) ∈ hq_we := List.mem_of_getElem? (i := 76) rfl
theorem hq_77 : (Cond.instanceMethod yX12_pass) ∈ hq_we := List.mem_of_getElem? (i := 77) rfl
theorem hq_78 : (Cond.selects RX12 yX12_pass yX12_pass) ∈ hq_we := List.mem_of_getElem? (i := 78) rfl
theorem hq_79 : (Cond.methodLink RL 132 yL_quality) ∈ hq_we := List.mem_of_getElem? (i := 79) rfl
theorem hq_80 : (Cond.static yL_quality) ∈ hq_we := List.mem_of_getElem? (i := 80) rfl
theorem hq_81 : (Cond.codeWith yL_quality cL_quality 5 (some .int) [(0, 10, 13, 25), (0, 10, 17, 13)]) ∈ hq_we := List.mem_of_getElem? (i := 81) rfl
theorem hq_82 : (Cond.methodLink RL 134 yX12_quality) ∈ hq_we := List.mem_of_getElem? (i := 82) rfl
theorem hq_83 : (Cond.instanceMethod yX12_quality) ∈ hq_we := List.mem_of_getElem? (i := 83) rfl
theorem hq_84 : (Cond.selects RX12 yX12_quality yX12_quality) ∈ hq_we := List.mem_of_getElem? (i := 84) rfl
theorem hq_85 : (Cond.methodLink RL 135 yL_best) ∈ hq_we := List.mem_of_getElem? (i := 85) rfl
theorem hq_86 : (Cond.static yL_best) ∈ hq_we := List.mem_of_getElem? (i := 86) rfl
theorem hq_87 : (Cond.codeWith yL_best cL_best 4 (some .int) [(0, 9, 12, 13)]) ∈ hq_we := List.mem_of_getElem? (i := 87) rfl
theorem hq_88 : (Cond.methodLink RL 137 yX12_best) ∈ hq_we := List.mem_of_getElem? (i := 88) rfl
theorem hq_89 : (Cond.instanceMethod yX12_best) ∈ hq_we := List.mem_of_getElem? (i := 89) rfl
theorem hq_90 : (Cond.selects RX12 yX12_best yX12_best) ∈ hq_we := List.mem_of_getElem? (i := 90) rfl
theorem hq_91 : (Cond.methodLink RL 138 yL_ofMast) ∈ hq_we := List.mem_of_getElem? (i := 91) rfl
theorem hq_92 : (Cond.static yL_ofMast) ∈ hq_we := List.mem_of_getElem? (i := 92) rfl
theorem hq_93 : (Cond.codeWith yL_ofMast cL_ofMast 5 (some .int) [(0, 10, 13, 25), (0, 10, 17, 13)]) ∈ hq_we := List.mem_of_getElem? (i := 93) rfl
theorem hq_94 : (Cond.methodLink RL 140 yX12_ofMast) ∈ hq_we := List.mem_of_getElem? (i := 94) rfl
theorem hq_95 : (Cond.instanceMethod yX12_ofMast) ∈ hq_we := List.mem_of_getElem? (i := 95) rfl
theorem hq_96 : (Cond.selects RX12 yX12_ofMast yX12_ofMast) ∈ hq_we := List.mem_of_getElem? (i := 96) rfl
theorem hq_97 : (Cond.methodLink RL 141 yL_ofHandset) ∈ hq_we := List.mem_of_getElem? (i := 97) rfl
theorem hq_98 : (Cond.static yL_ofHandset) ∈ hq_we := List.mem_of_getElem? (i := 98) rfl
theorem hq_99 : (Cond.codeWith yL_ofHandset cL_ofHandset 5 (some .int) [(0, 10, 13, 25), (0, 10, 17, 13)]) ∈ hq_we := List.mem_of_getElem? (i := 99) rfl
theorem hq_100 : (Cond.methodLink RL 143 yX12_ofHandset) ∈ hq_we := List.mem_of_getElem? (i := 100) rfl
theorem hq_101 : (Cond.instanceMethod yX12_ofHandset) ∈ hq_we := List.mem_of_getElem? (i := 101) rfl
theorem hq_102 : (Cond.selects RX12 yX12_ofHandset yX12_ofHandset) ∈ hq_we := List.mem_of_getElem? (i := 102) rfl
theorem hq_103 : (Cond.methodLink RL 144 yL_ofCall) ∈ hq_we := List.mem_of_getElem? (i := 103) rfl
theorem hq_104 : (Cond.static yL_ofCall) ∈ hq_we := List.mem_of_getElem? (i := 104) rfl
theorem hq_105 : (Cond.codeWith yL_ofCall cL_ofCall 5 (some .int) [(0, 10, 13, 25), (0, 10, 17, 13)]) ∈ hq_we := List.mem_of_getElem? (i := 105) rfl
theorem hq_106 : (Cond.methodLink RL 146 yX12_ofCall) ∈ hq_we := List.mem_of_getElem? (i := 106) rfl
theorem hq_107 : (Cond.instanceMethod yX12_ofCall) ∈ hq_we := List.mem_of_getElem? (i := 107) rfl
theorem hq_108 : (Cond.selects RX12 yX12_ofCall yX12_ofCall) ∈ hq_we := List.mem_of_getElem? (i := 108) rfl
theorem hq_109 : (Cond.methodLink RL 147 yL_many) ∈ hq_we := List.mem_of_getElem? (i := 109) rfl
theorem hq_110 : (Cond.static yL_many) ∈ hq_we := List.mem_of_getElem? (i := 110) rfl
theorem hq_111 : (Cond.codeWith yL_many cL_many 4 (some .int) [(0, 9, 12, 13)]) ∈ hq_we := List.mem_of_getElem? (i := 111) rfl
theorem hq_112 : (Cond.methodLink RL 149 yX12_many) ∈ hq_we := List.mem_of_getElem? (i := 112) rfl
theorem hq_113 : (Cond.instanceMethod yX12_many) ∈ hq_we := List.mem_of_getElem? (i := 113) rfl
theorem hq_114 : (Cond.selects RX12 yX12_many yX12_many) ∈ hq_we := List.mem_of_getElem? (i := 114) rfl
theorem hq_115 : (Cond.methodLink RL 150 yX7_meanSeconds) ∈ hq_we := List.mem_of_getElem? (i := 115) rfl
theorem hq_116 : (Cond.instanceMethod yX7_meanSeconds) ∈ hq_we := List.mem_of_getElem? (i := 116) rfl
theorem hq_117 : (Cond.selects RX7 yX7_meanSeconds yX7_meanSeconds) ∈ hq_we := List.mem_of_getElem? (i := 117) rfl
theorem hq_118 : (Cond.methodLink RL 154 yX12_meanSeconds) ∈ hq_we := List.mem_of_getElem? (i := 118) rfl
theorem hq_119 : (Cond.instanceMethod yX12_meanSeconds) ∈ hq_we := List.mem_of_getElem? (i := 119) rfl
theorem hq_120 : (Cond.selects RX12 yX12_meanSeconds yX12_meanSeconds) ∈ hq_we := List.mem_of_getElem? (i := 120) rfl
theorem hq_121 : (Cond.methodLink RL 155 yL_endsIn) ∈ hq_we := List.mem_of_getElem? (i := 121) rfl
theorem hq_122 : (Cond.static yL_endsIn) ∈ hq_we := List.mem_of_getElem? (i := 122) rfl
theorem hq_123 : (Cond.codeWith yL_endsIn cL_endsIn 5 (some .int) [(0, 10, 13, 25), (0, 10, 17, 13)]) ∈ hq_we := List.mem_of_getElem? (i := 123) rfl
theorem hq_124 : (Cond.methodLink RL 157 yX12_endsIn) ∈ hq_we := List.mem_of_getElem? (i := 124) rfl
theorem hq_125 : (Cond.instanceMethod yX12_endsIn) ∈ hq_we := List.mem_of_getElem? (i := 125) rfl
theorem hq_126 : (Cond.selects RX12 yX12_endsIn yX12_endsIn) ∈ hq_we := List.mem_of_getElem? (i := 126) rfl
theorem hq_127 : (Cond.methodLink RL 158 yL_wouldBeOn) ∈ hq_we := List.mem_of_getElem? (i := 127) rfl
theorem hq_128 : (Cond.static yL_wouldBeOn) ∈ hq_we := List.mem_of_getElem? (i := 128) rfl
theorem hq_129 : (Cond.codeWith yL_wouldBeOn cL_wouldBeOn 5 (some .int) [(0, 10, 13, 25), (0, 10, 17, 13)]) ∈ hq_we := List.mem_of_getElem? (i := 129) rfl
theorem hq_130 : (Cond.methodLink RL 160 yX12_wouldBeOn) ∈ hq_we := List.mem_of_getElem? (i := 130) rfl
theorem hq_131 : (Cond.instanceMethod yX12_wouldBeOn) ∈ hq_we := List.mem_of_getElem? (i := 131) rfl
theorem hq_132 : (Cond.selects RX12 yX12_wouldBeOn yX12_wouldBeOn) ∈ hq_we := List.mem_of_getElem? (i := 132) rfl
theorem hq_133 : (Cond.methodLink RL 161 yL_bestPlace) ∈ hq_we := List.mem_of_getElem? (i := 133) rfl
theorem hq_134 : (Cond.static yL_bestPlace) ∈ hq_we := List.mem_of_getElem? (i := 134) rfl
theorem hq_135 : (Cond.codeWith yL_bestPlace cL_bestPlace 5 (some .int) [(0, 10, 13, 13)]) ∈ hq_we := List.mem_of_getElem? (i := 135) rfl
theorem hq_136 : (Cond.methodLink RL 163 yX12_bestPlace) ∈ hq_we := List.mem_of_getElem? (i := 136) rfl
theorem hq_137 : (Cond.instanceMethod yX12_bestPlace) ∈ hq_we := List.mem_of_getElem? (i := 137) rfl
theorem hq_138 : (Cond.selects RX12 yX12_bestPlace yX12_bestPlace) ∈ hq_we := List.mem_of_getElem? (i := 138) rfl
theorem hq_139 : (Cond.methodLink RL 164 yX7_digest) ∈ hq_we := List.mem_of_getElem? (i := 139) rfl
theorem hq_140 : (Cond.instanceMethod yX7_digest) ∈ hq_we := List.mem_of_getElem? (i := 140) rfl
theorem hq_141 : (Cond.selects RX7 yX7_digest yX7_digest) ∈ hq_we := List.mem_of_getElem? (i := 141) rfl
theorem hq_142 : (Cond.methodLink RL 168 yX12_digest) ∈ hq_we := List.mem_of_getElem? (i := 142) rfl
theorem hq_143 : (Cond.instanceMethod yX12_digest) ∈ hq_we := List.mem_of_getElem? (i := 143) rfl
theorem hq_144 : (Cond.selects RX12 yX12_digest yX12_digest) ∈ hq_we := List.mem_of_getElem? (i := 144) rfl
theorem hq_145 : (Cond.initialized RL) ∈ hq_we := List.mem_of_getElem? (i := 145) rfl
theorem hq_146 : (Cond.initialized RX12) ∈ hq_we := List.mem_of_getElem? (i := 146) rfl
theorem hq_147 : (Cond.initialized RX7) ∈ hq_we := List.mem_of_getElem? (i := 147) rfl
theorem hq_148 : (Cond.classLink RL 8 RX7) ∈ hq_we := List.mem_of_getElem? (i := 148) rfl
theorem hq_149 : (Cond.classLink RL 81 RX12) ∈ hq_we := List.mem_of_getElem? (i := 149) rfl
theorem hq_150 : (Cond.arrayClass .long) ∈ hq_we := List.mem_of_getElem? (i := 150) rfl
theorem hq_gS {index nL : Nat} {y : MethodName} {bytes : ByteArray} {hh : List (Nat × Nat × Nat × Nat)} (hy : y.cls = RL) (h1 : Cond.methodLink RL index y ∈ hq_we) (h2 : Cond.static y ∈ hq_we) (h5 : Cond.codeWith y bytes nL (some .int) hh ∈ hq_we) : GoodIn lw_tbl (va_wsS RL index y (hy_wm y bytes nL hh)) := by
  intro w hw
  unfold va_wsS at hw
  rcases List.mem_append.mp hw with hw | hw
  · simp only [List.mem_cons, List.not_mem_nil, or_false] at hw
    rcases hw with rfl | rfl | rfl
    · exact hq_good _ h1
    · exact hq_good _ h2
    · rw [hy]; exact hq_good _ hq_145
  · rcases List.mem_cons.mp hw with rfl | hw
    · exact hq_good _ h5
    · exact ⟨hy_wl_tbl _ hw, (hy_good _ hw).2⟩
theorem hq_gV {index nL : Nat} {y : MethodName} {bytes : ByteArray} {ret : Option FieldType} (h1 : Cond.methodLink RL index y ∈ hq_we) (h2 : Cond.instanceMethod y ∈ hq_we) (h3 : Cond.selects RX12 y y ∈ hq_we) (h5 : Cond.code y bytes nL ret ∈ hr_wa) : GoodIn lw_tbl (wsV RL index RX12 y (hr_wm y bytes nL ret)) := by
  intro w hw
  unfold wsV at hw
  rcases List.mem_append.mp hw with hw | hw
  · simp only [List.mem_cons, List.not_mem_nil, or_false] at hw
    rcases hw with rfl | rfl | rfl | rfl
    · exact hq_good _ h1
    · exact hq_good _ h2
    · exact hq_good _ h3
    · exact hq_good _ hq_146
  · rcases List.mem_cons.mp hw with rfl | hw
    · exact ⟨hr_tbl _ h5, (hr_good _ h5).2⟩
    · exact ⟨hr_tbl _ hw, (hr_good _ hw).2⟩
theorem hq_gW {index nL : Nat} {y : MethodName} {bytes : ByteArray} {ret : Option FieldType} (h1 : Cond.methodLink RL index y ∈ hq_we) (h2 : Cond.instanceMethod y ∈ hq_we) (h3 : Cond.selects RX7 y y ∈ hq_we) (h5 : Cond.code y bytes nL ret ∈ hh_wa) : GoodIn lw_tbl (wsV RL index RX7 y (hh_wm y bytes nL ret)) := by
  intro w hw
  unfold wsV at hw
  rcases List.mem_append.mp hw with hw | hw
  · simp only [List.mem_cons, List.not_mem_nil, or_false] at hw
    rcases hw with rfl | rfl | rfl | rfl
    · exact hq_good _ h1
    · exact hq_good _ h2
    · exact hq_good _ h3
    · exact hq_good _ hq_147
  · rcases List.mem_cons.mp hw with rfl | hw
    · exact ⟨hh_tbl _ h5, (hh_good _ h5).2⟩
    · exact ⟨hh_tbl _ hw, (hh_good _ hw).2⟩
def hq_R (o : Nat) (cJ : ClassId) (g : Nat → Int64) : va_W := [(o, .inl (cJ, 1, .inr (.inl g)))]
def hq_X (a : Nat → Nat) (z o : Nat) (cJ : ClassId) (g : Nat → Int64) : va_W := hr_Y a z 0 0 ++ hq_R o cJ g
def hq_W (D1 D2 : va_G) (K : Nat → ClassId) (ad a : Nat → Nat) (z o : Nat) (cJ : ClassId) (A : Nat → Prop) (H0 H : Heap) (locs : List Loc) : Prop := va_P D1 hh_cl (hh_W K ad hn_v0) H ∧ va_P D2 hr_cl (hq_X a z o cJ (fun _ => 0)) H ∧ va_D A (hh_W K ad hn_v0 ++ hq_X a z o cJ (fun _ => 0)) ∧ va_S A H0 H locs
def hq_C (p : Program) (s : State) (m : MethodId) (args : Array Value) (meth : Method) (c : Code) (D1 D2 : va_G) (K : Nat → ClassId) (z s1 s2 b L : Nat) (xs : Nat → Int32) (cJ : ClassId) (A : Nat → Prop) : Prop :=
  p.tables.exec = Jvm.exec ∧ c.code = cL_law ∧ c.maxLocals = 9 ∧ s.vm.findClass RL = some m.cls ∧ (∀ w ∈ lw_tbl, w.before args s = true) ∧ va_K D1 hh_cl (hh_ty K) s ∧ va_K D1 hh_cl [(cJ, .long)] s ∧ va_K D2 hr_cl [] s ∧ va_K D2 hr_cl [(cJ, .long)] s ∧ (∀ q, s.heap.size ≤ q → A q) ∧ hr_N z A s s.heap ∧ hx_V s1 s2 s ∧ hx_Z A s s.heap ∧ va_X b L xs s s.heap ∧ b < s.heap.size ∧ ¬ A b
theorem hq_P1 {D D' : va_G} {cl cl' : List vw_C} {o n : Nat} {cJ : ClassId} {f : vp_A} {H : Heap} (h : va_P D cl [(o, .inl (cJ, f))] H) : va_P D' cl' [(o, .inl (cJ, f))] H := fun k q hk => by
  match k, hk with
  | 0, hk => cases hk; exact h 0 _ rfl
  | k + 1, hk => simp at hk
section HQ
variable {p : Program} {l : Launch} {e : Env} {R : Room} {s : State} {m : MethodId} {args : Array Value} {below : List Frame} {meth : Method} {c : Code} {H : Heap} {locs : List Loc} {cells slots : Nat} {Q : State → Prop}
variable {pc : Nat} {ls : Array Slot} {rest st0 : List Value} {D1 D2 : va_G} {K : Nat → ClassId} {ad a : Nat → Nat} {A : Nat → Prop} {s1 s2 z o b L : Nat} {xs : Nat → Int32} {cJ : ClassId}
variable {index maxL n mc ms : Nat} {y : MethodName} {bytes : ByteArray} {ret' : Option FieldType} {hh : List (Nat × Nat × Nat × Nat)} {rm : Room} {As : List Value} {Y Y0 X : va_W}
theorem hq_arg (C0 : hq_C p s m args meth c D1 D2 K z s1 s2 b L xs cJ A) (hS : va_S A s.heap H locs) {i : Int32} {k : Nat} (hi : ¬ i < 0 ∧ i.toNatClampNeg = k) (hk : k < L) (hdg : decode cL_law pc = .ok (.iaload, 1))
    (kk : W p l e R s m args below meth c H locs cells slots Q (F0 m (pc + 1) ls (.int (xs k) :: rest))) : W p l e R s m args below meth c H locs cells slots Q (F0 m pc ls (.int i :: .ref b :: rest)) := by
  obtain ⟨hx, hb, hml, hown, hts, hK1, hJ1, hK2, hJ2, hA, hN, hV, hZ, hX, hbl, hbA⟩ := C0
  obtain ⟨h0, rfl⟩ := hi
  exact va_sld hx hb hX hbl hbA hS (fun h => h.elim h0 (fun q => absurd hk (Nat.not_lt.mpr q))) hdg kk
/-- a method of the class's side throws inside: 1 -/
theorem hq_c1 (C0 : hq_C p s m args meth c D1 D2 K z s1 s2 b L xs cJ A) (hp : hq_W D1 D2 K ad a z o cJ A s.heap H locs) (M : hy_K1 l D1 K ad s1 s2 y (hy_wm y bytes maxL hh) rm As) (g : GoodIn lw_tbl (va_wsS RL index y (hy_wm y bytes maxL hh))) (hrm : rm.cells = 1 ∧ rm.slots = 6)
    (hd : y.cls ≠ "java/lang/invoke/MethodHandle" ∧ y.cls ≠ "java/lang/invoke/VarHandle" ∧ (parseMethodDescriptor y.desc).map (fun d => d.parameters.length) = some n) (hR : rm.frames + 1 ≤ R.frames ∧ 8 + (maxL + 11) + rm.locals ≤ R.locals) (hf : cells + 1 ≤ R.cells ∧ slots + 6 ≤ R.slots) (hsz : ls.size = 9) (hn : As.length = n) (hst0 : st0 = As.reverse ++ rest) (hst : (rest.map fun v => v.category).sum ≤ 8) (hdg : decode cL_law pc = .ok (.invokestatic index, 3))
    (kk : ∀ (H : Heap) (locs : List Loc), hr_H D2 A s.heap (hq_X a z o cJ (fun _ => 0)) H locs → W p l e R s m args below meth c H locs (cells + 1) (slots + 6) Q (F0 m (pc + 3) ls (.int 1 :: rest))) : W p l e R s m args below meth c H locs cells slots Q (F0 m pc ls st0) := by
  subst hst0
  obtain ⟨hx, hb, hml, hown, hts, hK1, hJ1, hK2, hJ2, hA, hN, hV, hZ, hX, hbl, hbA⟩ := C0
  obtain ⟨hP1, hP2, hD, hS⟩ := hp
  have hF : ∀ q, va_A (hh_W K ad hn_v0) H.size q → A q := fun q hq => by
    rcases hq with ⟨k, e', he⟩ | hq
    · exact (hr_Dl hD).2 k (q, e') he
    · exact hA q (Nat.le_trans hS.1 hq)
  refine va_calli (vx_runSW (As := As) (rest := rest) ⟨hx, hb, hml, hown, hts⟩ (M H.size) (vx_cwSW n hts g rfl hrm.1 hrm.2 hd hR) ⟨hx_blind, fun U hU hW => ⟨rfl, congrArg Array.size hU, by rw [hU]; exact hP1, va_K.moved hW.alike hK1, (hr_Dl hD).weaken (fun _ _ _ _ => trivial), hV.warm hW, by rw [hU]; exact ((hZ.kept hS.2.1).moved hW.alike).narrow hF⟩⟩ rfl hn hsz rfl (lv_room hst) hdg ⟨hf.1, hf.2⟩) hS (fun q _ h => hF q h) hF (fun q v1 t H1 locs1 ht hvm hw hB hz1 hk1 hS1 => ?_)
  have hq1 : q = 1 := hw
  subst hq1
  refine kk H1 locs1 ⟨hP2.kept (fun k q hk => hk1 q.1 (hP2 k q hk).lt (fun h => ?_)), hr_Dr hD, hS1⟩
  rcases h with ⟨k2, e2, h2⟩ | h2
  · exact hr_Dx hD h2 hk rfl
  · have := (hP2 k q hk).lt
    omega
/-- it doesn't: 0, and the answer -/
theorem hq_c0 {ans : Int64} (C0 : hq_C p s m args meth c D1 D2 K z s1 s2 b L xs cJ A) (hp : hq_W D1 D2 K ad a z o cJ A s.heap H locs) (M : hy_K0 l D1 K ad o cJ y (hy_wm y bytes maxL hh) rm As ans) (g : GoodIn lw_tbl (va_wsS RL index y (hy_wm y bytes maxL hh))) (hrm : rm.cells = 0 ∧ rm.slots = 0)
    (hd : y.cls ≠ "java/lang/invoke/MethodHandle" ∧ y.cls ≠ "java/lang/invoke/VarHandle" ∧ (parseMethodDescriptor y.desc).map (fun d => d.parameters.length) = some n) (hR : rm.frames + 1 ≤ R.frames ∧ 8 + (maxL + 11) + rm.locals ≤ R.locals) (hf : cells ≤ R.cells ∧ slots ≤ R.slots) (hsz : ls.size = 9) (hn : As.length = n) (hst0 : st0 = As.reverse ++ rest) (hst : (rest.map fun v => v.category).sum ≤ 8) (hdg : decode cL_law pc = .ok (.invokestatic index, 3))
    (kk : ∀ (H : Heap) (locs : List Loc), hr_H D2 A s.heap (hq_X a z o cJ (fun _ => ans)) H locs → W p l e R s m args below meth c H locs cells slots Q (F0 m (pc + 3) ls (.int 0 :: rest))) : W p l e R s m args below meth c H locs cells slots Q (F0 m pc ls st0) := by
  subst hst0
  obtain ⟨hx, hb, hml, hown, hts, hK1, hJ1, hK2, hJ2, hA, hN, hV, hZ, hX, hbl, hbA⟩ := C0
  obtain ⟨hP1, hP2, hD, hS⟩ := hp
  have hD2 := hr_Dr hD
  have hDo : va_D A (hy_W K ad hn_v0 o cJ (fun _ => 0)) := va_D.app (hr_Dl hD) (hr_Dr hD2) (fun i j p q hi hj e => hr_Dx hD hi (hr_at hj) e)
  have hPo : va_P D1 hh_cl (hy_W K ad hn_v0 o cJ (fun _ => 0)) H := va_P.app hP1 (hq_P1 (n := 0) (hr_Pr hP2))
  have hF : ∀ q, va_A (hy_W K ad hn_v0 o cJ (fun _ => 0)) H.size q → A q := fun q hq => by
    rcases hq with ⟨k, e', he⟩ | hq
    · exact hDo.2 k (q, e') he
    · exact hA q (Nat.le_trans hS.1 hq)
  refine va_calli (vx_runSW (As := As) (rest := rest) ⟨hx, hb, hml, hown, hts⟩ (M H.size) (vx_cwSW n hts g rfl hrm.1 hrm.2 hd hR) ⟨hy_blind, fun U hU hW => ⟨rfl, congrArg Array.size hU, by rw [hU]; exact hPo, va_K.moved hW.alike hK1, va_K.moved hW.alike hJ1, hDo.weaken (fun _ _ _ _ => trivial)⟩⟩ rfl hn hsz rfl (lv_room hst) hdg ⟨hf.1, hf.2⟩) hS (fun q _ h => hF q h) hF (fun q v1 t H1 locs1 ht hvm hw hB hz1 hk1 hS1 => ?_)
  have hq1 : q = 0 := hw
  subst hq1
  have hB : va_P D1 hh_cl (hq_R o cJ (fun _ => ans)) t.heap := hB
  rw [ht] at hB
  have hY : va_P D2 hr_cl (hr_Y a z 0 0) H1 := (hr_Pl hP2).kept (fun k q hk => hk1 q.1 (hr_Pl hP2 k q hk).lt (fun h => ?_))
  · refine kk H1 locs1 ⟨va_P.app hY (hq_P1 (n := 0) hB), ⟨fun i j p q hi hj e => ?_, fun k q hk => ?_⟩, hS1⟩
    · have key : ∀ (g : Nat → Int64) (k : Nat) (q : Nat × va_E), (hq_X a z o cJ g)[k]? = some q → ∃ q9, (hq_X a z o cJ (fun _ => 0))[k]? = some q9 ∧ q9.1 = q.1 := by
        intro g k q hk
        match k, hk with
        | 0, hk => cases hk; exact ⟨_, rfl, rfl⟩
        | 1, hk => cases hk; exact ⟨_, rfl, rfl⟩
        | 2, hk => cases hk; exact ⟨_, rfl, rfl⟩
        | 3, hk => cases hk; exact ⟨_, rfl, rfl⟩
        | 4, hk => cases hk; exact ⟨_, rfl, rfl⟩
        | 5, hk => cases hk; exact ⟨_, rfl, rfl⟩
        | 6, hk => cases hk; exact ⟨_, rfl, rfl⟩
        | k + 7, hk => simp [hq_X, hr_Y, hq_R] at hk
      obtain ⟨p9, hp9, ep⟩ := key _ i p hi
      obtain ⟨q9, hq9, eq⟩ := key _ j q hj
      exact hD2.1 i j p9 q9 hp9 hq9 (by rw [ep, eq]; exact e)
    · rcases List.mem_append.mp (List.mem_of_getElem? hk) with h | h
      · obtain ⟨i, hi⟩ := List.getElem?_of_mem h
        exact (hr_Dl hD2).2 i q hi
      · rcases List.mem_singleton.mp h with rfl
        exact (hr_Dr hD2).2 0 (o, .inl (cJ, 1, .inr (.inl (fun _ => 0)))) rfl
  · rcases h with ⟨k2, e2, h2⟩ | h2
    · rcases List.mem_append.mp (List.mem_of_getElem? h2) with h | h
      · obtain ⟨i, hi⟩ := List.getElem?_of_mem h
        exact hr_Dx hD hi (show (hr_Y a z 0 0 ++ hq_R o cJ (fun _ => 0))[k]? = some q by rw [List.getElem?_append_left (List.getElem?_eq_some_iff.mp hk).1]; exact hk) rfl
      · have := List.mem_singleton.mp h
        have h9 : q.1 = o := congrArg Prod.fst this
        exact hr_Dx (i := k) (j := 0) (q := (o, .inl (cJ, 1, .inr (.inl (fun _ => 0))))) hD2 hk rfl h9
    · have := (hr_Pl hP2 k q hk).lt
      omega
/-- the reference is asked -/
theorem hq_ri {S : Type} {φ : Int32 → S → Prop} {Wf : S → va_W} {q0 : Nat} {fs : List Value} {b0 : Nat} (C0 : hq_C p s m args meth c D1 D2 K z s1 s2 b L xs cJ A) (hp : hr_H D2 A s.heap Y0 H locs) (X : va_W) (M : hr_Ki l D2 z y (hr_wm y bytes maxL ret') rm (.ref b0 :: As) Y mc ms φ Wf) (hY : Y0 = Y ++ X) (he : Y[q0]? = some (b0, .inr (2, fs))) (g : GoodIn lw_tbl (wsV RL index RX12 y (hr_wm y bytes maxL ret'))) (hrm : rm.cells = mc ∧ rm.slots = ms)
    (hd : y.cls = RX12 ∧ y.cls ≠ "java/lang/invoke/MethodHandle" ∧ y.cls ≠ "java/lang/invoke/VarHandle" ∧ (parseMethodDescriptor y.desc).map (fun d => d.parameters.length) = some n) (hR : rm.frames + 1 ≤ R.frames ∧ 8 + (maxL + 11) + rm.locals ≤ R.locals) (hf : cells + mc ≤ R.cells ∧ slots + ms ≤ R.slots) (hsz : ls.size = 9) (hn : As.length = n) (hst0 : st0 = As.reverse ++ .ref b0 :: rest) (hst : (rest.map fun v => v.category).sum ≤ 8) (hdg : decode cL_law pc = .ok (.invokevirtual index, 3))
    (kk : ∀ (q : Int32) (u : S) (H : Heap) (locs : List Loc), φ q u → hr_H D2 A s.heap (Wf u ++ X) H locs → W p l e R s m args below meth c H locs (cells + mc) (slots + ms) Q (F0 m (pc + 3) ls (.int q :: rest))) : W p l e R s m args below meth c H locs cells slots Q (F0 m pc ls st0) := by
  subst hst0
  subst hY
  obtain ⟨hx, hb, hml, hown, hts, hK1, hJ1, hK, hJ2, hA, hN, hV, hZ, hX, hbl, hbA⟩ := C0
  have hF := hr_free hp hA
  refine va_calli (va_runV (As := As) (rest := rest) ⟨hx, hb, hml, hown, hts⟩ (M H.size) (cwV n hts g rfl hrm.1 hrm.2 hd hR) ⟨hr_blind, va_recv (ci := 2) (q := (RX12, TX12, 4)) hK (hr_Pl hp.1) rfl he, fun U hU hW => ⟨rfl, congrArg Array.size hU, by rw [hU]; exact hr_Pl hp.1, va_K.moved hW.alike hK, (hr_Dl hp.2.1).weaken (fun _ _ _ _ => trivial), hr_sub hp hA hN hU hW⟩⟩ rfl hn hsz rfl (lv_room hst) hdg ⟨hf.1, hf.2⟩) hp.2.2 (fun q _ h => hF q h) hF (fun q u t H1 locs1 ht hvm hw hB hz1 hk1 hS1 => ?_)
  obtain ⟨hP1, hD1⟩ := hB
  rw [ht] at hP1
  exact kk q u H1 locs1 hw (hr_back hp hA hP1 hD1 hk1 hS1)
/-- the class is asked, with no room used -/
theorem hq_xi {φ : Int32 → hh_M → Prop} (C0 : hq_C p s m args meth c D1 D2 K z s1 s2 b L xs cJ A) (hp : hq_W D1 D2 K ad a z o cJ A s.heap H locs) (M : hh_Ki l D1 K ad y (hh_wm y bytes maxL ret') rm (.ref (ad 0) :: As) hn_v0 φ) (g : GoodIn lw_tbl (wsV RL index RX7 y (hh_wm y bytes maxL ret'))) (hrm : rm.cells = 0 ∧ rm.slots = 0)
    (hd : y.cls = RX7 ∧ y.cls ≠ "java/lang/invoke/MethodHandle" ∧ y.cls ≠ "java/lang/invoke/VarHandle" ∧ (parseMethodDescriptor y.desc).map (fun d => d.parameters.length) = some n) (hR : rm.frames + 1 ≤ R.frames ∧ 8 + (maxL + 11) + rm.locals ≤ R.locals) (hf : cells ≤ R.cells ∧ slots ≤ R.slots) (hsz : ls.size = 9) (hn : As.length = n) (hst0 : st0 = As.reverse ++ .ref (ad 0) :: rest) (hst : (rest.map fun v => v.category).sum ≤ 8) (hdg : decode cL_law pc = .ok (.invokevirtual index, 3))
    (kk : ∀ (q : Int32) (v1 : hh_M) (H : Heap) (locs : List Loc), φ q v1 → hr_H D2 A s.heap (hq_X a z o cJ (fun _ => 0)) H locs → W p l e R s m args below meth c H locs cells slots Q (F0 m (pc + 3) ls (.int q :: rest))) : W p l e R s m args below meth c H locs cells slots Q (F0 m pc ls st0) := by
  subst hst0
  obtain ⟨hx, hb, hml, hown, hts, hK1, hJ1, hK2, hJ2, hA, hN, hV, hZ, hX, hbl, hbA⟩ := C0
  obtain ⟨hP1, hP2, hD, hS⟩ := hp
  have hF : ∀ q, va_A (hh_W K ad hn_v0) H.size q → A q := fun q hq => by
    rcases hq with ⟨k, e', he⟩ | hq
    · exact (hr_Dl hD).2 k (q, e') he
    · exact hA q (Nat.le_trans hS.1 hq)
  refine va_calli (va_runV (As := As) (rest := rest) ⟨hx, hb, hml, hown, hts⟩ (M H.size) (cwV n hts g rfl hrm.1 hrm.2 hd hR) ⟨hh_blind, va_recv (ci := 7) (q0 := 0) (q := (RX7, TX7, 4)) hK1 hP1 rfl (by rw [hh_W_at (by decide), hh_E_0]), fun U hU hW => ⟨rfl, congrArg Array.size hU, by rw [hU]; exact hP1, va_K.moved hW.alike hK1, (hr_Dl hD).weaken (fun _ _ _ _ => trivial)⟩⟩ rfl hn hsz rfl (lv_room hst) hdg ⟨hf.1, hf.2⟩) hS (fun q _ h => hF q h) hF (fun q v1 t H1 locs1 ht hvm hw hB hz1 hk1 hS1 => ?_)
  refine kk q v1 H1 locs1 hw ⟨hP2.kept (fun k q hk => hk1 q.1 (hP2 k q hk).lt (fun h => ?_)), hr_Dr hD, hS1⟩
  rcases h with ⟨k2, e2, h2⟩ | h2
  · exact hr_Dx hD h2 hk rfl
  · have := (hP2 k q hk).lt
    omega
/-- the reference is asked -/
theorem hq_rl {S : Type} {φ : Int64 → S → Prop} {Wf : S → va_W} {q0 : Nat} {fs : List Value} {b0 : Nat} (C0 : hq_C p s m args meth c D1 D2 K z s1 s2 b L xs cJ A) (hp : hr_H D2 A s.heap Y0 H locs) (X : va_W) (M : hr_Kl l D2 z y (hr_wm y bytes maxL ret') rm (.ref b0 :: As) Y mc ms φ Wf) (hY : Y0 = Y ++ X) (he : Y[q0]? = some (b0, .inr (2, fs))) (g : GoodIn lw_tbl (wsV RL index RX12 y (hr_wm y bytes maxL ret'))) (hrm : rm.cells = mc ∧ rm.slots = ms)
    (hd : y.cls = RX12 ∧ y.cls ≠ "java/lang/invoke/MethodHandle" ∧ y.cls ≠ "java/lang/invoke/VarHandle" ∧ (parseMethodDescriptor y.desc).map (fun d => d.parameters.length) = some n) (hR : rm.frames + 1 ≤ R.frames ∧ 8 + (maxL + 11) + rm.locals ≤ R.locals) (hf : cells + mc ≤ R.cells ∧ slots + ms ≤ R.slots) (hsz : ls.size = 9) (hn : As.length = n) (hst0 : st0 = As.reverse ++ .ref b0 :: rest) (hst : (rest.map fun v => v.category).sum ≤ 8) (hdg : decode cL_law pc = .ok (.invokevirtual index, 3))
    (kk : ∀ (q : Int64) (u : S) (H : Heap) (locs : List Loc), φ q u → hr_H D2 A s.heap (Wf u ++ X) H locs → W p l e R s m args below meth c H locs (cells + mc) (slots + ms) Q (F0 m (pc + 3) ls (.long q :: rest))) : W p l e R s m args below meth c H locs cells slots Q (F0 m pc ls st0) := by
  subst hst0
  subst hY
  obtain ⟨hx, hb, hml, hown, hts, hK1, hJ1, hK, hJ2, hA, hN, hV, hZ, hX, hbl, hbA⟩ := C0
  have hF := hr_free hp hA
  refine va_calll (va_runV (As := As) (rest := rest) ⟨hx, hb, hml, hown, hts⟩ (M H.size) (cwV n hts g rfl hrm.1 hrm.2 hd hR) ⟨hr_blind, va_recv (ci := 2) (q := (RX12, TX12, 4)) hK (hr_Pl hp.1) rfl he, fun U hU hW => ⟨rfl, congrArg Array.size hU, by rw [hU]; exact hr_Pl hp.1, va_K.moved hW.alike hK, (hr_Dl hp.2.1).weaken (fun _ _ _ _ => trivial), hr_sub hp hA hN hU hW⟩⟩ rfl hn hsz rfl (lv_room hst) hdg ⟨hf.1, hf.2⟩) hp.2.2 (fun q _ h => hF q h) hF (fun q u t H1 locs1 ht hvm hw hB hz1 hk1 hS1 => ?_)
  obtain ⟨hP1, hD1⟩ := hB
  rw [ht] at hP1
  exact kk q u H1 locs1 hw (hr_back hp hA hP1 hD1 hk1 hS1)
/-- the class is asked, with no room used -/
theorem hq_xl {φ : Int64 → hh_M → Prop} (C0 : hq_C p s m args meth c D1 D2 K z s1 s2 b L xs cJ A) (hp : hq_W D1 D2 K ad a z o cJ A s.heap H locs) (M : hh_Kl l D1 K ad y (hh_wm y bytes maxL ret') rm (.ref (ad 0) :: As) hn_v0 φ) (g : GoodIn lw_tbl (wsV RL index RX7 y (hh_wm y bytes maxL ret'))) (hrm : rm.cells = 0 ∧ rm.slots = 0)
    (hd : y.cls = RX7 ∧ y.cls ≠ "java/lang/invoke/MethodHandle" ∧ y.cls ≠ "java/lang/invoke/VarHandle" ∧ (parseMethodDescriptor y.desc).map (fun d => d.parameters.length) = some n) (hR : rm.frames + 1 ≤ R.frames ∧ 8 + (maxL + 11) + rm.locals ≤ R.locals) (hf : cells ≤ R.cells ∧ slots ≤ R.slots) (hsz : ls.size = 9) (hn : As.length = n) (hst0 : st0 = As.reverse ++ .ref (ad 0) :: rest) (hst : (rest.map fun v => v.category).sum ≤ 8) (hdg : decode cL_law pc = .ok (.invokevirtual index, 3))
    (kk : ∀ (q : Int64) (v1 : hh_M) (H : Heap) (locs : List Loc), φ q v1 → hr_H D2 A s.heap (hq_X a z o cJ (fun _ => 0)) H locs → W p l e R s m args below meth c H locs cells slots Q (F0 m (pc + 3) ls (.long q :: rest))) : W p l e R s m args below meth c H locs cells slots Q (F0 m pc ls st0) := by
  subst hst0
  obtain ⟨hx, hb, hml, hown, hts, hK1, hJ1, hK2, hJ2, hA, hN, hV, hZ, hX, hbl, hbA⟩ := C0
  obtain ⟨hP1, hP2, hD, hS⟩ := hp
  have hF : ∀ q, va_A (hh_W K ad hn_v0) H.size q → A q := fun q hq => by
    rcases hq with ⟨k, e', he⟩ | hq
    · exact (hr_Dl hD).2 k (q, e') he
    · exact hA q (Nat.le_trans hS.1 hq)
  refine va_calll (va_runV (As := As) (rest := rest) ⟨hx, hb, hml, hown, hts⟩ (M H.size) (cwV n hts g rfl hrm.1 hrm.2 hd hR) ⟨hh_blind, va_recv (ci := 7) (q0 := 0) (q := (RX7, TX7, 4)) hK1 hP1 rfl (by rw [hh_W_at (by decide), hh_E_0]), fun U hU hW => ⟨rfl, congrArg Array.size hU, by rw [hU]; exact hP1, va_K.moved hW.alike hK1, (hr_Dl hD).weaken (fun _ _ _ _ => trivial)⟩⟩ rfl hn hsz rfl (lv_room hst) hdg ⟨hf.1, hf.2⟩) hS (fun q _ h => hF q h) hF (fun q v1 t H1 locs1 ht hvm hw hB hz1 hk1 hS1 => ?_)
  refine kk q v1 H1 locs1 hw ⟨hP2.kept (fun k q hk => hk1 q.1 (hP2 k q hk).lt (fun h => ?_)), hr_Dr hD, hS1⟩
  rcases h with ⟨k2, e2, h2⟩ | h2
  · exact hr_Dx hD h2 hk rfl
  · have := (hP2 k q hk).lt
    omega
/-- the reference is asked -/
theorem hq_rd {S : Type} {φ : UInt64 → S → Prop} {Wf : S → va_W} {q0 : Nat} {fs : List Value} {b0 : Nat} (C0 : hq_C p s m args meth c D1 D2 K z s1 s2 b L xs cJ A) (hp : hr_H D2 A s.heap Y0 H locs) (X : va_W) (M : hr_Kd l D2 z y (hr_wm y bytes maxL ret') rm (.ref b0 :: As) Y mc ms φ Wf) (hY : Y0 = Y ++ X) (he : Y[q0]? = some (b0, .inr (2, fs))) (g : GoodIn lw_tbl (wsV RL index RX12 y (hr_wm y bytes maxL ret'))) (hrm : rm.cells = mc ∧ rm.slots = ms)
    (hd : y.cls = RX12 ∧ y.cls ≠ "java/lang/invoke/MethodHandle" ∧ y.cls ≠ "java/lang/invoke/VarHandle" ∧ (parseMethodDescriptor y.desc).map (fun d => d.parameters.length) = some n) (hR : rm.frames + 1 ≤ R.frames ∧ 8 + (maxL + 11) + rm.locals ≤ R.locals) (hf : cells + mc ≤ R.cells ∧ slots + ms ≤ R.slots) (hsz : ls.size = 9) (hn : As.length = n) (hst0 : st0 = As.reverse ++ .ref b0 :: rest) (hst : (rest.map fun v => v.category).sum ≤ 8) (hdg : decode cL_law pc = .ok (.invokevirtual index, 3))
    (kk : ∀ (q : UInt64) (u : S) (H : Heap) (locs : List Loc), φ q u → hr_H D2 A s.heap (Wf u ++ X) H locs → W p l e R s m args below meth c H locs (cells + mc) (slots + ms) Q (F0 m (pc + 3) ls (.double q :: rest))) : W p l e R s m args below meth c H locs cells slots Q (F0 m pc ls st0) := by
  subst hst0
  subst hY
  obtain ⟨hx, hb, hml, hown, hts, hK1, hJ1, hK, hJ2, hA, hN, hV, hZ, hX, hbl, hbA⟩ := C0
  have hF := hr_free hp hA
  refine va_calld (va_runV (As := As) (rest := rest) ⟨hx, hb, hml, hown, hts⟩ (M H.size) (cwV n hts g rfl hrm.1 hrm.2 hd hR) ⟨hr_blind, va_recv (ci := 2) (q := (RX12, TX12, 4)) hK (hr_Pl hp.1) rfl he, fun U hU hW => ⟨rfl, congrArg Array.size hU, by rw [hU]; exact hr_Pl hp.1, va_K.moved hW.alike hK, (hr_Dl hp.2.1).weaken (fun _ _ _ _ => trivial), hr_sub hp hA hN hU hW⟩⟩ rfl hn hsz rfl (lv_room hst) hdg ⟨hf.1, hf.2⟩) hp.2.2 (fun q _ h => hF q h) hF (fun q u t H1 locs1 ht hvm hw hB hz1 hk1 hS1 => ?_)
  obtain ⟨hP1, hD1⟩ := hB
  rw [ht] at hP1
  exact kk q u H1 locs1 hw (hr_back hp hA hP1 hD1 hk1 hS1)
/-- the class is asked, with no room used -/
theorem hq_xd {φ : UInt64 → hh_M → Prop} (C0 : hq_C p s m args meth c D1 D2 K z s1 s2 b L xs cJ A) (hp : hq_W D1 D2 K ad a z o cJ A s.heap H locs) (M : hh_Kd l D1 K ad y (hh_wm y bytes maxL ret') rm (.ref (ad 0) :: As) hn_v0 φ) (g : GoodIn lw_tbl (wsV RL index RX7 y (hh_wm y bytes maxL ret'))) (hrm : rm.cells = 0 ∧ rm.slots = 0)
    (hd : y.cls = RX7 ∧ y.cls ≠ "java/lang/invoke/MethodHandle" ∧ y.cls ≠ "java/lang/invoke/VarHandle" ∧ (parseMethodDescriptor y.desc).map (fun d => d.parameters.length) = some n) (hR : rm.frames + 1 ≤ R.frames ∧ 8 + (maxL + 11) + rm.locals ≤ R.locals) (hf : cells ≤ R.cells ∧ slots ≤ R.slots) (hsz : ls.size = 9) (hn : As.length = n) (hst0 : st0 = As.reverse ++ .ref (ad 0) :: rest) (hst : (rest.map fun v => v.category).sum ≤ 8) (hdg : decode cL_law pc = .ok (.invokevirtual index, 3))
    (kk : ∀ (q : UInt64) (v1 : hh_M) (H : Heap) (locs : List Loc), φ q v1 → hr_H D2 A s.heap (hq_X a z o cJ (fun _ => 0)) H locs → W p l e R s m args below meth c H locs cells slots Q (F0 m (pc + 3) ls (.double q :: rest))) : W p l e R s m args below meth c H locs cells slots Q (F0 m pc ls st0) := by
  subst hst0
  obtain ⟨hx, hb, hml, hown, hts, hK1, hJ1, hK2, hJ2, hA, hN, hV, hZ, hX, hbl, hbA⟩ := C0
  obtain ⟨hP1, hP2, hD, hS⟩ := hp
  have hF : ∀ q, va_A (hh_W K ad hn_v0) H.size q → A q := fun q hq => by
    rcases hq with ⟨k, e', he⟩ | hq
    · exact (hr_Dl hD).2 k (q, e') he
    · exact hA q (Nat.le_trans hS.1 hq)
  refine va_calld (va_runV (As := As) (rest := rest) ⟨hx, hb, hml, hown, hts⟩ (M H.size) (cwV n hts g rfl hrm.1 hrm.2 hd hR) ⟨hh_blind, va_recv (ci := 7) (q0 := 0) (q := (RX7, TX7, 4)) hK1 hP1 rfl (by rw [hh_W_at (by decide), hh_E_0]), fun U hU hW => ⟨rfl, congrArg Array.size hU, by rw [hU]; exact hP1, va_K.moved hW.alike hK1, (hr_Dl hD).weaken (fun _ _ _ _ => trivial)⟩⟩ rfl hn hsz rfl (lv_room hst) hdg ⟨hf.1, hf.2⟩) hS (fun q _ h => hF q h) hF (fun q v1 t H1 locs1 ht hvm hw hB hz1 hk1 hS1 => ?_)
  refine kk q v1 H1 locs1 hw ⟨hP2.kept (fun k q hk => hk1 q.1 (hP2 k q hk).lt (fun h => ?_)), hr_Dr hD, hS1⟩
  rcases h with ⟨k2, e2, h2⟩ | h2
  · exact hr_Dx hD h2 hk rfl
  · have := (hP2 k q hk).lt
    omega
/-- did the reference throw? -/
theorem hq_th {b0 : Nat} {th : Int32} {v1 v2 v3 : Value} (C0 : hq_C p s m args meth c D1 D2 K z s1 s2 b L xs cJ A) (X : va_W) (hp : hr_H D2 A s.heap ([(b0, .inr (2, [.int th, v1, v2, v3]))] ++ X) H locs) (hR : 1 ≤ R.frames ∧ 20 ≤ R.locals) (hf : cells ≤ R.cells ∧ slots ≤ R.slots) (hsz : ls.size = 9) (hst : (rest.map fun v => v.category).sum ≤ 8) (hdg : decode cL_law pc = .ok (.invokevirtual 90, 3))
    (kk : ∀ (H : Heap) (locs : List Loc), hr_H D2 A s.heap ([(b0, .inr (2, [.int th, v1, v2, v3]))] ++ X) H locs → W p l e R s m args below meth c H locs cells slots Q (F0 m (pc + 3) ls (.int th :: rest))) : W p l e R s m args below meth c H locs cells slots Q (F0 m pc ls (.ref b0 :: rest)) :=
  hq_ri (q0 := 0) (As := []) (rest := rest) (n := 0) C0 hp X (hr_thrownG l D2 z b0 th v1 v2 v3) rfl rfl (hq_gV hq_10 hq_11 hq_12 hw_141) ⟨rfl, rfl⟩ (by decide +kernel) ⟨hR.1, hR.2⟩ ⟨hf.1, hf.2⟩ hsz rfl rfl hst hdg (fun q u H locs hq hp => by
    have hq : q = th := hq
    subst hq
    exact kk H locs hp)
theorem hq_ll {g : Nat → Int64} (C0 : hq_C p s m args meth c D1 D2 K z s1 s2 b L xs cJ A) (hp : hr_H D2 A s.heap (Y ++ hq_R o cJ g) H locs) (hdg : decode cL_law pc = .ok (.laload, 1))
    (kk : W p l e R s m args below meth c H locs cells slots Q (F0 m (pc + 1) ls (.long (g 0) :: rest))) : W p l e R s m args below meth c H locs cells slots Q (F0 m pc ls (.int 0 :: .ref o :: rest)) := by
  obtain ⟨hx, hb, hml, hown, hts, hK1, hJ1, hK, hJ2, hA, hN, hV, hZ, hX, hbl, hbA⟩ := C0
  exact va_lald (D := D2) (cl := hr_cl) (tys := [(cJ, .long)]) (ws := hq_R o cJ g) (f := g) hx hb hJ2 (hr_Pr hp.1) 0 0 rfl rfl (by unfold vp_in; decide) hdg kk
theorem hq_lcmp {x w : Int64} (C0 : hq_C p s m args meth c D1 D2 K z s1 s2 b L xs cJ A) (he : x = w) (hdg : decode cL_law pc = .ok (.lcmp, 1))
    (kk : W p l e R s m args below meth c H locs cells slots Q (F0 m (pc + 1) ls (.int 0 :: rest))) : W p l e R s m args below meth c H locs cells slots Q (F0 m pc ls (.long x :: .long w :: rest)) := by
  obtain ⟨hexec, hb, hml, hown, hts, hK1, hJ1, hK, hJ2, hA, hN, hV, hZ, hX, hbl, hbA⟩ := C0
  subst he
  intro T hT X
  obtain ⟨t, a, b⟩ := kk T hT X
  refine ⟨t, ?_, b⟩
  jvm_step X.here [X.here.top, hexec, hb, hdg]
  simpa using a
end HQ
