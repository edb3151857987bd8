/-! 10.leaves: laid by program (wip/gen/mk10.py) -/
def hf_X1_isIdle (v : hh_M) (r : Nat) (i : Nat) : Int32 := (if (v (hh_hI r i) 4) = 0 then 0 else (if (v (hh_hI r i) 6) = (-1) then 1 else 0))
set_option maxHeartbeats 4000000 in
set_option maxRecDepth 100000 in
theorem hk_X1_isIdle (l : Launch) (D : va_G) (K : Nat → ClassId) (ad : Nat → Nat) {nm : Nat} {nh nc : Nat → Nat} {v : hh_M} (hT : hh_T nm nh nc v) (r : Nat) (i : Nat) (hr : r < 2) (hi : i < 8) : hh_Ki l D K ad yX1_isIdle (hh_wm yX1_isIdle cX1_isIdle 1 (some .boolean)) { frames := 0, cells := 0, slots := 0, locals := 0 } [.ref (ad (hh_hI r i))] v (fun (q : Int32) (v1 : hh_M) => q = hf_X1_isIdle v r i ∧ v1 = v) := by
  refine hh_Ki_of (by decide) (Nat.le_of_ble_eq_true rfl) ?_
  intro p e s m args below meth c ls A C0 hp hl
  obtain ⟨hx, hb, hr9, hml, hown, hts, hK, hlk, hA⟩ := id C0
  have hnm := hT.1
  have hnh := hT.2.1
  have hnc := hT.2.2.1
  have hbHr := hnh r
  have hbCr := hnc r
  have hl : lv_has ls 1 [(0, .ref (ad (hh_hI r i)))] := hl
  refine lv_aload_n hx hb dX1_isIdle_0 rfl (lv_at hl 0 rfl) ?_
  refine hh_get C0 hp (C := RX1) (T := TX1) (N := 13) (ci := 1) (hh_b_h hr hi) (hh_E_h r hi) rfl hh_uX1 4 (by decide) hm_39 rfl rfl dX1_isIdle_1 ?_
  refine lv_if_eq (tgt := 19) hx hb dX1_isIdle_4 (by decide) (fun c_4 => ?_) (fun c_4 => ?_)
  · refine lv_iconst (v := 0) hx hb dX1_isIdle_19 (by decide) ?_
    exact hh_zret C0 hp dX1_isIdle_20 (Or.inl rfl) ⟨(by unfold hf_X1_isIdle; rw [if_pos c_4]), rfl⟩
  · refine lv_aload_n hx hb dX1_isIdle_7 rfl (lv_at hl 0 rfl) ?_
    refine hh_get C0 hp (C := RX1) (T := TX1) (N := 13) (ci := 1) (hh_b_h hr hi) (hh_E_h r hi) rfl hh_uX1 6 (by decide) hm_35 rfl rfl dX1_isIdle_8 ?_
    refine lv_iconst (v := (-1)) hx hb dX1_isIdle_11 (by decide) ?_
    refine lv_icmp_ne (tgt := 19) hx hb dX1_isIdle_12 (by decide) (fun c_12 => ?_) (fun c_12 => ?_)
    · refine lv_iconst (v := 0) hx hb dX1_isIdle_19 (by decide) ?_
      exact hh_zret C0 hp dX1_isIdle_20 (Or.inl rfl) ⟨(by unfold hf_X1_isIdle; rw [if_neg c_4, if_neg c_12]), rfl⟩
    · refine lv_iconst (v := 1) hx hb dX1_isIdle_15 (by decide) ?_
      refine lv_goto (tgt := 20) hx hb dX1_isIdle_16 (by decide) ?_
      exact hh_zret C0 hp dX1_isIdle_20 (Or.inr rfl) ⟨(by unfold hf_X1_isIdle; rw [if_neg c_4, if_pos c_12]), rfl⟩
def hf_X1_fact (v : hh_M) (r : Nat) (i : Nat) (what : Int32) : Int32 := (if what = 0 then (v (hh_hI r i) 1) else (if what = 1 then (v (hh_hI r i) 2) else (if what = 2 then (if (v (hh_hI r i) 4) = 0 then 0 else 1) else (if what = 3 then (v (hh_hI r i) 5) else (if what = 4 then (v (hh_hI r i) 3) else (if what = 5 then (v (hh_hI r i) 7) else (if what = 6 then (v (hh_hI r i) 8) else (if what = 7 then (v (hh_hI r i) 6) else (if what = 8 then (v (hh_hI r i) 10) else (if what = 9 then (v (hh_hI r i) 11) else (v (hh_hI r i) 12)))))))))))
set_option maxHeartbeats 4000000 in
set_option maxRecDepth 100000 in
theorem hk_X1_fact (l : Launch) (D : va_G) (K : Nat → ClassId) (ad : Nat → Nat) {nm : Nat} {nh nc : Nat → Nat} {v : hh_M} (hT : hh_T nm nh nc v) (r : Nat) (i : Nat) (what : Int32) (hr : r < 2) (hi : i < 8) : hh_Ki l D K ad yX1_fact (hh_wm yX1_fact cX1_fact 2 (some .int)) { frames := 0, cells := 0, slots := 0, locals := 0 } [.ref (ad (hh_hI r i)), .int what] v (fun (q : Int32) (v1 : hh_M) => q = hf_X1_fact v r i what ∧ v1 = v) := by
  refine hh_Ki_of (by decide) (Nat.le_of_ble_eq_true rfl) ?_
  intro p e s m args below meth c ls A C0 hp hl
  obtain ⟨hx, hb, hr9, hml, hown, hts, hK, hlk, hA⟩ := id C0
  have hnm := hT.1
  have hnh := hT.2.1
  have hnc := hT.2.2.1
  have hbHr := hnh r
  have hbCr := hnc r
  have hl : lv_has ls 2 [(0, .ref (ad (hh_hI r i))), (1, .int what)] := hl
  refine lv_iload_n hx hb dX1_fact_0 rfl (lv_at hl 1 rfl) ?_
  by_cases c_1_0 : what = 0
  · refine lv_tableIn (off := 55) (tgt := 56) hx hb dX1_fact_1 (by rw [c_1_0]; decide) (by rw [c_1_0]; decide) (by rw [c_1_0]; rfl) (by decide) ?_
    refine lv_aload_n hx hb dX1_fact_56 rfl (lv_at hl 0 rfl) ?_
    refine hh_get C0 hp (C := RX1) (T := TX1) (N := 13) (ci := 1) (hh_b_h hr hi) (hh_E_h r hi) rfl hh_uX1 1 (by decide) hm_41 rfl rfl dX1_fact_57 ?_
    exact hh_iret C0 hp dX1_fact_60 ⟨(by unfold hf_X1_fact; rw [if_pos c_1_0]), rfl⟩
  by_cases c_1_1 : what = 1
  · refine lv_tableIn (off := 60) (tgt := 61) hx hb dX1_fact_1 (by rw [c_1_1]; decide) (by rw [c_1_1]; decide) (by rw [c_1_1]; rfl) (by decide) ?_
    refine lv_aload_n hx hb dX1_fact_61 rfl (lv_at hl 0 rfl) ?_
    refine hh_get C0 hp (C := RX1) (T := TX1) (N := 13) (ci := 1) (hh_b_h hr hi) (hh_E_h r hi) rfl hh_uX1 2 (by decide) hm_42 rfl rfl dX1_fact_62 ?_
    exact hh_iret C0 hp dX1_fact_65 ⟨(by unfold hf_X1_fact; rw [if_neg c_1_0, if_pos c_1_1]), rfl⟩
  by_cases c_1_2 : what = 2
  · refine lv_tableIn (off := 65) (tgt := 66) hx hb dX1_fact_1 (by rw [c_1_2]; decide) (by rw [c_1_2]; decide) (by rw [c_1_2]; rfl) (by decide) ?_
    refine lv_aload_n hx hb dX1_fact_66 rfl (lv_at hl 0 rfl) ?_
    refine hh_get C0 hp (C := RX1) (T := TX1) (N := 13) (ci := 1) (hh_b_h hr hi) (hh_E_h r hi) rfl hh_uX1 4 (by decide) hm_39 rfl rfl dX1_fact_67 ?_
    refine lv_if_eq (tgt := 77) hx hb dX1_fact_70 (by decide) (fun c_70 => ?_) (fun c_70 => ?_)
    · refine lv_iconst (v := 0) hx hb dX1_fact_77 (by decide) ?_
      exact hh_iret C0 hp dX1_fact_78 ⟨(by unfold hf_X1_fact; rw [if_neg c_1_0, if_neg c_1_1, if_pos c_1_2, if_pos c_70]), rfl⟩
    · refine lv_iconst (v := 1) hx hb dX1_fact_73 (by decide) ?_
      refine lv_goto (tgt := 78) hx hb dX1_fact_74 (by decide) ?_
      exact hh_iret C0 hp dX1_fact_78 ⟨(by unfold hf_X1_fact; rw [if_neg c_1_0, if_neg c_1_1, if_pos c_1_2, if_neg c_70]), rfl⟩
  by_cases c_1_3 : what = 3
  · refine lv_tableIn (off := 78) (tgt := 79) hx hb dX1_fact_1 (by rw [c_1_3]; decide) (by rw [c_1_3]; decide) (by rw [c_1_3]; rfl) (by decide) ?_
    refine lv_aload_n hx hb dX1_fact_79 rfl (lv_at hl 0 rfl) ?_
    refine hh_get C0 hp (C := RX1) (T := TX1) (N := 13) (ci := 1) (hh_b_h hr hi) (hh_E_h r hi) rfl hh_uX1 5 (by decide) hm_34 rfl rfl dX1_fact_80 ?_
    exact hh_iret C0 hp dX1_fact_83 ⟨(by unfold hf_X1_fact; rw [if_neg c_1_0, if_neg c_1_1, if_neg c_1_2, if_pos c_1_3]), rfl⟩
  by_cases c_1_4 : what = 4
  · refine lv_tableIn (off := 83) (tgt := 84) hx hb dX1_fact_1 (by rw [c_1_4]; decide) (by rw [c_1_4]; decide) (by rw [c_1_4]; rfl) (by decide) ?_
    refine lv_aload_n hx hb dX1_fact_84 rfl (lv_at hl 0 rfl) ?_
    refine hh_get C0 hp (C := RX1) (T := TX1) (N := 13) (ci := 1) (hh_b_h hr hi) (hh_E_h r hi) rfl hh_uX1 3 (by decide) hm_48 rfl rfl dX1_fact_85 ?_
    exact hh_iret C0 hp dX1_fact_88 ⟨(by unfold hf_X1_fact; rw [if_neg c_1_0, if_neg c_1_1, if_neg c_1_2, if_neg c_1_3, if_pos c_1_4]), rfl⟩
  by_cases c_1_5 : what = 5
  · refine lv_tableIn (off := 88) (tgt := 89) hx hb dX1_fact_1 (by rw [c_1_5]; decide) (by rw [c_1_5]; decide) (by rw [c_1_5]; rfl) (by decide) ?_
    refine lv_aload_n hx hb dX1_fact_89 rfl (lv_at hl 0 rfl) ?_
    refine hh_get C0 hp (C := RX1) (T := TX1) (N := 13) (ci := 1) (hh_b_h hr hi) (hh_E_h r hi) rfl hh_uX1 7 (by decide) hm_36 rfl rfl dX1_fact_90 ?_
    exact hh_iret C0 hp dX1_fact_93 ⟨(by unfold hf_X1_fact; rw [if_neg c_1_0, if_neg c_1_1, if_neg c_1_2, if_neg c_1_3, if_neg c_1_4, if_pos c_1_5]), rfl⟩
  by_cases c_1_6 : what = 6
  · refine lv_tableIn (off := 93) (tgt := 94) hx hb dX1_fact_1 (by rw [c_1_6]; decide) (by rw [c_1_6]; decide) (by rw [c_1_6]; rfl) (by decide) ?_
    refine lv_aload_n hx hb dX1_fact_94 rfl (lv_at hl 0 rfl) ?_
    refine hh_get C0 hp (C := RX1) (T := TX1) (N := 13) (ci := 1) (hh_b_h hr hi) (hh_E_h r hi) rfl hh_uX1 8 (by decide) hm_37 rfl rfl dX1_fact_95 ?_
    exact hh_iret C0 hp dX1_fact_98 ⟨(by unfold hf_X1_fact; rw [if_neg c_1_0, if_neg c_1_1, if_neg c_1_2, if_neg c_1_3, if_neg c_1_4, if_neg c_1_5, if_pos c_1_6]), rfl⟩
  by_cases c_1_7 : what = 7
  · refine lv_tableIn (off := 98) (tgt := 99) hx hb dX1_fact_1 (by rw [c_1_7]; decide) (by rw [c_1_7]; decide) (by rw [c_1_7]; rfl) (by decide) ?_
    refine lv_aload_n hx hb dX1_fact_99 rfl (lv_at hl 0 rfl) ?_
    refine hh_get C0 hp (C := RX1) (T := TX1) (N := 13) (ci := 1) (hh_b_h hr hi) (hh_E_h r hi) rfl hh_uX1 6 (by decide) hm_35 rfl rfl dX1_fact_100 ?_
    exact hh_iret C0 hp dX1_fact_103 ⟨(by unfold hf_X1_fact; rw [if_neg c_1_0, if_neg c_1_1, if_neg c_1_2, if_neg c_1_3, if_neg c_1_4, if_neg c_1_5, if_neg c_1_6, if_pos c_1_7]), rfl⟩
  by_cases c_1_8 : what = 8
  · refine lv_tableIn (off := 103) (tgt := 104) hx hb dX1_fact_1 (by rw [c_1_8]; decide) (by rw [c_1_8]; decide) (by rw [c_1_8]; rfl) (by decide) ?_
    refine lv_aload_n hx hb dX1_fact_104 rfl (lv_at hl 0 rfl) ?_
    refine hh_get C0 hp (C := RX1) (T := TX1) (N := 13) (ci := 1) (hh_b_h hr hi) (hh_E_h r hi) rfl hh_uX1 10 (by decide) hm_45 rfl rfl dX1_fact_105 ?_
    exact hh_iret C0 hp dX1_fact_108 ⟨(by unfold hf_X1_fact; rw [if_neg c_1_0, if_neg c_1_1, if_neg c_1_2, if_neg c_1_3, if_neg c_1_4, if_neg c_1_5, if_neg c_1_6, if_neg c_1_7, if_pos c_1_8]), rfl⟩
  by_cases c_1_9 : what = 9
  · refine lv_tableIn (off := 108) (tgt := 109) hx hb dX1_fact_1 (by rw [c_1_9]; decide) (by rw [c_1_9]; decide) (by rw [c_1_9]; rfl) (by decide) ?_
    refine lv_aload_n hx hb dX1_fact_109 rfl (lv_at hl 0 rfl) ?_
    refine hh_get C0 hp (C := RX1) (T := TX1) (N := 13) (ci := 1) (hh_b_h hr hi) (hh_E_h r hi) rfl hh_uX1 11 (by decide) hm_49 rfl rfl dX1_fact_110 ?_
    exact hh_iret C0 hp dX1_fact_113 ⟨(by unfold hf_X1_fact; rw [if_neg c_1_0, if_neg c_1_1, if_neg c_1_2, if_neg c_1_3, if_neg c_1_4, if_neg c_1_5, if_neg c_1_6, if_neg c_1_7, if_neg c_1_8, if_pos c_1_9]), rfl⟩
  refine lv_tableOut (tgt := 114) hx hb dX1_fact_1 (hh_sw (n := 10) (fun k hk => (match k, hk with | 0, _ => c_1_0 | 1, _ => c_1_1 | 2, _ => c_1_2 | 3, _ => c_1_3 | 4, _ => c_1_4 | 5, _ => c_1_5 | 6, _ => c_1_6 | 7, _ => c_1_7 | 8, _ => c_1_8 | 9, _ => c_1_9 | k + 10, hk => absurd hk (by omega))) (by decide)) (by decide) ?_
  refine lv_aload_n hx hb dX1_fact_114 rfl (lv_at hl 0 rfl) ?_
  refine hh_get C0 hp (C := RX1) (T := TX1) (N := 13) (ci := 1) (hh_b_h hr hi) (hh_E_h r hi) rfl hh_uX1 12 (by decide) hm_50 rfl rfl dX1_fact_115 ?_
  exact hh_iret C0 hp dX1_fact_118 ⟨(by unfold hf_X1_fact; rw [if_neg c_1_0, if_neg c_1_1, if_neg c_1_2, if_neg c_1_3, if_neg c_1_4, if_neg c_1_5, if_neg c_1_6, if_neg c_1_7, if_neg c_1_8, if_neg c_1_9]), rfl⟩
def hf_X2_isUsed (v : hh_M) (r : Nat) (i : Nat) (g : Nat) : Int32 := (if (v (hh_gI r i g) 0) = (-1) then 0 else (if (v (hh_gI r i g) 1) = (-1) then 0 else 1))
set_option maxHeartbeats 4000000 in
set_option maxRecDepth 100000 in
theorem hk_X2_isUsed (l : Launch) (D : va_G) (K : Nat → ClassId) (ad : Nat → Nat) {nm : Nat} {nh nc : Nat → Nat} {v : hh_M} (hT : hh_T nm nh nc v) (r : Nat) (i : Nat) (g : Nat) (hr : r < 2) (hi : i < 24) (hg : g < 2) : hh_Ki l D K ad yX2_isUsed (hh_wm yX2_isUsed cX2_isUsed 1 (some .boolean)) { frames := 0, cells := 0, slots := 0, locals := 0 } [.ref (ad (hh_gI r i g))] v (fun (q : Int32) (v1 : hh_M) => q = hf_X2_isUsed v r i g ∧ v1 = v ∧ (q = 0 ∨ (¬ v (hh_gI r i g) 0 = -1 ∧ ¬ v (hh_gI r i g) 1 = -1))) := by
  refine hh_Ki_of (by decide) (Nat.le_of_ble_eq_true rfl) ?_
  intro p e s m args below meth c ls A C0 hp hl
  obtain ⟨hx, hb, hr9, hml, hown, hts, hK, hlk, hA⟩ := id C0
  have hnm := hT.1
  have hnh := hT.2.1
  have hnc := hT.2.2.1
  have hbHr := hnh r
  have hbCr := hnc r
  have hl : lv_has ls 1 [(0, .ref (ad (hh_gI r i g)))] := hl
  refine lv_aload_n hx hb dX2_isUsed_0 rfl (lv_at hl 0 rfl) ?_
  refine hh_get C0 hp (C := RX2) (T := TX2) (N := 6) (ci := 2) (hh_b_g hr hi hg) (hh_E_g r hi hg) rfl hh_uX2 0 (by decide) hm_13 rfl rfl dX2_isUsed_1 ?_
  refine lv_iconst (v := (-1)) hx hb dX2_isUsed_4 (by decide) ?_
  refine lv_icmp_eq (tgt := 20) hx hb dX2_isUsed_5 (by decide) (fun c_5 => ?_) (fun c_5 => ?_)
  · refine lv_iconst (v := 0) hx hb dX2_isUsed_20 (by decide) ?_
    exact hh_zret C0 hp dX2_isUsed_21 (Or.inl rfl) ⟨(by unfold hf_X2_isUsed; rw [if_pos c_5]), rfl, (by first | exact Or.inl rfl | exact Or.inr ⟨by assumption, by assumption⟩)⟩
  · refine lv_aload_n hx hb dX2_isUsed_8 rfl (lv_at hl 0 rfl) ?_
    refine hh_get C0 hp (C := RX2) (T := TX2) (N := 6) (ci := 2) (hh_b_g hr hi hg) (hh_E_g r hi hg) rfl hh_uX2 1 (by decide) hm_14 rfl rfl dX2_isUsed_9 ?_
    refine lv_iconst (v := (-1)) hx hb dX2_isUsed_12 (by decide) ?_
    refine lv_icmp_eq (tgt := 20) hx hb dX2_isUsed_13 (by decide) (fun c_13 => ?_) (fun c_13 => ?_)
    · refine lv_iconst (v := 0) hx hb dX2_isUsed_20 (by decide) ?_
      exact hh_zret C0 hp dX2_isUsed_21 (Or.inl rfl) ⟨(by unfold hf_X2_isUsed; rw [if_neg c_5, if_pos c_13]), rfl, (by first | exact Or.inl rfl | exact Or.inr ⟨by assumption, by assumption⟩)⟩
    · refine lv_iconst (v := 1) hx hb dX2_isUsed_16 (by decide) ?_
      refine lv_goto (tgt := 21) hx hb dX2_isUsed_17 (by decide) ?_
      exact hh_zret C0 hp dX2_isUsed_21 (Or.inr rfl) ⟨(by unfold hf_X2_isUsed; rw [if_neg c_5, if_neg c_13]), rfl, (by first | exact Or.inl rfl | exact Or.inr ⟨by assumption, by assumption⟩)⟩
def hf_X3_distanceTo (v : hh_M) (i : Nat) (from_ : Int32) : Int32 := (if from_ ≤ (v (hh_mI i) 0) then ((v (hh_mI i) 0) - from_) else (from_ - (v (hh_mI i) 0)))
set_option maxHeartbeats 4000000 in
set_option maxRecDepth 100000 in
theorem hk_X3_distanceTo (l : Launch) (D : va_G) (K : Nat → ClassId) (ad : Nat → Nat) {nm : Nat} {nh nc : Nat → Nat} {v : hh_M} (hT : hh_T nm nh nc v) (i : Nat) (from_ : Int32) (hi : i < 6) : hh_Ki l D K ad yX3_distanceTo (hh_wm yX3_distanceTo cX3_distanceTo 2 (some .int)) { frames := 0, cells := 0, slots := 0, locals := 0 } [.ref (ad (hh_mI i)), .int from_] v (fun (q : Int32) (v1 : hh_M) => q = hf_X3_distanceTo v i from_ ∧ v1 = v) := by
  refine hh_Ki_of (by decide) (Nat.le_of_ble_eq_true rfl) ?_
  intro p e s m args below meth c ls A C0 hp hl
  obtain ⟨hx, hb, hr9, hml, hown, hts, hK, hlk, hA⟩ := id C0
  have hnm := hT.1
  have hnh := hT.2.1
  have hnc := hT.2.2.1
  have hl : lv_has ls 2 [(0, .ref (ad (hh_mI i))), (1, .int from_)] := hl
  refine lv_aload_n hx hb dX3_distanceTo_0 rfl (lv_at hl 0 rfl) ?_
  refine hh_get C0 hp (C := RX3) (T := TX3) (N := 7) (ci := 3) (hh_b_m hi) (hh_E_m hi) rfl hh_uX3 0 (by decide) hm_56 rfl rfl dX3_distanceTo_1 ?_
  refine lv_iload_n hx hb dX3_distanceTo_4 rfl (lv_at hl 1 rfl) ?_
  refine lv_icmp_ge (tgt := 17) hx hb dX3_distanceTo_5 (by decide) (fun c_5 => ?_) (fun c_5 => ?_)
  · refine lv_aload_n hx hb dX3_distanceTo_17 rfl (lv_at hl 0 rfl) ?_
    refine hh_get C0 hp (C := RX3) (T := TX3) (N := 7) (ci := 3) (hh_b_m hi) (hh_E_m hi) rfl hh_uX3 0 (by decide) hm_56 rfl rfl dX3_distanceTo_18 ?_
    refine lv_iload_n hx hb dX3_distanceTo_21 rfl (lv_at hl 1 rfl) ?_
    refine lv_isub hx hb dX3_distanceTo_22 ?_
    exact hh_iret C0 hp dX3_distanceTo_23 ⟨(by unfold hf_X3_distanceTo; rw [if_pos c_5]), rfl⟩
  · refine lv_iload_n hx hb dX3_distanceTo_8 rfl (lv_at hl 1 rfl) ?_
    refine lv_aload_n hx hb dX3_distanceTo_9 rfl (lv_at hl 0 rfl) ?_
    refine hh_get C0 hp (C := RX3) (T := TX3) (N := 7) (ci := 3) (hh_b_m hi) (hh_E_m hi) rfl hh_uX3 0 (by decide) hm_56 rfl rfl dX3_distanceTo_10 ?_
    refine lv_isub hx hb dX3_distanceTo_13 ?_
    refine lv_goto (tgt := 23) hx hb dX3_distanceTo_14 (by decide) ?_
    exact hh_iret C0 hp dX3_distanceTo_23 ⟨(by unfold hf_X3_distanceTo; rw [if_neg c_5]), rfl⟩
def hf_X3_noiseAt (v : hh_M) (i : Nat) (where_ : Int32) : Int32 := (hh_let (hf_X3_distanceTo v i where_ : Int32) (fun (q_6 : Int32) => (hh_let (((v (hh_mI i) 1) - q_6) : Int32) (fun (x_10 : Int32) => (if (v (hh_mI i) 6) = 0 then 0 else (if x_10 ≤ 0 then 0 else (x_10 / 3)))))))
set_option maxHeartbeats 4000000 in
set_option maxRecDepth 100000 in
theorem hk_X3_noiseAt (l : Launch) (D : va_G) (K : Nat → ClassId) (ad : Nat → Nat) {nm : Nat} {nh nc : Nat → Nat} {v : hh_M} (hT : hh_T nm nh nc v) (i : Nat) (where_ : Int32) (hi : i < 6) : hh_Ki l D K ad yX3_noiseAt (hh_wm yX3_noiseAt cX3_noiseAt 3 (some .int)) { frames := 1, cells := 0, slots := 0, locals := 21 } [.ref (ad (hh_mI i)), .int where_] v (fun (q : Int32) (v1 : hh_M) => q = hf_X3_noiseAt v i where_ ∧ v1 = v) := by
  refine hh_Ki_of (by decide) (Nat.le_of_ble_eq_true rfl) ?_
  intro p e s m args below meth c ls A C0 hp hl
  obtain ⟨hx, hb, hr9, hml, hown, hts, hK, hlk, hA⟩ := id C0
  have hnm := hT.1
  have hnh := hT.2.1
  have hnc := hT.2.2.1
  have hl : lv_has ls 3 [(0, .ref (ad (hh_mI i))), (1, .int where_)] := hl
  refine lv_aload_n hx hb dX3_noiseAt_0 rfl (lv_at hl 0 rfl) ?_
  refine hh_get C0 hp (C := RX3) (T := TX3) (N := 7) (ci := 3) (hh_b_m hi) (hh_E_m hi) rfl hh_uX3 1 (by decide) hm_58 rfl rfl dX3_noiseAt_1 ?_
  refine lv_aload_n hx hb dX3_noiseAt_4 rfl (lv_at hl 0 rfl) ?_
  refine lv_iload_n hx hb dX3_noiseAt_5 rfl (lv_at hl 1 rfl) ?_
  refine hh_cVi C0 hp (As := [.int where_]) (rest := [.int (v (hh_mI i) 1)]) (C := RX3) (T := TX3) (N := 7) (ci := 3) (n := 1) (hk_X3_distanceTo l D K ad hT i where_ hi) rfl (hh_b_m hi) (hh_E_m hi) (hh_gV hm_60 hm_61 hm_62 hm_63 hm_55) ⟨rfl, rfl⟩ (by decide +kernel) ⟨Nat.le_of_ble_eq_true rfl, Nat.le_of_ble_eq_true rfl⟩ ⟨Nat.zero_le _, Nat.zero_le _⟩ hl.1 rfl rfl (Nat.le_of_ble_eq_true rfl) dX3_noiseAt_6 (fun q_6 v_6 H locs hv_6 hp => ?_)
  obtain ⟨eq_6, hv9⟩ := hv_6
  rw [hv9] at hp; clear hv9
  refine lv_isub hx hb dX3_noiseAt_9 ?_
  refine lv_topi (fun x_10 ex_10 => ?_)
  refine lv_istore_n (lv' := [(2, .int x_10), (0, .ref (ad (hh_mI i))), (1, .int where_)]) hx hb dX3_noiseAt_10 rfl hl (by decide) rfl (fun ls hl => ?_)
  refine lv_aload_n hx hb dX3_noiseAt_11 rfl (lv_at hl 1 rfl) ?_
  refine hh_get C0 hp (C := RX3) (T := TX3) (N := 7) (ci := 3) (hh_b_m hi) (hh_E_m hi) rfl hh_uX3 6 (by decide) hm_59 rfl rfl dX3_noiseAt_12 ?_
  refine lv_if_eq (tgt := 28) hx hb dX3_noiseAt_15 (by decide) (fun c_15 => ?_) (fun c_15 => ?_)
  · refine lv_iconst (v := 0) hx hb dX3_noiseAt_28 (by decide) ?_
    exact hh_iret C0 hp dX3_noiseAt_29 ⟨(by unfold hf_X3_noiseAt; rw [hh_let_eq eq_6, hh_let_eq ex_10, if_pos c_15]), rfl⟩
  · refine lv_iload_n hx hb dX3_noiseAt_18 rfl (lv_at hl 0 rfl) ?_
    refine lv_if_le (tgt := 28) hx hb dX3_noiseAt_19 (by decide) (fun c_19 => ?_) (fun c_19 => ?_)
    · refine lv_iconst (v := 0) hx hb dX3_noiseAt_28 (by decide) ?_
      exact hh_iret C0 hp dX3_noiseAt_29 ⟨(by unfold hf_X3_noiseAt; rw [hh_let_eq eq_6, hh_let_eq ex_10, if_neg c_15, if_pos c_19]), rfl⟩
    · refine lv_iload_n hx hb dX3_noiseAt_22 rfl (lv_at hl 0 rfl) ?_
      refine lv_iconst (v := 3) hx hb dX3_noiseAt_23 (by decide) ?_
      refine lv_idiv hx hb dX3_noiseAt_24 (by decide) ?_
      refine lv_goto (tgt := 29) hx hb dX3_noiseAt_25 (by decide) ?_
      exact hh_iret C0 hp dX3_noiseAt_29 ⟨(by unfold hf_X3_noiseAt; rw [hh_let_eq eq_6, hh_let_eq ex_10, if_neg c_15, if_neg c_19]), rfl⟩
def hf_X3_fact (v : hh_M) (i : Nat) (what : Int32) : Int32 := (if what = 0 then (v (hh_mI i) 0) else (if what = 1 then (v (hh_mI i) 1) else (if what = 2 then (v (hh_mI i) 2) else (if what = 3 then (v (hh_mI i) 3) else (if what = 4 then (v (hh_mI i) 4) else (if what = 5 then (v (hh_mI i) 5) else (if (v (hh_mI i) 6) = 0 then 0 else 1)))))))
set_option maxHeartbeats 4000000 in
set_option maxRecDepth 100000 in
theorem hk_X3_fact (l : Launch) (D : va_G) (K : Nat → ClassId) (ad : Nat → Nat) {nm : Nat} {nh nc : Nat → Nat} {v : hh_M} (hT : hh_T nm nh nc v) (i : Nat) (what : Int32) (hi : i < 6) : hh_Ki l D K ad yX3_fact (hh_wm yX3_fact cX3_fact 2 (some .int)) { frames := 0, cells := 0, slots := 0, locals := 0 } [.ref (ad (hh_mI i)), .int what] v (fun (q : Int32) (v1 : hh_M) => q = hf_X3_fact v i what ∧ v1 = v) := by
  refine hh_Ki_of (by decide) (Nat.le_of_ble_eq_true rfl) ?_
  intro p e s m args below meth c ls A C0 hp hl
  obtain ⟨hx, hb, hr9, hml, hown, hts, hK, hlk, hA⟩ := id C0
  have hnm := hT.1
  have hnh := hT.2.1
  have hnc := hT.2.2.1
  have hl : lv_has ls 2 [(0, .ref (ad (hh_mI i))), (1, .int what)] := hl
  refine lv_iload_n hx hb dX3_fact_0 rfl (lv_at hl 1 rfl) ?_
  by_cases c_1_0 : what = 0
  · refine lv_tableIn (off := 39) (tgt := 40) hx hb dX3_fact_1 (by rw [c_1_0]; decide) (by rw [c_1_0]; decide) (by rw [c_1_0]; rfl) (by decide) ?_
    refine lv_aload_n hx hb dX3_fact_40 rfl (lv_at hl 0 rfl) ?_
    refine hh_get C0 hp (C := RX3) (T := TX3) (N := 7) (ci := 3) (hh_b_m hi) (hh_E_m hi) rfl hh_uX3 0 (by decide) hm_56 rfl rfl dX3_fact_41 ?_
    exact hh_iret C0 hp dX3_fact_44 ⟨(by unfold hf_X3_fact; rw [if_pos c_1_0]), rfl⟩
  by_cases c_1_1 : what = 1
  · refine lv_tableIn (off := 44) (tgt := 45) hx hb dX3_fact_1 (by rw [c_1_1]; decide) (by rw [c_1_1]; decide) (by rw [c_1_1]; rfl) (by decide) ?_
    refine lv_aload_n hx hb dX3_fact_45 rfl (lv_at hl 0 rfl) ?_
    refine hh_get C0 hp (C := RX3) (T := TX3) (N := 7) (ci := 3) (hh_b_m hi) (hh_E_m hi) rfl hh_uX3 1 (by decide) hm_58 rfl rfl dX3_fact_46 ?_
    exact hh_iret C0 hp dX3_fact_49 ⟨(by unfold hf_X3_fact; rw [if_neg c_1_0, if_pos c_1_1]), rfl⟩
  by_cases c_1_2 : what = 2
  · refine lv_tableIn (off := 49) (tgt := 50) hx hb dX3_fact_1 (by rw [c_1_2]; decide) (by rw [c_1_2]; decide) (by rw [c_1_2]; rfl) (by decide) ?_
    refine lv_aload_n hx hb dX3_fact_50 rfl (lv_at hl 0 rfl) ?_
    refine hh_get C0 hp (C := RX3) (T := TX3) (N := 7) (ci := 3) (hh_b_m hi) (hh_E_m hi) rfl hh_uX3 2 (by decide) hm_65 rfl rfl dX3_fact_51 ?_
    exact hh_iret C0 hp dX3_fact_54 ⟨(by unfold hf_X3_fact; rw [if_neg c_1_0, if_neg c_1_1, if_pos c_1_2]), rfl⟩
  by_cases c_1_3 : what = 3
  · refine lv_tableIn (off := 54) (tgt := 55) hx hb dX3_fact_1 (by rw [c_1_3]; decide) (by rw [c_1_3]; decide) (by rw [c_1_3]; rfl) (by decide) ?_
    refine lv_aload_n hx hb dX3_fact_55 rfl (lv_at hl 0 rfl) ?_
    refine hh_get C0 hp (C := RX3) (T := TX3) (N := 7) (ci := 3) (hh_b_m hi) (hh_E_m hi) rfl hh_uX3 3 (by decide) hm_66 rfl rfl dX3_fact_56 ?_
    exact hh_iret C0 hp dX3_fact_59 ⟨(by unfold hf_X3_fact; rw [if_neg c_1_0, if_neg c_1_1, if_neg c_1_2, if_pos c_1_3]), rfl⟩
  by_cases c_1_4 : what = 4
  · refine lv_tableIn (off := 59) (tgt := 60) hx hb dX3_fact_1 (by rw [c_1_4]; decide) (by rw [c_1_4]; decide) (by rw [c_1_4]; rfl) (by decide) ?_
    refine lv_aload_n hx hb dX3_fact_60 rfl (lv_at hl 0 rfl) ?_
    refine hh_get C0 hp (C := RX3) (T := TX3) (N := 7) (ci := 3) (hh_b_m hi) (hh_E_m hi) rfl hh_uX3 4 (by decide) hm_67 rfl rfl dX3_fact_61 ?_
    exact hh_iret C0 hp dX3_fact_64 ⟨(by unfold hf_X3_fact; rw [if_neg c_1_0, if_neg c_1_1, if_neg c_1_2, if_neg c_1_3, if_pos c_1_4]), rfl⟩
  by_cases c_1_5 : what = 5
  · refine lv_tableIn (off := 64) (tgt := 65) hx hb dX3_fact_1 (by rw [c_1_5]; decide) (by rw [c_1_5]; decide) (by rw [c_1_5]; rfl) (by decide) ?_
    refine lv_aload_n hx hb dX3_fact_65 rfl (lv_at hl 0 rfl) ?_
    refine hh_get C0 hp (C := RX3) (T := TX3) (N := 7) (ci := 3) (hh_b_m hi) (hh_E_m hi) rfl hh_uX3 5 (by decide) hm_68 rfl rfl dX3_fact_66 ?_
    exact hh_iret C0 hp dX3_fact_69 ⟨(by unfold hf_X3_fact; rw [if_neg c_1_0, if_neg c_1_1, if_neg c_1_2, if_neg c_1_3, if_neg c_1_4, if_pos c_1_5]), rfl⟩
  refine lv_tableOut (tgt := 70) hx hb dX3_fact_1 (hh_sw (n := 6) (fun k hk => (match k, hk with | 0, _ => c_1_0 | 1, _ => c_1_1 | 2, _ => c_1_2 | 3, _ => c_1_3 | 4, _ => c_1_4 | 5, _ => c_1_5 | k + 6, hk => absurd hk (by omega))) (by decide)) (by decide) ?_
  refine lv_aload_n hx hb dX3_fact_70 rfl (lv_at hl 0 rfl) ?_
  refine hh_get C0 hp (C := RX3) (T := TX3) (N := 7) (ci := 3) (hh_b_m hi) (hh_E_m hi) rfl hh_uX3 6 (by decide) hm_59 rfl rfl dX3_fact_71 ?_
  refine lv_if_eq (tgt := 81) hx hb dX3_fact_74 (by decide) (fun c_74 => ?_) (fun c_74 => ?_)
  · refine lv_iconst (v := 0) hx hb dX3_fact_81 (by decide) ?_
    exact hh_iret C0 hp dX3_fact_82 ⟨(by unfold hf_X3_fact; rw [if_neg c_1_0, if_neg c_1_1, if_neg c_1_2, if_neg c_1_3, if_neg c_1_4, if_neg c_1_5, if_pos c_74]), rfl⟩
  · refine lv_iconst (v := 1) hx hb dX3_fact_77 (by decide) ?_
    refine lv_goto (tgt := 82) hx hb dX3_fact_78 (by decide) ?_
    exact hh_iret C0 hp dX3_fact_82 ⟨(by unfold hf_X3_fact; rw [if_neg c_1_0, if_neg c_1_1, if_neg c_1_2, if_neg c_1_3, if_neg c_1_4, if_neg c_1_5, if_neg c_74]), rfl⟩
def hf_X0_fact (v : hh_M) (r : Nat) (i : Nat) (what : Int32) : Int32 := (if what = 0 then (v (hh_gI r i 0) 0) else (if what = 1 then (v (hh_gI r i 1) 0) else (if what = 2 then (v (hh_cI r i) 2) else (if what = 3 then (v (hh_cI r i) 3) else (if what = 4 then (v (hh_cI r i) 4) else (if what = 5 then (v (hh_cI r i) 5) else (if what = 6 then (v (hh_cI r i) 6) else (if what = 7 then (v (hh_gI r i 0) 1) else (v (hh_gI r i 1) 1)))))))))
set_option maxHeartbeats 4000000 in
set_option maxRecDepth 100000 in
theorem hk_X0_fact (l : Launch) (D : va_G) (K : Nat → ClassId) (ad : Nat → Nat) {nm : Nat} {nh nc : Nat → Nat} {v : hh_M} (hT : hh_T nm nh nc v) (r : Nat) (i : Nat) (what : Int32) (hr : r < 2) (hi : i < 24) : hh_Ki l D K ad yX0_fact (hh_wm yX0_fact cX0_fact 2 (some .int)) { frames := 0, cells := 0, slots := 0, locals := 0 } [.ref (ad (hh_cI r i)), .int what] v (fun (q : Int32) (v1 : hh_M) => q = hf_X0_fact v r i what ∧ v1 = v) := by
  refine hh_Ki_of (by decide) (Nat.le_of_ble_eq_true rfl) ?_
  intro p e s m args below meth c ls A C0 hp hl
  obtain ⟨hx, hb, hr9, hml, hown, hts, hK, hlk, hA⟩ := id C0
  have hnm := hT.1
  have hnh := hT.2.1
  have hnc := hT.2.2.1
  have hbHr := hnh r
  have hbCr := hnc r
  have hl : lv_has ls 2 [(0, .ref (ad (hh_cI r i))), (1, .int what)] := hl
  refine lv_iload_n hx hb dX0_fact_0 rfl (lv_at hl 1 rfl) ?_
  by_cases c_1_0 : what = 0
  · refine lv_tableIn (off := 47) (tgt := 48) hx hb dX0_fact_1 (by rw [c_1_0]; decide) (by rw [c_1_0]; decide) (by rw [c_1_0]; rfl) (by decide) ?_
    refine lv_aload_n hx hb dX0_fact_48 rfl (lv_at hl 0 rfl) ?_
    refine hh_get C0 hp (C := RX0) (T := TX0) (N := 7) (ci := 0) (hh_b_c hr hi) (hh_E_c r hi) rfl hh_uX0 0 (by decide) hm_7 rfl rfl dX0_fact_49 ?_
    refine hh_get C0 hp (C := RX2) (T := TX2) (N := 6) (ci := 2) (hh_b_g hr hi (by decide : 0 < 2)) (hh_E_g r hi (by decide : 0 < 2)) rfl hh_uX2 0 (by decide) hm_31 rfl rfl dX0_fact_52 ?_
    exact hh_iret C0 hp dX0_fact_55 ⟨(by unfold hf_X0_fact; rw [if_pos c_1_0]), rfl⟩
  by_cases c_1_1 : what = 1
  · refine lv_tableIn (off := 55) (tgt := 56) hx hb dX0_fact_1 (by rw [c_1_1]; decide) (by rw [c_1_1]; decide) (by rw [c_1_1]; rfl) (by decide) ?_
    refine lv_aload_n hx hb dX0_fact_56 rfl (lv_at hl 0 rfl) ?_
    refine hh_get C0 hp (C := RX0) (T := TX0) (N := 7) (ci := 0) (hh_b_c hr hi) (hh_E_c r hi) rfl hh_uX0 1 (by decide) hm_8 rfl rfl dX0_fact_57 ?_
    refine hh_get C0 hp (C := RX2) (T := TX2) (N := 6) (ci := 2) (hh_b_g hr hi (by decide : 1 < 2)) (hh_E_g r hi (by decide : 1 < 2)) rfl hh_uX2 0 (by decide) hm_31 rfl rfl dX0_fact_60 ?_
    exact hh_iret C0 hp dX0_fact_63 ⟨(by unfold hf_X0_fact; rw [if_neg c_1_0, if_pos c_1_1]), rfl⟩
  by_cases c_1_2 : what = 2
  · refine lv_tableIn (off := 63) (tgt := 64) hx hb dX0_fact_1 (by rw [c_1_2]; decide) (by rw [c_1_2]; decide) (by rw [c_1_2]; rfl) (by decide) ?_
    refine lv_aload_n hx hb dX0_fact_64 rfl (lv_at hl 0 rfl) ?_
    refine hh_get C0 hp (C := RX0) (T := TX0) (N := 7) (ci := 0) (hh_b_c hr hi) (hh_E_c r hi) rfl hh_uX0 2 (by decide) hm_19 rfl rfl dX0_fact_65 ?_
    exact hh_iret C0 hp dX0_fact_68 ⟨(by unfold hf_X0_fact; rw [if_neg c_1_0, if_neg c_1_1, if_pos c_1_2]), rfl⟩
  by_cases c_1_3 : what = 3
  · refine lv_tableIn (off := 68) (tgt := 69) hx hb dX0_fact_1 (by rw [c_1_3]; decide) (by rw [c_1_3]; decide) (by rw [c_1_3]; rfl) (by decide) ?_
    refine lv_aload_n hx hb dX0_fact_69 rfl (lv_at hl 0 rfl) ?_
    refine hh_get C0 hp (C := RX0) (T := TX0) (N := 7) (ci := 0) (hh_b_c hr hi) (hh_E_c r hi) rfl hh_uX0 3 (by decide) hm_20 rfl rfl dX0_fact_70 ?_
    exact hh_iret C0 hp dX0_fact_73 ⟨(by unfold hf_X0_fact; rw [if_neg c_1_0, if_neg c_1_1, if_neg c_1_2, if_pos c_1_3]), rfl⟩
  by_cases c_1_4 : what = 4
  · refine lv_tableIn (off := 73) (tgt := 74) hx hb dX0_fact_1 (by rw [c_1_4]; decide) (by rw [c_1_4]; decide) (by rw [c_1_4]; rfl) (by decide) ?_
    refine lv_aload_n hx hb dX0_fact_74 rfl (lv_at hl 0 rfl) ?_
    refine hh_get C0 hp (C := RX0) (T := TX0) (N := 7) (ci := 0) (hh_b_c hr hi) (hh_E_c r hi) rfl hh_uX0 4 (by decide) hm_21 rfl rfl dX0_fact_75 ?_
    exact hh_iret C0 hp dX0_fact_78 ⟨(by unfold hf_X0_fact; rw [if_neg c_1_0, if_neg c_1_1, if_neg c_1_2, if_neg c_1_3, if_pos c_1_4]), rfl⟩
  by_cases c_1_5 : what = 5
  · refine lv_tableIn (off := 78) (tgt := 79) hx hb dX0_fact_1 (by rw [c_1_5]; decide) (by rw [c_1_5]; decide) (by rw [c_1_5]; rfl) (by decide) ?_
    refine lv_aload_n hx hb dX0_fact_79 rfl (lv_at hl 0 rfl) ?_
    refine hh_get C0 hp (C := RX0) (T := TX0) (N := 7) (ci := 0) (hh_b_c hr hi) (hh_E_c r hi) rfl hh_uX0 5 (by decide) hm_22 rfl rfl dX0_fact_80 ?_
    exact hh_iret C0 hp dX0_fact_83 ⟨(by unfold hf_X0_fact; rw [if_neg c_1_0, if_neg c_1_1, if_neg c_1_2, if_neg c_1_3, if_neg c_1_4, if_pos c_1_5]), rfl⟩
  by_cases c_1_6 : what = 6
  · refine lv_tableIn (off := 83) (tgt := 84) hx hb dX0_fact_1 (by rw [c_1_6]; decide) (by rw [c_1_6]; decide) (by rw [c_1_6]; rfl) (by decide) ?_
    refine lv_aload_n hx hb dX0_fact_84 rfl (lv_at hl 0 rfl) ?_
    refine hh_get C0 hp (C := RX0) (T := TX0) (N := 7) (ci := 0) (hh_b_c hr hi) (hh_E_c r hi) rfl hh_uX0 6 (by decide) hm_9 rfl rfl dX0_fact_85 ?_
    exact hh_iret C0 hp dX0_fact_88 ⟨(by unfold hf_X0_fact; rw [if_neg c_1_0, if_neg c_1_1, if_neg c_1_2, if_neg c_1_3, if_neg c_1_4, if_neg c_1_5, if_pos c_1_6]), rfl⟩
  by_cases c_1_7 : what = 7
  · refine lv_tableIn (off := 88) (tgt := 89) hx hb dX0_fact_1 (by rw [c_1_7]; decide) (by rw [c_1_7]; decide) (by rw [c_1_7]; rfl) (by decide) ?_
    refine lv_aload_n hx hb dX0_fact_89 rfl (lv_at hl 0 rfl) ?_
    refine hh_get C0 hp (C := RX0) (T := TX0) (N := 7) (ci := 0) (hh_b_c hr hi) (hh_E_c r hi) rfl hh_uX0 0 (by decide) hm_7 rfl rfl dX0_fact_90 ?_
    refine hh_get C0 hp (C := RX2) (T := TX2) (N := 6) (ci := 2) (hh_b_g hr hi (by decide : 0 < 2)) (hh_E_g r hi (by decide : 0 < 2)) rfl hh_uX2 1 (by decide) hm_17 rfl rfl dX0_fact_93 ?_
    exact hh_iret C0 hp dX0_fact_96 ⟨(by unfold hf_X0_fact; rw [if_neg c_1_0, if_neg c_1_1, if_neg c_1_2, if_neg c_1_3, if_neg c_1_4, if_neg c_1_5, if_neg c_1_6, if_pos c_1_7]), rfl⟩
  refine lv_tableOut (tgt := 97) hx hb dX0_fact_1 (hh_sw (n := 8) (fun k hk => (match k, hk with | 0, _ => c_1_0 | 1, _ => c_1_1 | 2, _ => c_1_2 | 3, _ => c_1_3 | 4, _ => c_1_4 | 5, _ => c_1_5 | 6, _ => c_1_6 | 7, _ => c_1_7 | k + 8, hk => absurd hk (by omega))) (by decide)) (by decide) ?_
  refine lv_aload_n hx hb dX0_fact_97 rfl (lv_at hl 0 rfl) ?_
  refine hh_get C0 hp (C := RX0) (T := TX0) (N := 7) (ci := 0) (hh_b_c hr hi) (hh_E_c r hi) rfl hh_uX0 1 (by decide) hm_8 rfl rfl dX0_fact_98 ?_
  refine hh_get C0 hp (C := RX2) (T := TX2) (N := 6) (ci := 2) (hh_b_g hr hi (by decide : 1 < 2)) (hh_E_g r hi (by decide : 1 < 2)) rfl hh_uX2 1 (by decide) hm_17 rfl rfl dX0_fact_101 ?_
  exact hh_iret C0 hp dX0_fact_104 ⟨(by unfold hf_X0_fact; rw [if_neg c_1_0, if_neg c_1_1, if_neg c_1_2, if_neg c_1_3, if_neg c_1_4, if_neg c_1_5, if_neg c_1_6, if_neg c_1_7]), rfl⟩
def hf_X5_qualityAt (v : hh_M) (r : Nat) (mast : Int32) (place : Int32) : Int32 := ((v (hh_bI mast.toNatClampNeg) place.toNatClampNeg) - (2 * (v (hh_lI r) mast.toNatClampNeg)))
set_option maxHeartbeats 4000000 in
set_option maxRecDepth 100000 in
theorem hk_X5_qualityAt (l : Launch) (D : va_G) (K : Nat → ClassId) (ad : Nat → Nat) {nm : Nat} {nh nc : Nat → Nat} {v : hh_M} (hT : hh_T nm nh nc v) (r : Nat) (mast : Int32) (place : Int32) (hr : r < 2) (h1 : vp_in mast 6) (h2 : vp_in place 100) : hh_Ki l D K ad yX5_qualityAt (hh_wm yX5_qualityAt cX5_qualityAt 3 (some .int)) { frames := 0, cells := 0, slots := 0, locals := 0 } [.ref (ad (hh_rI r)), .int mast, .int place] v (fun (q : Int32) (v1 : hh_M) => q = hf_X5_qualityAt v r mast place ∧ v1 = v) := by
  refine hh_Ki_of (by decide) (Nat.le_of_ble_eq_true rfl) ?_
  intro p e s m args below meth c ls A C0 hp hl
  obtain ⟨hx, hb, hr9, hml, hown, hts, hK, hlk, hA⟩ := id C0
  have hnm := hT.1
  have hnh := hT.2.1
  have hnc := hT.2.2.1
  have hbHr := hnh r
  have hbCr := hnc r
  have hl : lv_has ls 3 [(0, .ref (ad (hh_rI r))), (1, .int mast), (2, .int place)] := hl
  refine lv_aload_n hx hb dX5_qualityAt_0 rfl (lv_at hl 0 rfl) ?_
  refine hh_get C0 hp (C := RX5) (T := TX5) (N := 10) (ci := 5) (hh_b_r hr) (hh_E_r r) rfl hh_uX5 0 (by decide) hm_97 rfl rfl dX5_qualityAt_1 ?_
  refine hh_get C0 hp (C := RX4) (T := TX4) (N := 3) (ci := 4) (by decide) hh_E_1 rfl hh_uX4 1 (by decide) hm_123 rfl rfl dX5_qualityAt_4 ?_
  refine lv_iload_n hx hb dX5_qualityAt_7 rfl (lv_at hl 1 rfl) ?_
  have hin_8 : vp_in mast 6 := by assumption
  refine hh_aal C0 hp (t0 := 1) (f := hh_bI) (by decide) hh_E_3 rfl rfl hin_8 rfl dX5_qualityAt_8 ?_
  refine lv_iload_n hx hb dX5_qualityAt_9 rfl (lv_at hl 2 rfl) ?_
  have hin_10 : vp_in place 100 := by assumption
  refine hh_ial C0 hp (hh_b_b (hh_lt hin_8)) (hh_E_b (hh_lt hin_8)) hin_10 rfl dX5_qualityAt_10 ?_
  refine lv_iconst (v := 2) hx hb dX5_qualityAt_11 (by decide) ?_
  refine lv_aload_n hx hb dX5_qualityAt_12 rfl (lv_at hl 0 rfl) ?_
  refine hh_get C0 hp (C := RX5) (T := TX5) (N := 10) (ci := 5) (hh_b_r hr) (hh_E_r r) rfl hh_uX5 1 (by decide) hm_98 rfl rfl dX5_qualityAt_13 ?_
  refine lv_iload_n hx hb dX5_qualityAt_16 rfl (lv_at hl 1 rfl) ?_
  have hin_17 : vp_in mast 6 := by assumption
  refine hh_ial C0 hp (hh_b_l hr) (hh_E_l r) hin_17 rfl dX5_qualityAt_17 ?_
  refine lv_imul hx hb dX5_qualityAt_18 ?_
  refine lv_isub hx hb dX5_qualityAt_19 ?_
  exact hh_iret C0 hp dX5_qualityAt_20 ⟨(by unfold hf_X5_qualityAt; rfl), rfl⟩
def hf_X5_isHeard (v : hh_M) (r : Nat) (mast : Int32) (place : Int32) : Int32 := (hh_let (hf_X5_qualityAt v r mast place : Int32) (fun (q_3 : Int32) => (if q_3 < 1 then 0 else 1)))
set_option maxHeartbeats 4000000 in
set_option maxRecDepth 100000 in
theorem hk_X5_isHeard (l : Launch) (D : va_G) (K : Nat → ClassId) (ad : Nat → Nat) {nm : Nat} {nh nc : Nat → Nat} {v : hh_M} (hT : hh_T nm nh nc v) (r : Nat) (mast : Int32) (place : Int32) (hr : r < 2) (h1 : vp_in mast 6) (h2 : vp_in place 100) : hh_Ki l D K ad yX5_isHeard (hh_wm yX5_isHeard cX5_isHeard 3 (some .boolean)) { frames := 1, cells := 0, slots := 0, locals := 22 } [.ref (ad (hh_rI r)), .int mast, .int place] v (fun (q : Int32) (v1 : hh_M) => q = hf_X5_isHeard v r mast place ∧ v1 = v) := by
  refine hh_Ki_of (by decide) (Nat.le_of_ble_eq_true rfl) ?_
  intro p e s m args below meth c ls A C0 hp hl
  obtain ⟨hx, hb, hr9, hml, hown, hts, hK, hlk, hA⟩ := id C0
  have hnm := hT.1
  have hnh := hT.2.1
  have hnc := hT.2.2.1
  have hbHr := hnh r
  have hbCr := hnc r
  have hl : lv_has ls 3 [(0, .ref (ad (hh_rI r))), (1, .int mast), (2, .int place)] := hl
  refine lv_aload_n hx hb dX5_isHeard_0 rfl (lv_at hl 0 rfl) ?_
  refine lv_iload_n hx hb dX5_isHeard_1 rfl (lv_at hl 1 rfl) ?_
  refine lv_iload_n hx hb dX5_isHeard_2 rfl (lv_at hl 2 rfl) ?_
  refine hh_cVi C0 hp (As := [.int mast, .int place]) (rest := []) (C := RX5) (T := TX5) (N := 10) (ci := 5) (n := 2) (hk_X5_qualityAt l D K ad hT r mast place hr (by assumption) (by assumption)) rfl (hh_b_r hr) (hh_E_r r) (hh_gV hm_125 hm_126 hm_127 hm_128 hm_122) ⟨rfl, rfl⟩ (by decide +kernel) ⟨Nat.le_of_ble_eq_true rfl, Nat.le_of_ble_eq_true rfl⟩ ⟨Nat.zero_le _, Nat.zero_le _⟩ hl.1 rfl rfl (Nat.le_of_ble_eq_true rfl) dX5_isHeard_3 (fun q_3 v_3 H locs hv_3 hp => ?_)
  obtain ⟨eq_3, hv9⟩ := hv_3
  rw [hv9] at hp; clear hv9
  refine lv_iconst (v := 1) hx hb dX5_isHeard_6 (by decide) ?_
  refine lv_icmp_lt (tgt := 14) hx hb dX5_isHeard_7 (by decide) (fun c_7 => ?_) (fun c_7 => ?_)
  · refine lv_iconst (v := 0) hx hb dX5_isHeard_14 (by decide) ?_
    exact hh_zret C0 hp dX5_isHeard_15 (Or.inl rfl) ⟨(by unfold hf_X5_isHeard; rw [hh_let_eq eq_3, if_pos c_7]), rfl⟩
  · refine lv_iconst (v := 1) hx hb dX5_isHeard_10 (by decide) ?_
    refine lv_goto (tgt := 15) hx hb dX5_isHeard_11 (by decide) ?_
    exact hh_zret C0 hp dX5_isHeard_15 (Or.inr rfl) ⟨(by unfold hf_X5_isHeard; rw [hh_let_eq eq_3, if_neg c_7]), rfl⟩
def hl_X5_bestHeardAt_7 (v : hh_M) (r : Nat) (place : Int32) (i : Nat) (a7_2 : Int32) (a7_3 : Int32) : Int32 × Int32 := (hh_let (hf_X5_qualityAt v r (nI i) place : Int32) (fun (q_23 : Int32) => (if q_23 ≤ a7_3 then (a7_2, a7_3) else ((nI i), q_23))))
def hf_X5_bestHeardAt (v : hh_M) (r : Nat) (place : Int32) : Int32 := (hh_let ((hh_fld (fun (i9 : Nat) (z : Int32 × Int32) => hl_X5_bestHeardAt_7 v r place i9 z.1 z.2) ((v 1 2).toNatClampNeg) ((-1), 0)).1 : Int32) (fun (a7_2 : Int32) => (hh_let ((hh_fld (fun (i9 : Nat) (z : Int32 × Int32) => hl_X5_bestHeardAt_7 v r place i9 z.1 z.2) ((v 1 2).toNatClampNeg) ((-1), 0)).2 : Int32) (fun (a7_3 : Int32) => a7_2))))
set_option maxHeartbeats 4000000 in
set_option maxRecDepth 100000 in
theorem hk_X5_bestHeardAt (l : Launch) (D : va_G) (K : Nat → ClassId) (ad : Nat → Nat) {nm : Nat} {nh nc : Nat → Nat} {v : hh_M} (hT : hh_T nm nh nc v) (r : Nat) (place : Int32) (hr : r < 2) (h2 : vp_in place 100) : hh_Ki l D K ad yX5_bestHeardAt (hh_wm yX5_bestHeardAt cX5_bestHeardAt 6 (some .int)) { frames := 1, cells := 0, slots := 0, locals := 22 } [.ref (ad (hh_rI r)), .int place] v (fun (q : Int32) (v1 : hh_M) => q = hf_X5_bestHeardAt v r place ∧ v1 = v ∧ (-1 ≤ q ∧ q < nI nm)) := by
  refine hh_Ki_of (by decide) (Nat.le_of_ble_eq_true rfl) ?_
  intro p e s m args below meth c ls A C0 hp hl
  obtain ⟨hx, hb, hr9, hml, hown, hts, hK, hlk, hA⟩ := id C0
  have hnm := hT.1
  have hnh := hT.2.1
  have hnc := hT.2.2.1
  have hbHr := hnh r
  have hbCr := hnc r
  have hl : lv_has ls 6 [(0, .ref (ad (hh_rI r))), (1, .int place)] := hl
  refine lv_iconst (v := (-1)) hx hb dX5_bestHeardAt_0 (by decide) ?_
  refine lv_istore_n (lv' := [(2, .int (-1)), (0, .ref (ad (hh_rI r))), (1, .int place)]) hx hb dX5_bestHeardAt_1 rfl hl (by decide) rfl (fun ls hl => ?_)
  refine lv_iconst (v := 0) hx hb dX5_bestHeardAt_2 (by decide) ?_
  refine lv_istore_n (lv' := [(3, .int 0), (2, .int (-1)), (0, .ref (ad (hh_rI r))), (1, .int place)]) hx hb dX5_bestHeardAt_3 rfl hl (by decide) rfl (fun ls hl => ?_)
  refine lv_iconst (v := 0) hx hb dX5_bestHeardAt_4 (by decide) ?_
  refine lv_istore (lv' := [(4, .int 0), (3, .int 0), (2, .int (-1)), (0, .ref (ad (hh_rI r))), (1, .int place)]) hx hb dX5_bestHeardAt_5 hl (by decide) rfl (fun ls hl => ?_)
  have hL_7 : ∀ (n i : Nat) (a7_2 : Int32) (a7_3 : Int32) (H : Heap) (locs : List Loc) (ls : Array Slot), i ≤ nm → nm - i < n → (a7_2, a7_3) = hh_fld (fun (i9 : Nat) (z : Int32 × Int32) => hl_X5_bestHeardAt_7 v r place i9 z.1 z.2) i ((-1), 0) → hh_H D K ad A s.heap v H locs → lv_has ls 6 [(4, .int (nI i)), (3, .int a7_3), (2, .int a7_2), (0, .ref (ad (hh_rI r))), (1, .int place)] → -1 ≤ a7_2 ∧ a7_2 < nI nm → W p l e ({ frames := 1, cells := 0, slots := 0, locals := 22 } : Room) s m args below meth c H locs 0 0 (MQ below (va_Qi (fun (q : Int32) (v1 : hh_M) => q = hf_X5_bestHeardAt v r place ∧ v1 = v ∧ (-1 ≤ q ∧ q < nI nm)) (hh_B D K ad A) A) args s 0 0 A) (F0 m 7 ls []) := by
    intro n
    induction n with
    | zero => intro i a7_2 a7_3 H locs ls h1 h2; omega
    | succ n ih =>
      intro i a7_2 a7_3 H locs ls hii hni hsL_7 hp hl hf1
      refine lv_iload hx hb dX5_bestHeardAt_7 (lv_at hl 0 rfl) ?_
      refine lv_aload_n hx hb dX5_bestHeardAt_9 rfl (lv_at hl 3 rfl) ?_
      refine hh_get C0 hp (C := RX5) (T := TX5) (N := 10) (ci := 5) (hh_b_r hr) (hh_E_r r) rfl hh_uX5 0 (by decide) hm_97 rfl rfl dX5_bestHeardAt_10 ?_
      refine hh_get C0 hp (C := RX4) (T := TX4) (N := 3) (ci := 4) (by decide) hh_E_1 rfl hh_uX4 2 (by decide) hm_130 rfl rfl dX5_bestHeardAt_13 ?_
      refine lv_icmp_ge (tgt := 46) hx hb dX5_bestHeardAt_16 (by decide) (fun c_16 => ?_) (fun c_16 => ?_)
      · have hbc_16 : (v 1 2) = nI nm := hh_T_M hT
        rw [hbc_16] at c_16
        have hc_16 := (nI_leI (a := nm) (b := i) (by omega) (by omega))
        have hltc_16 : nm ≤ i := by exact hc_16.mp c_16
        have hNL_7 : i = nm := by omega
        rw [hNL_7] at hsL_7
        have hsL_7 : (a7_2, a7_3) = hh_fld (fun (i9 : Nat) (z : Int32 × Int32) => hl_X5_bestHeardAt_7 v r place i9 z.1 z.2) ((v 1 2).toNatClampNeg) ((-1), 0) := by rw [hsL_7, show (v 1 2).toNatClampNeg = nm from by rw [hh_T_M hT]; exact nI_clamp (by omega)]
        have ea7_2 : a7_2 = (hh_fld (fun (i9 : Nat) (z : Int32 × Int32) => hl_X5_bestHeardAt_7 v r place i9 z.1 z.2) ((v 1 2).toNatClampNeg) ((-1), 0)).1 := congrArg (fun z => z.1) hsL_7
        have ea7_3 : a7_3 = (hh_fld (fun (i9 : Nat) (z : Int32 × Int32) => hl_X5_bestHeardAt_7 v r place i9 z.1 z.2) ((v 1 2).toNatClampNeg) ((-1), 0)).2 := congrArg (fun z => z.2) hsL_7
        clear ih hsL_7
        refine lv_iload_n hx hb dX5_bestHeardAt_46 rfl (lv_at hl 2 rfl) ?_
        exact hh_iret C0 hp dX5_bestHeardAt_47 ⟨(by unfold hf_X5_bestHeardAt; rw [hh_let_eq ea7_2, hh_let_eq ea7_3]), rfl, (by assumption)⟩
      · have hbc_16 : (v 1 2) = nI nm := hh_T_M hT
        rw [hbc_16] at c_16
        have hc_16 := (nI_leI (a := nm) (b := i) (by omega) (by omega))
        have hltc_16 : i < nm := by exact Nat.not_le.mp (fun z => c_16 (hc_16.mpr z))
        refine lv_aload_n hx hb dX5_bestHeardAt_19 rfl (lv_at hl 3 rfl) ?_
        refine lv_iload hx hb dX5_bestHeardAt_20 (lv_at hl 0 rfl) ?_
        refine lv_iload_n hx hb dX5_bestHeardAt_22 rfl (lv_at hl 4 rfl) ?_
        refine hh_cVi C0 hp (As := [.int (nI i), .int place]) (rest := []) (C := RX5) (T := TX5) (N := 10) (ci := 5) (n := 2) (hk_X5_qualityAt l D K ad hT r (nI i) place hr (vp_in_nI (by omega) (by decide)) (by assumption)) rfl (hh_b_r hr) (hh_E_r r) (hh_gV hm_125 hm_126 hm_127 hm_128 hm_122) ⟨rfl, rfl⟩ (by decide +kernel) ⟨Nat.le_of_ble_eq_true rfl, Nat.le_of_ble_eq_true rfl⟩ ⟨Nat.zero_le _, Nat.zero_le _⟩ hl.1 rfl rfl (Nat.le_of_ble_eq_true rfl) dX5_bestHeardAt_23 (fun q_23 v_23 H locs hv_23 hp => ?_)
        obtain ⟨eq_23, hv9⟩ := hv_23
        rw [hv9] at hp; clear hv9
        refine lv_istore (lv' := [(5, .int q_23), (4, .int (nI i)), (3, .int a7_3), (2, .int a7_2), (0, .ref (ad (hh_rI r))), (1, .int place)]) hx hb dX5_bestHeardAt_26 hl (by decide) rfl (fun ls hl => ?_)
        refine lv_iload hx hb dX5_bestHeardAt_28 (lv_at hl 0 rfl) ?_
        refine lv_iload_n hx hb dX5_bestHeardAt_30 rfl (lv_at hl 2 rfl) ?_
        refine lv_icmp_le (tgt := 40) hx hb dX5_bestHeardAt_31 (by decide) (fun c_31 => ?_) (fun c_31 => ?_)
        · refine lv_iinc (v := (nI (i + 1))) (lv' := [(4, .int (nI (i + 1))), (5, .int q_23), (3, .int a7_3), (2, .int a7_2), (0, .ref (ad (hh_rI r))), (1, .int place)]) hx hb dX5_bestHeardAt_40 hl (k := 1) rfl (nI_1 i) (by decide) rfl (fun ls hl => ?_)
          refine lv_goto (tgt := 7) hx hb dX5_bestHeardAt_43 (by decide) ?_
          exact ih (i + 1) a7_2 a7_3 _ _ _ (by omega) (by omega) (by rw [hh_fld, ← hsL_7]; show _ = hl_X5_bestHeardAt_7 v r place i a7_2 a7_3; unfold hl_X5_bestHeardAt_7; rw [hh_let_eq eq_23, if_pos c_31]) hp (lv_sub hl [0, 2, 3, 4, 5] rfl) (by first | assumption | exact hh_rg (by omega) (by omega))
        · refine lv_iload hx hb dX5_bestHeardAt_34 (lv_at hl 1 rfl) ?_
          refine lv_istore_n (lv' := [(2, .int (nI i)), (5, .int q_23), (4, .int (nI i)), (3, .int a7_3), (0, .ref (ad (hh_rI r))), (1, .int place)]) hx hb dX5_bestHeardAt_36 rfl hl (by decide) rfl (fun ls hl => ?_)
          refine lv_iload hx hb dX5_bestHeardAt_37 (lv_at hl 1 rfl) ?_
          refine lv_istore_n (lv' := [(3, .int q_23), (2, .int (nI i)), (5, .int q_23), (4, .int (nI i)), (0, .ref (ad (hh_rI r))), (1, .int place)]) hx hb dX5_bestHeardAt_39 rfl hl (by decide) rfl (fun ls hl => ?_)
          refine lv_iinc (v := (nI (i + 1))) (lv' := [(4, .int (nI (i + 1))), (3, .int q_23), (2, .int (nI i)), (5, .int q_23), (0, .ref (ad (hh_rI r))), (1, .int place)]) hx hb dX5_bestHeardAt_40 hl (k := 3) rfl (nI_1 i) (by decide) rfl (fun ls hl => ?_)
          refine lv_goto (tgt := 7) hx hb dX5_bestHeardAt_43 (by decide) ?_
          exact ih (i + 1) (nI i) q_23 _ _ _ (by omega) (by omega) (by rw [hh_fld, ← hsL_7]; show _ = hl_X5_bestHeardAt_7 v r place i a7_2 a7_3; unfold hl_X5_bestHeardAt_7; rw [hh_let_eq eq_23, if_neg c_31]) hp (lv_sub hl [0, 1, 2, 4, 5] rfl) (by first | assumption | exact hh_rg (by omega) (by omega))
  exact hL_7 (nm + 1) 0 (-1) 0 _ _ _ (Nat.zero_le _) (by omega) rfl hp (lv_sub hl [0, 1, 2, 3, 4] rfl) (by exact hh_rg0 (by omega))
