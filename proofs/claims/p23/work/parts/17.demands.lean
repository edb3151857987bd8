/-! 17.demands: laid by program (wip/gen/mk10.py) -/
set_option maxHeartbeats 4000000 in
set_option maxRecDepth 100000 in
theorem hk_X7_demandNumber (l : Launch) (D : va_G) (K : Nat → ClassId) (ad : Nat → Nat) {nm : Nat} {nh nc : Nat → Nat} {v : hh_M} (hT : hh_T nm nh nc v) (number : Int32) (count : Int32) (h0 : 0 ≤ number) (h1 : number < count) : hh_Kv l D K ad yX7_demandNumber (hh_wm yX7_demandNumber cX7_demandNumber 2 none) { frames := 0, cells := 0, slots := 0, locals := 0 } [.int number, .int count] v (fun (v1 : hh_M) => v1 = v) := by
  refine hh_Kv_of (by decide) (Nat.le_of_ble_eq_true rfl) ?_
  intro p e s m args below meth c ls A C0 hp hl
  obtain ⟨hx, hb, hr9, hml, hown, hts, hK, hlk, hA⟩ := id C0
  have hnm := hT.1
  have hnh := hT.2.1
  have hnc := hT.2.2.1
  have hl : lv_has ls 2 [(0, .int number), (1, .int count)] := hl
  refine lv_iload_n hx hb dX7_demandNumber_0 rfl (lv_at hl 0 rfl) ?_
  refine lv_if_lt (tgt := 9) hx hb dX7_demandNumber_1 (by decide) (fun c_1 => ?_) (fun c_1 => ?_)
  · exact absurd c_1 (Int32.not_lt.mpr h0)
  · refine lv_iload_n hx hb dX7_demandNumber_4 rfl (lv_at hl 0 rfl) ?_
    refine lv_iload_n hx hb dX7_demandNumber_5 rfl (lv_at hl 1 rfl) ?_
    refine lv_icmp_lt (tgt := 20) hx hb dX7_demandNumber_6 (by decide) (fun c_6 => ?_) (fun c_6 => ?_)
    · exact hh_vret C0 hp dX7_demandNumber_20 rfl
    · exact absurd h1 c_6
set_option maxHeartbeats 4000000 in
set_option maxRecDepth 100000 in
theorem hk_X7_demandWithin (l : Launch) (D : va_G) (K : Nat → ClassId) (ad : Nat → Nat) {nm : Nat} {nh nc : Nat → Nat} {v : hh_M} (hT : hh_T nm nh nc v) (value : Int32) (least : Int32) (most : Int32) (h0 : least ≤ value) (h1 : value ≤ most) : hh_Kv l D K ad yX7_demandWithin (hh_wm yX7_demandWithin cX7_demandWithin 3 none) { frames := 0, cells := 0, slots := 0, locals := 0 } [.int value, .int least, .int most] v (fun (v1 : hh_M) => v1 = v) := by
  refine hh_Kv_of (by decide) (Nat.le_of_ble_eq_true rfl) ?_
  intro p e s m args below meth c ls A C0 hp hl
  obtain ⟨hx, hb, hr9, hml, hown, hts, hK, hlk, hA⟩ := id C0
  have hnm := hT.1
  have hnh := hT.2.1
  have hnc := hT.2.2.1
  have hl : lv_has ls 3 [(0, .int value), (1, .int least), (2, .int most)] := hl
  refine lv_iload_n hx hb dX7_demandWithin_0 rfl (lv_at hl 0 rfl) ?_
  refine lv_iload_n hx hb dX7_demandWithin_1 rfl (lv_at hl 1 rfl) ?_
  refine lv_icmp_lt (tgt := 10) hx hb dX7_demandWithin_2 (by decide) (fun c_2 => ?_) (fun c_2 => ?_)
  · exact absurd c_2 (Int32.not_lt.mpr h0)
  · refine lv_iload_n hx hb dX7_demandWithin_5 rfl (lv_at hl 0 rfl) ?_
    refine lv_iload_n hx hb dX7_demandWithin_6 rfl (lv_at hl 2 rfl) ?_
    refine lv_icmp_le (tgt := 21) hx hb dX7_demandWithin_7 (by decide) (fun c_7 => ?_) (fun c_7 => ?_)
    · exact hh_vret C0 hp dX7_demandWithin_21 rfl
    · exact absurd h1 c_7
set_option maxHeartbeats 4000000 in
set_option maxRecDepth 100000 in
theorem hk_X7_demandOthers (l : Launch) (D : va_G) (K : Nat → ClassId) (ad : Nat → Nat) {nm : Nat} {nh nc : Nat → Nat} {v : hh_M} (hT : hh_T nm nh nc v) (from_ : Int32) (to_ : Int32) (h0 : ¬ from_ = to_) : hh_Kv l D K ad yX7_demandOthers (hh_wm yX7_demandOthers cX7_demandOthers 2 none) { frames := 0, cells := 0, slots := 0, locals := 0 } [.int from_, .int to_] v (fun (v1 : hh_M) => v1 = v) := by
  refine hh_Kv_of (by decide) (Nat.le_of_ble_eq_true rfl) ?_
  intro p e s m args below meth c ls A C0 hp hl
  obtain ⟨hx, hb, hr9, hml, hown, hts, hK, hlk, hA⟩ := id C0
  have hnm := hT.1
  have hnh := hT.2.1
  have hnc := hT.2.2.1
  have hl : lv_has ls 2 [(0, .int from_), (1, .int to_)] := hl
  refine lv_iload_n hx hb dX7_demandOthers_0 rfl (lv_at hl 0 rfl) ?_
  refine lv_iload_n hx hb dX7_demandOthers_1 rfl (lv_at hl 1 rfl) ?_
  refine lv_icmp_ne (tgt := 16) hx hb dX7_demandOthers_2 (by decide) (fun c_2 => ?_) (fun c_2 => ?_)
  · exact hh_vret C0 hp dX7_demandOthers_16 rfl
  · exact absurd c_2 h0
set_option maxHeartbeats 4000000 in
set_option maxRecDepth 100000 in
theorem hk_X7_demandRoomForCall (l : Launch) (D : va_G) (K : Nat → ClassId) (ad : Nat → Nat) {nm : Nat} {nh nc : Nat → Nat} {v : hh_M} (hT : hh_T nm nh nc v) (h0 : nc 0 < 24) : hh_Kv l D K ad yX7_demandRoomForCall (hh_wm yX7_demandRoomForCall cX7_demandRoomForCall 1 none) { frames := 0, cells := 0, slots := 0, locals := 0 } [.ref (ad 0)] v (fun (v1 : hh_M) => v1 = v) := by
  refine hh_Kv_of (by decide) (Nat.le_of_ble_eq_true rfl) ?_
  intro p e s m args below meth c ls A C0 hp hl
  obtain ⟨hx, hb, hr9, hml, hown, hts, hK, hlk, hA⟩ := id C0
  have hnm := hT.1
  have hnh := hT.2.1
  have hnc := hT.2.2.1
  have hbH0 := hnh 0
  have hbC0 := hnc 0
  have hbH1 := hnh 1
  have hbC1 := hnc 1
  have hl : lv_has ls 1 [(0, .ref (ad 0))] := hl
  refine lv_aload_n hx hb dX7_demandRoomForCall_0 rfl (lv_at hl 0 rfl) ?_
  refine hh_get C0 hp (C := RX7) (T := TX7) (N := 4) (ci := 7) (by decide) hh_E_0 rfl hh_uX7 1 (by decide) hm_313 rfl rfl dX7_demandRoomForCall_1 ?_
  refine hh_get C0 hp (C := RX5) (T := TX5) (N := 10) (ci := 5) (hh_b_r (by decide : 0 < 2)) (hh_E_r 0) rfl hh_uX5 6 (by decide) hm_370 rfl rfl dX7_demandRoomForCall_4 ?_
  refine lv_bipush (v := 24) hx hb dX7_demandRoomForCall_7 (by decide) ?_
  refine lv_icmp_lt (tgt := 23) hx hb dX7_demandRoomForCall_9 (by decide) (fun c_9 => ?_) (fun c_9 => ?_)
  · exact hh_vret C0 hp dX7_demandRoomForCall_23 rfl
  · exact absurd (by rw [hh_T_r6 hT 0]; exact nI_lt h0 (by decide) : v (hh_rI 0) 6 < 24) c_9
