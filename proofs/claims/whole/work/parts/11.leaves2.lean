/-! 11.leaves2: laid by program (wip/gen/mk10.py) -/
def hf_X1_move (v : hh_M) (r : Nat) (i : Nat) : hh_M := (let v_10 := hh_up v (hh_hI r i) 1 ((v (hh_hI r i) 1) + (v (hh_hI r i) 2)); (if 0 ≤ (v_10 (hh_hI r i) 1) then (if (v_10 (hh_hI r i) 1) ≤ 99 then v_10 else (let v_59 := hh_up v_10 (hh_hI r i) 1 (198 - (v_10 (hh_hI r i) 1)); (let v_68 := hh_up v_59 (hh_hI r i) 2 (-(v_59 (hh_hI r i) 2)); v_68))) else (let v_26 := hh_up v_10 (hh_hI r i) 1 (-(v_10 (hh_hI r i) 1)); (let v_35 := hh_up v_26 (hh_hI r i) 2 (-(v_26 (hh_hI r i) 2)); v_35))))
theorem ht_X1_move {nm : Nat} {nh nc : Nat → Nat} {v : hh_M} (hT : hh_T nm nh nc v) {r i : Nat} (hr : r < 2) (hi : i < 8) : hh_T nm nh nc (hf_X1_move v r i) := by sorry
set_option maxHeartbeats 4000000 in
set_option maxRecDepth 100000 in
theorem hk_X1_move (l : Launch) (D : va_G) (K : Nat → ClassId) (ad : Nat → Nat) {nm : Nat} {nh nc : Nat → Nat} {v : hh_M} (hT : hh_T nm nh nc v) (r : Nat) (i : Nat) (hr : r < 2) (hi : i < 8) : hh_Kv l D K ad yX1_move (hh_wm yX1_move cX1_move 1 none) { frames := 0, cells := 0, slots := 0, locals := 0 } [.ref (ad (hh_hI r i))] v (fun (v1 : hh_M) => v1 = hf_X1_move v r i ∧ hh_T nm nh nc v1) := by
  refine hh_Kv_of (by decide) (Nat.le_of_ble_eq_true rfl) ?_
  intro p e s m args below meth c ls A C0 hp hl
  obtain ⟨hx, hb, hr9, hml, hown, hts, hK, hlk, hA⟩ := id C0
  have hnm := hT.1
  have hnh := hT.2.1
  have hnc := hT.2.2.1
  have hl : lv_has ls 1 [(0, .ref (ad (hh_hI r i)))] := hl
  refine lv_aload_n hx hb dX1_move_0 rfl (lv_at hl 0 rfl) ?_
  refine lv_dup hx hb dX1_move_1 rfl ?_
  refine hh_get C0 hp (C := RX1) (T := TX1) (N := 13) (ci := 1) (hh_b_h hr hi) (hh_E_h r hi) rfl hh_uX1 1 (by decide) hm_41 rfl rfl dX1_move_2 ?_
  refine lv_aload_n hx hb dX1_move_5 rfl (lv_at hl 0 rfl) ?_
  refine hh_get C0 hp (C := RX1) (T := TX1) (N := 13) (ci := 1) (hh_b_h hr hi) (hh_E_h r hi) rfl hh_uX1 2 (by decide) hm_42 rfl rfl dX1_move_6 ?_
  refine lv_iadd hx hb dX1_move_9 ?_
  refine hh_put C0 hp (C := RX1) (T := TX1) (N := 13) (ci := 1) (k := 1) (ty := .int) (hh_b_h hr hi) (hh_E_h r hi) (hh_ph1 r hi) rfl hh_uX1 tyX1_ok nmX1 (by decide) hm_41 rfl rfl (by decide +kernel) rfl rfl (Nat.le_of_ble_eq_true rfl) dX1_move_10 (fun H locs hp => ?_)
  obtain ⟨v_10, ev_10⟩ : ∃ z : hh_M, z = hh_up v (hh_hI r i) 1 ((v (hh_hI r i) 1) + (v (hh_hI r i) 2)) := ⟨_, rfl⟩
  rw [← ev_10] at hp
  refine lv_aload_n hx hb dX1_move_13 rfl (lv_at hl 0 rfl) ?_
  refine hh_get C0 hp (C := RX1) (T := TX1) (N := 13) (ci := 1) (hh_b_h hr hi) (hh_E_h r hi) rfl hh_uX1 1 (by decide) hm_41 rfl rfl dX1_move_14 ?_
  refine lv_if_ge (tgt := 41) hx hb dX1_move_17 (by decide) (fun c_17 => ?_) (fun c_17 => ?_)
  · refine lv_aload_n hx hb dX1_move_41 rfl (lv_at hl 0 rfl) ?_
    refine hh_get C0 hp (C := RX1) (T := TX1) (N := 13) (ci := 1) (hh_b_h hr hi) (hh_E_h r hi) rfl hh_uX1 1 (by decide) hm_41 rfl rfl dX1_move_42 ?_
    refine lv_bipush (v := 99) hx hb dX1_move_45 (by decide) ?_
    refine lv_icmp_le (tgt := 71) hx hb dX1_move_47 (by decide) (fun c_47 => ?_) (fun c_47 => ?_)
    · exact hh_vret C0 hp dX1_move_71 ⟨(by show _ = _; subst ev_10; simp only [hf_X1_move, if_pos c_17, if_pos c_47]), (by have h9 : v_10 = hf_X1_move v r i := (by subst ev_10; simp only [hf_X1_move, if_pos c_17, if_pos c_47]); rw [h9]; exact ht_X1_move hT hr hi)⟩
    · refine lv_aload_n hx hb dX1_move_50 rfl (lv_at hl 0 rfl) ?_
      refine lv_sipush (v := 198) hx hb dX1_move_51 (by decide) ?_
      refine lv_aload_n hx hb dX1_move_54 rfl (lv_at hl 0 rfl) ?_
      refine hh_get C0 hp (C := RX1) (T := TX1) (N := 13) (ci := 1) (hh_b_h hr hi) (hh_E_h r hi) rfl hh_uX1 1 (by decide) hm_41 rfl rfl dX1_move_55 ?_
      refine lv_isub hx hb dX1_move_58 ?_
      refine hh_put C0 hp (C := RX1) (T := TX1) (N := 13) (ci := 1) (k := 1) (ty := .int) (hh_b_h hr hi) (hh_E_h r hi) (hh_ph1 r hi) rfl hh_uX1 tyX1_ok nmX1 (by decide) hm_41 rfl rfl (by decide +kernel) rfl rfl (Nat.le_of_ble_eq_true rfl) dX1_move_59 (fun H locs hp => ?_)
      obtain ⟨v_59, ev_59⟩ : ∃ z : hh_M, z = hh_up v_10 (hh_hI r i) 1 (198 - (v_10 (hh_hI r i) 1)) := ⟨_, rfl⟩
      rw [← ev_59] at hp
      refine lv_aload_n hx hb dX1_move_62 rfl (lv_at hl 0 rfl) ?_
      refine lv_aload_n hx hb dX1_move_63 rfl (lv_at hl 0 rfl) ?_
      refine hh_get C0 hp (C := RX1) (T := TX1) (N := 13) (ci := 1) (hh_b_h hr hi) (hh_E_h r hi) rfl hh_uX1 2 (by decide) hm_42 rfl rfl dX1_move_64 ?_
      refine lv_ineg hx hb dX1_move_67 ?_
      refine hh_put C0 hp (C := RX1) (T := TX1) (N := 13) (ci := 1) (k := 2) (ty := .int) (hh_b_h hr hi) (hh_E_h r hi) (hh_ph2 r hi) rfl hh_uX1 tyX1_ok nmX1 (by decide) hm_42 rfl rfl (by decide +kernel) rfl rfl (Nat.le_of_ble_eq_true rfl) dX1_move_68 (fun H locs hp => ?_)
      obtain ⟨v_68, ev_68⟩ : ∃ z : hh_M, z = hh_up v_59 (hh_hI r i) 2 (-(v_59 (hh_hI r i) 2)) := ⟨_, rfl⟩
      rw [← ev_68] at hp
      exact hh_vret C0 hp dX1_move_71 ⟨(by show _ = _; subst ev_10; subst ev_59; subst ev_68; simp only [hf_X1_move, if_pos c_17, if_neg c_47]), (by have h9 : v_68 = hf_X1_move v r i := (by subst ev_10; subst ev_59; subst ev_68; simp only [hf_X1_move, if_pos c_17, if_neg c_47]); rw [h9]; exact ht_X1_move hT hr hi)⟩
  · refine lv_aload_n hx hb dX1_move_20 rfl (lv_at hl 0 rfl) ?_
    refine lv_aload_n hx hb dX1_move_21 rfl (lv_at hl 0 rfl) ?_
    refine hh_get C0 hp (C := RX1) (T := TX1) (N := 13) (ci := 1) (hh_b_h hr hi) (hh_E_h r hi) rfl hh_uX1 1 (by decide) hm_41 rfl rfl dX1_move_22 ?_
    refine lv_ineg hx hb dX1_move_25 ?_
    refine hh_put C0 hp (C := RX1) (T := TX1) (N := 13) (ci := 1) (k := 1) (ty := .int) (hh_b_h hr hi) (hh_E_h r hi) (hh_ph1 r hi) rfl hh_uX1 tyX1_ok nmX1 (by decide) hm_41 rfl rfl (by decide +kernel) rfl rfl (Nat.le_of_ble_eq_true rfl) dX1_move_26 (fun H locs hp => ?_)
    obtain ⟨v_26, ev_26⟩ : ∃ z : hh_M, z = hh_up v_10 (hh_hI r i) 1 (-(v_10 (hh_hI r i) 1)) := ⟨_, rfl⟩
    rw [← ev_26] at hp
    refine lv_aload_n hx hb dX1_move_29 rfl (lv_at hl 0 rfl) ?_
    refine lv_aload_n hx hb dX1_move_30 rfl (lv_at hl 0 rfl) ?_
    refine hh_get C0 hp (C := RX1) (T := TX1) (N := 13) (ci := 1) (hh_b_h hr hi) (hh_E_h r hi) rfl hh_uX1 2 (by decide) hm_42 rfl rfl dX1_move_31 ?_
    refine lv_ineg hx hb dX1_move_34 ?_
    refine hh_put C0 hp (C := RX1) (T := TX1) (N := 13) (ci := 1) (k := 2) (ty := .int) (hh_b_h hr hi) (hh_E_h r hi) (hh_ph2 r hi) rfl hh_uX1 tyX1_ok nmX1 (by decide) hm_42 rfl rfl (by decide +kernel) rfl rfl (Nat.le_of_ble_eq_true rfl) dX1_move_35 (fun H locs hp => ?_)
    obtain ⟨v_35, ev_35⟩ : ∃ z : hh_M, z = hh_up v_26 (hh_hI r i) 2 (-(v_26 (hh_hI r i) 2)) := ⟨_, rfl⟩
    rw [← ev_35] at hp
    refine lv_goto (tgt := 71) hx hb dX1_move_38 (by decide) ?_
    exact hh_vret C0 hp dX1_move_71 ⟨(by show _ = _; subst ev_10; subst ev_26; subst ev_35; simp only [hf_X1_move, if_neg c_17]), (by have h9 : v_35 = hf_X1_move v r i := (by subst ev_10; subst ev_26; subst ev_35; simp only [hf_X1_move, if_neg c_17]); rw [h9]; exact ht_X1_move hT hr hi)⟩
def hf_X1_tell (v : hh_M) (r : Nat) (i : Nat) (area : Int32) (now : Int32) : hh_M := (let v_2 := hh_up v (hh_hI r i) 7 area; (let v_7 := hh_up v_2 (hh_hI r i) 8 area; (let v_12 := hh_up v_7 (hh_hI r i) 9 now; (let v_22 := hh_up v_12 (hh_hI r i) 10 ((v_12 (hh_hI r i) 10) + 1); v_22))))
set_option maxHeartbeats 4000000 in
set_option maxRecDepth 100000 in
theorem hk_X1_tell (l : Launch) (D : va_G) (K : Nat → ClassId) (ad : Nat → Nat) {nm : Nat} {nh nc : Nat → Nat} {v : hh_M} (hT : hh_T nm nh nc v) (r : Nat) (i : Nat) (area : Int32) (now : Int32) (hr : r < 2) (hi : i < 8) : hh_Kv l D K ad yX1_tell (hh_wm yX1_tell cX1_tell 3 none) { frames := 0, cells := 0, slots := 0, locals := 0 } [.ref (ad (hh_hI r i)), .int area, .int now] v (fun (v1 : hh_M) => v1 = hf_X1_tell v r i area now ∧ hh_T nm nh nc v1) := by
  refine hh_Kv_of (by decide) (Nat.le_of_ble_eq_true rfl) ?_
  intro p e s m args below meth c ls A C0 hp hl
  obtain ⟨hx, hb, hr9, hml, hown, hts, hK, hlk, hA⟩ := id C0
  have hnm := hT.1
  have hnh := hT.2.1
  have hnc := hT.2.2.1
  have hl : lv_has ls 3 [(0, .ref (ad (hh_hI r i))), (1, .int area), (2, .int now)] := hl
  refine lv_aload_n hx hb dX1_tell_0 rfl (lv_at hl 0 rfl) ?_
  refine lv_iload_n hx hb dX1_tell_1 rfl (lv_at hl 1 rfl) ?_
  refine hh_put C0 hp (C := RX1) (T := TX1) (N := 13) (ci := 1) (k := 7) (ty := .int) (hh_b_h hr hi) (hh_E_h r hi) (hh_ph7 r hi) rfl hh_uX1 tyX1_ok nmX1 (by decide) hm_36 rfl rfl (by decide +kernel) rfl rfl (Nat.le_of_ble_eq_true rfl) dX1_tell_2 (fun H locs hp => ?_)
  obtain ⟨v_2, ev_2⟩ : ∃ z : hh_M, z = hh_up v (hh_hI r i) 7 area := ⟨_, rfl⟩
  rw [← ev_2] at hp
  have hTv_2 : hh_T nm nh nc v_2 := by rw [ev_2]; exact hh_T_up hT (hh_Rt_h hr hi (by decide))
  refine lv_aload_n hx hb dX1_tell_5 rfl (lv_at hl 0 rfl) ?_
  refine lv_iload_n hx hb dX1_tell_6 rfl (lv_at hl 1 rfl) ?_
  refine hh_put C0 hp (C := RX1) (T := TX1) (N := 13) (ci := 1) (k := 8) (ty := .int) (hh_b_h hr hi) (hh_E_h r hi) (hh_ph8 r hi) rfl hh_uX1 tyX1_ok nmX1 (by decide) hm_37 rfl rfl (by decide +kernel) rfl rfl (Nat.le_of_ble_eq_true rfl) dX1_tell_7 (fun H locs hp => ?_)
  obtain ⟨v_7, ev_7⟩ : ∃ z : hh_M, z = hh_up v_2 (hh_hI r i) 8 area := ⟨_, rfl⟩
  rw [← ev_7] at hp
  have hTv_7 : hh_T nm nh nc v_7 := by rw [ev_7]; exact hh_T_up hTv_2 (hh_Rt_h hr hi (by decide))
  refine lv_aload_n hx hb dX1_tell_10 rfl (lv_at hl 0 rfl) ?_
  refine lv_iload_n hx hb dX1_tell_11 rfl (lv_at hl 2 rfl) ?_
  refine hh_put C0 hp (C := RX1) (T := TX1) (N := 13) (ci := 1) (k := 9) (ty := .int) (hh_b_h hr hi) (hh_E_h r hi) (hh_ph9 r hi) rfl hh_uX1 tyX1_ok nmX1 (by decide) hm_44 rfl rfl (by decide +kernel) rfl rfl (Nat.le_of_ble_eq_true rfl) dX1_tell_12 (fun H locs hp => ?_)
  obtain ⟨v_12, ev_12⟩ : ∃ z : hh_M, z = hh_up v_7 (hh_hI r i) 9 now := ⟨_, rfl⟩
  rw [← ev_12] at hp
  have hTv_12 : hh_T nm nh nc v_12 := by rw [ev_12]; exact hh_T_up hTv_7 (hh_Rt_h hr hi (by decide))
  refine lv_aload_n hx hb dX1_tell_15 rfl (lv_at hl 0 rfl) ?_
  refine lv_dup hx hb dX1_tell_16 rfl ?_
  refine hh_get C0 hp (C := RX1) (T := TX1) (N := 13) (ci := 1) (hh_b_h hr hi) (hh_E_h r hi) rfl hh_uX1 10 (by decide) hm_45 rfl rfl dX1_tell_17 ?_
  refine lv_iconst (v := 1) hx hb dX1_tell_20 (by decide) ?_
  refine lv_iadd hx hb dX1_tell_21 ?_
  refine hh_put C0 hp (C := RX1) (T := TX1) (N := 13) (ci := 1) (k := 10) (ty := .int) (hh_b_h hr hi) (hh_E_h r hi) (hh_ph10 r hi) rfl hh_uX1 tyX1_ok nmX1 (by decide) hm_45 rfl rfl (by decide +kernel) rfl rfl (Nat.le_of_ble_eq_true rfl) dX1_tell_22 (fun H locs hp => ?_)
  obtain ⟨v_22, ev_22⟩ : ∃ z : hh_M, z = hh_up v_12 (hh_hI r i) 10 ((v_12 (hh_hI r i) 10) + 1) := ⟨_, rfl⟩
  rw [← ev_22] at hp
  have hTv_22 : hh_T nm nh nc v_22 := by rw [ev_22]; exact hh_T_up hTv_12 (hh_Rt_h hr hi (by decide))
  exact hh_vret C0 hp dX1_tell_25 ⟨(by show _ = _; subst ev_2; subst ev_7; subst ev_12; subst ev_22; simp only [hf_X1_tell]), hTv_22⟩
def hf_X1_copyFrom (v : hh_M) (r : Nat) (i : Nat) (r2 : Nat) (i2 : Nat) : hh_M := (let v_5 := hh_up v (hh_hI r i) 0 (v (hh_hI r2 i2) 0); (let v_13 := hh_up v_5 (hh_hI r i) 1 (v_5 (hh_hI r2 i2) 1); (let v_21 := hh_up v_13 (hh_hI r i) 2 (v_13 (hh_hI r2 i2) 2); (let v_29 := hh_up v_21 (hh_hI r i) 3 (v_21 (hh_hI r2 i2) 3); (let v_37 := hh_up v_29 (hh_hI r i) 4 (v_29 (hh_hI r2 i2) 4); (let v_45 := hh_up v_37 (hh_hI r i) 5 (v_37 (hh_hI r2 i2) 5); (let v_53 := hh_up v_45 (hh_hI r i) 6 (v_45 (hh_hI r2 i2) 6); (let v_61 := hh_up v_53 (hh_hI r i) 7 (v_53 (hh_hI r2 i2) 7); (let v_69 := hh_up v_61 (hh_hI r i) 8 (v_61 (hh_hI r2 i2) 8); (let v_77 := hh_up v_69 (hh_hI r i) 9 (v_69 (hh_hI r2 i2) 9); (let v_85 := hh_up v_77 (hh_hI r i) 10 (v_77 (hh_hI r2 i2) 10); (let v_93 := hh_up v_85 (hh_hI r i) 11 (v_85 (hh_hI r2 i2) 11); (let v_101 := hh_up v_93 (hh_hI r i) 12 (v_93 (hh_hI r2 i2) 12); v_101)))))))))))))
set_option maxHeartbeats 4000000 in
set_option maxRecDepth 100000 in
theorem hk_X1_copyFrom (l : Launch) (D : va_G) (K : Nat → ClassId) (ad : Nat → Nat) {nm : Nat} {nh nc : Nat → Nat} {v : hh_M} (hT : hh_T nm nh nc v) (r : Nat) (i : Nat) (r2 : Nat) (i2 : Nat) (hr : r < 2) (hi : i < 8) (hr2 : r2 < 2) (hi2 : i2 < 8) : hh_Kv l D K ad yX1_copyFrom (hh_wm yX1_copyFrom cX1_copyFrom 2 none) { frames := 0, cells := 0, slots := 0, locals := 0 } [.ref (ad (hh_hI r i)), .ref (ad (hh_hI r2 i2))] v (fun (v1 : hh_M) => v1 = hf_X1_copyFrom v r i r2 i2 ∧ hh_T nm nh nc v1) := by
  refine hh_Kv_of (by decide) (Nat.le_of_ble_eq_true rfl) ?_
  intro p e s m args below meth c ls A C0 hp hl
  obtain ⟨hx, hb, hr9, hml, hown, hts, hK, hlk, hA⟩ := id C0
  have hnm := hT.1
  have hnh := hT.2.1
  have hnc := hT.2.2.1
  have hl : lv_has ls 2 [(0, .ref (ad (hh_hI r i))), (1, .ref (ad (hh_hI r2 i2)))] := hl
  refine lv_aload_n hx hb dX1_copyFrom_0 rfl (lv_at hl 0 rfl) ?_
  refine lv_aload_n hx hb dX1_copyFrom_1 rfl (lv_at hl 1 rfl) ?_
  refine hh_get C0 hp (C := RX1) (T := TX1) (N := 13) (ci := 1) (hh_b_h hr2 hi2) (hh_E_h r2 hi2) rfl hh_uX1 0 (by decide) hm_47 rfl rfl dX1_copyFrom_2 ?_
  refine hh_put C0 hp (C := RX1) (T := TX1) (N := 13) (ci := 1) (k := 0) (ty := .int) (hh_b_h hr hi) (hh_E_h r hi) (hh_ph0 r hi) rfl hh_uX1 tyX1_ok nmX1 (by decide) hm_47 rfl rfl (by decide +kernel) rfl rfl (Nat.le_of_ble_eq_true rfl) dX1_copyFrom_5 (fun H locs hp => ?_)
  obtain ⟨v_5, ev_5⟩ : ∃ z : hh_M, z = hh_up v (hh_hI r i) 0 (v (hh_hI r2 i2) 0) := ⟨_, rfl⟩
  rw [← ev_5] at hp
  have hTv_5 : hh_T nm nh nc v_5 := by rw [ev_5]; exact hh_T_up hT (hh_Rt_h hr hi (by decide))
  refine lv_aload_n hx hb dX1_copyFrom_8 rfl (lv_at hl 0 rfl) ?_
  refine lv_aload_n hx hb dX1_copyFrom_9 rfl (lv_at hl 1 rfl) ?_
  refine hh_get C0 hp (C := RX1) (T := TX1) (N := 13) (ci := 1) (hh_b_h hr2 hi2) (hh_E_h r2 hi2) rfl hh_uX1 1 (by decide) hm_41 rfl rfl dX1_copyFrom_10 ?_
  refine hh_put C0 hp (C := RX1) (T := TX1) (N := 13) (ci := 1) (k := 1) (ty := .int) (hh_b_h hr hi) (hh_E_h r hi) (hh_ph1 r hi) rfl hh_uX1 tyX1_ok nmX1 (by decide) hm_41 rfl rfl (by decide +kernel) rfl rfl (Nat.le_of_ble_eq_true rfl) dX1_copyFrom_13 (fun H locs hp => ?_)
  obtain ⟨v_13, ev_13⟩ : ∃ z : hh_M, z = hh_up v_5 (hh_hI r i) 1 (v_5 (hh_hI r2 i2) 1) := ⟨_, rfl⟩
  rw [← ev_13] at hp
  have hTv_13 : hh_T nm nh nc v_13 := by rw [ev_13]; exact hh_T_up hTv_5 (hh_R_h1 hr hi (hh_T_h1 hTv_5 r2 hi2))
  refine lv_aload_n hx hb dX1_copyFrom_16 rfl (lv_at hl 0 rfl) ?_
  refine lv_aload_n hx hb dX1_copyFrom_17 rfl (lv_at hl 1 rfl) ?_
  refine hh_get C0 hp (C := RX1) (T := TX1) (N := 13) (ci := 1) (hh_b_h hr2 hi2) (hh_E_h r2 hi2) rfl hh_uX1 2 (by decide) hm_42 rfl rfl dX1_copyFrom_18 ?_
  refine hh_put C0 hp (C := RX1) (T := TX1) (N := 13) (ci := 1) (k := 2) (ty := .int) (hh_b_h hr hi) (hh_E_h r hi) (hh_ph2 r hi) rfl hh_uX1 tyX1_ok nmX1 (by decide) hm_42 rfl rfl (by decide +kernel) rfl rfl (Nat.le_of_ble_eq_true rfl) dX1_copyFrom_21 (fun H locs hp => ?_)
  obtain ⟨v_21, ev_21⟩ : ∃ z : hh_M, z = hh_up v_13 (hh_hI r i) 2 (v_13 (hh_hI r2 i2) 2) := ⟨_, rfl⟩
  rw [← ev_21] at hp
  have hTv_21 : hh_T nm nh nc v_21 := by rw [ev_21]; exact hh_T_up hTv_13 (hh_R_h2 hr hi (hh_T_h2 hTv_13 r2 hi2))
  refine lv_aload_n hx hb dX1_copyFrom_24 rfl (lv_at hl 0 rfl) ?_
  refine lv_aload_n hx hb dX1_copyFrom_25 rfl (lv_at hl 1 rfl) ?_
  refine hh_get C0 hp (C := RX1) (T := TX1) (N := 13) (ci := 1) (hh_b_h hr2 hi2) (hh_E_h r2 hi2) rfl hh_uX1 3 (by decide) hm_48 rfl rfl dX1_copyFrom_26 ?_
  refine hh_put C0 hp (C := RX1) (T := TX1) (N := 13) (ci := 1) (k := 3) (ty := .int) (hh_b_h hr hi) (hh_E_h r hi) (hh_ph3 r hi) rfl hh_uX1 tyX1_ok nmX1 (by decide) hm_48 rfl rfl (by decide +kernel) rfl rfl (Nat.le_of_ble_eq_true rfl) dX1_copyFrom_29 (fun H locs hp => ?_)
  obtain ⟨v_29, ev_29⟩ : ∃ z : hh_M, z = hh_up v_21 (hh_hI r i) 3 (v_21 (hh_hI r2 i2) 3) := ⟨_, rfl⟩
  rw [← ev_29] at hp
  have hTv_29 : hh_T nm nh nc v_29 := by rw [ev_29]; exact hh_T_up hTv_21 (hh_Rt_h hr hi (by decide))
  refine lv_aload_n hx hb dX1_copyFrom_32 rfl (lv_at hl 0 rfl) ?_
  refine lv_aload_n hx hb dX1_copyFrom_33 rfl (lv_at hl 1 rfl) ?_
  refine hh_get C0 hp (C := RX1) (T := TX1) (N := 13) (ci := 1) (hh_b_h hr2 hi2) (hh_E_h r2 hi2) rfl hh_uX1 4 (by decide) hm_39 rfl rfl dX1_copyFrom_34 ?_
  refine hh_put C0 hp (C := RX1) (T := TX1) (N := 13) (ci := 1) (k := 4) (ty := .boolean) (hh_b_h hr hi) (hh_E_h r hi) (hh_ph4 r hi) rfl hh_uX1 tyX1_ok nmX1 (by decide) hm_39 rfl rfl (by decide +kernel) (hh_nz (hh_T_h4 hTv_29 r2 hi2)) (hh_fz (hh_T_h4 hTv_29 r2 hi2)) (Nat.le_of_ble_eq_true rfl) dX1_copyFrom_37 (fun H locs hp => ?_)
  obtain ⟨v_37, ev_37⟩ : ∃ z : hh_M, z = hh_up v_29 (hh_hI r i) 4 (v_29 (hh_hI r2 i2) 4) := ⟨_, rfl⟩
  rw [← ev_37] at hp
  have hTv_37 : hh_T nm nh nc v_37 := by rw [ev_37]; exact hh_T_up hTv_29 (hh_R_h4 hr hi (hh_T_h4 hTv_29 r2 hi2))
  refine lv_aload_n hx hb dX1_copyFrom_40 rfl (lv_at hl 0 rfl) ?_
  refine lv_aload_n hx hb dX1_copyFrom_41 rfl (lv_at hl 1 rfl) ?_
  refine hh_get C0 hp (C := RX1) (T := TX1) (N := 13) (ci := 1) (hh_b_h hr2 hi2) (hh_E_h r2 hi2) rfl hh_uX1 5 (by decide) hm_34 rfl rfl dX1_copyFrom_42 ?_
  refine hh_put C0 hp (C := RX1) (T := TX1) (N := 13) (ci := 1) (k := 5) (ty := .int) (hh_b_h hr hi) (hh_E_h r hi) (hh_ph5 r hi) rfl hh_uX1 tyX1_ok nmX1 (by decide) hm_34 rfl rfl (by decide +kernel) rfl rfl (Nat.le_of_ble_eq_true rfl) dX1_copyFrom_45 (fun H locs hp => ?_)
  obtain ⟨v_45, ev_45⟩ : ∃ z : hh_M, z = hh_up v_37 (hh_hI r i) 5 (v_37 (hh_hI r2 i2) 5) := ⟨_, rfl⟩
  rw [← ev_45] at hp
  have hTv_45 : hh_T nm nh nc v_45 := by rw [ev_45]; exact hh_T_up hTv_37 (hh_R_h5 hr hi (hh_T_h5 hTv_37 r2 hi2))
  refine lv_aload_n hx hb dX1_copyFrom_48 rfl (lv_at hl 0 rfl) ?_
  refine lv_aload_n hx hb dX1_copyFrom_49 rfl (lv_at hl 1 rfl) ?_
  refine hh_get C0 hp (C := RX1) (T := TX1) (N := 13) (ci := 1) (hh_b_h hr2 hi2) (hh_E_h r2 hi2) rfl hh_uX1 6 (by decide) hm_35 rfl rfl dX1_copyFrom_50 ?_
  refine hh_put C0 hp (C := RX1) (T := TX1) (N := 13) (ci := 1) (k := 6) (ty := .int) (hh_b_h hr hi) (hh_E_h r hi) (hh_ph6 r hi) rfl hh_uX1 tyX1_ok nmX1 (by decide) hm_35 rfl rfl (by decide +kernel) rfl rfl (Nat.le_of_ble_eq_true rfl) dX1_copyFrom_53 (fun H locs hp => ?_)
  obtain ⟨v_53, ev_53⟩ : ∃ z : hh_M, z = hh_up v_45 (hh_hI r i) 6 (v_45 (hh_hI r2 i2) 6) := ⟨_, rfl⟩
  rw [← ev_53] at hp
  have hTv_53 : hh_T nm nh nc v_53 := by rw [ev_53]; exact hh_T_up hTv_45 (hh_R_h6 hr hi (hh_T_h6 hTv_45 r2 hi2))
  refine lv_aload_n hx hb dX1_copyFrom_56 rfl (lv_at hl 0 rfl) ?_
  refine lv_aload_n hx hb dX1_copyFrom_57 rfl (lv_at hl 1 rfl) ?_
  refine hh_get C0 hp (C := RX1) (T := TX1) (N := 13) (ci := 1) (hh_b_h hr2 hi2) (hh_E_h r2 hi2) rfl hh_uX1 7 (by decide) hm_36 rfl rfl dX1_copyFrom_58 ?_
  refine hh_put C0 hp (C := RX1) (T := TX1) (N := 13) (ci := 1) (k := 7) (ty := .int) (hh_b_h hr hi) (hh_E_h r hi) (hh_ph7 r hi) rfl hh_uX1 tyX1_ok nmX1 (by decide) hm_36 rfl rfl (by decide +kernel) rfl rfl (Nat.le_of_ble_eq_true rfl) dX1_copyFrom_61 (fun H locs hp => ?_)
  obtain ⟨v_61, ev_61⟩ : ∃ z : hh_M, z = hh_up v_53 (hh_hI r i) 7 (v_53 (hh_hI r2 i2) 7) := ⟨_, rfl⟩
  rw [← ev_61] at hp
  have hTv_61 : hh_T nm nh nc v_61 := by rw [ev_61]; exact hh_T_up hTv_53 (hh_Rt_h hr hi (by decide))
  refine lv_aload_n hx hb dX1_copyFrom_64 rfl (lv_at hl 0 rfl) ?_
  refine lv_aload_n hx hb dX1_copyFrom_65 rfl (lv_at hl 1 rfl) ?_
  refine hh_get C0 hp (C := RX1) (T := TX1) (N := 13) (ci := 1) (hh_b_h hr2 hi2) (hh_E_h r2 hi2) rfl hh_uX1 8 (by decide) hm_37 rfl rfl dX1_copyFrom_66 ?_
  refine hh_put C0 hp (C := RX1) (T := TX1) (N := 13) (ci := 1) (k := 8) (ty := .int) (hh_b_h hr hi) (hh_E_h r hi) (hh_ph8 r hi) rfl hh_uX1 tyX1_ok nmX1 (by decide) hm_37 rfl rfl (by decide +kernel) rfl rfl (Nat.le_of_ble_eq_true rfl) dX1_copyFrom_69 (fun H locs hp => ?_)
  obtain ⟨v_69, ev_69⟩ : ∃ z : hh_M, z = hh_up v_61 (hh_hI r i) 8 (v_61 (hh_hI r2 i2) 8) := ⟨_, rfl⟩
  rw [← ev_69] at hp
  have hTv_69 : hh_T nm nh nc v_69 := by rw [ev_69]; exact hh_T_up hTv_61 (hh_Rt_h hr hi (by decide))
  refine lv_aload_n hx hb dX1_copyFrom_72 rfl (lv_at hl 0 rfl) ?_
  refine lv_aload_n hx hb dX1_copyFrom_73 rfl (lv_at hl 1 rfl) ?_
  refine hh_get C0 hp (C := RX1) (T := TX1) (N := 13) (ci := 1) (hh_b_h hr2 hi2) (hh_E_h r2 hi2) rfl hh_uX1 9 (by decide) hm_44 rfl rfl dX1_copyFrom_74 ?_
  refine hh_put C0 hp (C := RX1) (T := TX1) (N := 13) (ci := 1) (k := 9) (ty := .int) (hh_b_h hr hi) (hh_E_h r hi) (hh_ph9 r hi) rfl hh_uX1 tyX1_ok nmX1 (by decide) hm_44 rfl rfl (by decide +kernel) rfl rfl (Nat.le_of_ble_eq_true rfl) dX1_copyFrom_77 (fun H locs hp => ?_)
  obtain ⟨v_77, ev_77⟩ : ∃ z : hh_M, z = hh_up v_69 (hh_hI r i) 9 (v_69 (hh_hI r2 i2) 9) := ⟨_, rfl⟩
  rw [← ev_77] at hp
  have hTv_77 : hh_T nm nh nc v_77 := by rw [ev_77]; exact hh_T_up hTv_69 (hh_Rt_h hr hi (by decide))
  refine lv_aload_n hx hb dX1_copyFrom_80 rfl (lv_at hl 0 rfl) ?_
  refine lv_aload_n hx hb dX1_copyFrom_81 rfl (lv_at hl 1 rfl) ?_
  refine hh_get C0 hp (C := RX1) (T := TX1) (N := 13) (ci := 1) (hh_b_h hr2 hi2) (hh_E_h r2 hi2) rfl hh_uX1 10 (by decide) hm_45 rfl rfl dX1_copyFrom_82 ?_
  refine hh_put C0 hp (C := RX1) (T := TX1) (N := 13) (ci := 1) (k := 10) (ty := .int) (hh_b_h hr hi) (hh_E_h r hi) (hh_ph10 r hi) rfl hh_uX1 tyX1_ok nmX1 (by decide) hm_45 rfl rfl (by decide +kernel) rfl rfl (Nat.le_of_ble_eq_true rfl) dX1_copyFrom_85 (fun H locs hp => ?_)
  obtain ⟨v_85, ev_85⟩ : ∃ z : hh_M, z = hh_up v_77 (hh_hI r i) 10 (v_77 (hh_hI r2 i2) 10) := ⟨_, rfl⟩
  rw [← ev_85] at hp
  have hTv_85 : hh_T nm nh nc v_85 := by rw [ev_85]; exact hh_T_up hTv_77 (hh_Rt_h hr hi (by decide))
  refine lv_aload_n hx hb dX1_copyFrom_88 rfl (lv_at hl 0 rfl) ?_
  refine lv_aload_n hx hb dX1_copyFrom_89 rfl (lv_at hl 1 rfl) ?_
  refine hh_get C0 hp (C := RX1) (T := TX1) (N := 13) (ci := 1) (hh_b_h hr2 hi2) (hh_E_h r2 hi2) rfl hh_uX1 11 (by decide) hm_49 rfl rfl dX1_copyFrom_90 ?_
  refine hh_put C0 hp (C := RX1) (T := TX1) (N := 13) (ci := 1) (k := 11) (ty := .int) (hh_b_h hr hi) (hh_E_h r hi) (hh_ph11 r hi) rfl hh_uX1 tyX1_ok nmX1 (by decide) hm_49 rfl rfl (by decide +kernel) rfl rfl (Nat.le_of_ble_eq_true rfl) dX1_copyFrom_93 (fun H locs hp => ?_)
  obtain ⟨v_93, ev_93⟩ : ∃ z : hh_M, z = hh_up v_85 (hh_hI r i) 11 (v_85 (hh_hI r2 i2) 11) := ⟨_, rfl⟩
  rw [← ev_93] at hp
  have hTv_93 : hh_T nm nh nc v_93 := by rw [ev_93]; exact hh_T_up hTv_85 (hh_Rt_h hr hi (by decide))
  refine lv_aload_n hx hb dX1_copyFrom_96 rfl (lv_at hl 0 rfl) ?_
  refine lv_aload_n hx hb dX1_copyFrom_97 rfl (lv_at hl 1 rfl) ?_
  refine hh_get C0 hp (C := RX1) (T := TX1) (N := 13) (ci := 1) (hh_b_h hr2 hi2) (hh_E_h r2 hi2) rfl hh_uX1 12 (by decide) hm_50 rfl rfl dX1_copyFrom_98 ?_
  refine hh_put C0 hp (C := RX1) (T := TX1) (N := 13) (ci := 1) (k := 12) (ty := .int) (hh_b_h hr hi) (hh_E_h r hi) (hh_ph12 r hi) rfl hh_uX1 tyX1_ok nmX1 (by decide) hm_50 rfl rfl (by decide +kernel) rfl rfl (Nat.le_of_ble_eq_true rfl) dX1_copyFrom_101 (fun H locs hp => ?_)
  obtain ⟨v_101, ev_101⟩ : ∃ z : hh_M, z = hh_up v_93 (hh_hI r i) 12 (v_93 (hh_hI r2 i2) 12) := ⟨_, rfl⟩
  rw [← ev_101] at hp
  have hTv_101 : hh_T nm nh nc v_101 := by rw [ev_101]; exact hh_T_up hTv_93 (hh_Rt_h hr hi (by decide))
  exact hh_vret C0 hp dX1_copyFrom_104 ⟨(by show _ = _; subst ev_5; subst ev_13; subst ev_21; subst ev_29; subst ev_37; subst ev_45; subst ev_53; subst ev_61; subst ev_69; subst ev_77; subst ev_85; subst ev_93; subst ev_101; simp only [hf_X1_copyFrom]), hTv_101⟩
def hf_X2_copyFrom (v : hh_M) (r : Nat) (i : Nat) (g : Nat) (r2 : Nat) (i2 : Nat) (g2 : Nat) : hh_M := (let v_5 := hh_up v (hh_gI r i g) 0 (v (hh_gI r2 i2 g2) 0); (let v_13 := hh_up v_5 (hh_gI r i g) 1 (v_5 (hh_gI r2 i2 g2) 1); (let v_21 := hh_up v_13 (hh_gI r i g) 2 (v_13 (hh_gI r2 i2 g2) 2); (let v_29 := hh_up v_21 (hh_gI r i g) 3 (v_21 (hh_gI r2 i2 g2) 3); (let v_37 := hh_up v_29 (hh_gI r i g) 4 (v_29 (hh_gI r2 i2 g2) 4); (let v_45 := hh_up v_37 (hh_gI r i g) 5 (v_37 (hh_gI r2 i2 g2) 5); v_45))))))
set_option maxHeartbeats 4000000 in
set_option maxRecDepth 100000 in
theorem hk_X2_copyFrom (l : Launch) (D : va_G) (K : Nat → ClassId) (ad : Nat → Nat) {nm : Nat} {nh nc : Nat → Nat} {v : hh_M} (hT : hh_T nm nh nc v) (r : Nat) (i : Nat) (g : Nat) (r2 : Nat) (i2 : Nat) (g2 : Nat) (hr : r < 2) (hi : i < 24) (hg : g < 2) (hr2 : r2 < 2) (hi2 : i2 < 24) (hg2 : g2 < 2) : hh_Kv l D K ad yX2_copyFrom (hh_wm yX2_copyFrom cX2_copyFrom 2 none) { frames := 0, cells := 0, slots := 0, locals := 0 } [.ref (ad (hh_gI r i g)), .ref (ad (hh_gI r2 i2 g2))] v (fun (v1 : hh_M) => v1 = hf_X2_copyFrom v r i g r2 i2 g2 ∧ hh_T nm nh nc v1) := by
  refine hh_Kv_of (by decide) (Nat.le_of_ble_eq_true rfl) ?_
  intro p e s m args below meth c ls A C0 hp hl
  obtain ⟨hx, hb, hr9, hml, hown, hts, hK, hlk, hA⟩ := id C0
  have hnm := hT.1
  have hnh := hT.2.1
  have hnc := hT.2.2.1
  have hl : lv_has ls 2 [(0, .ref (ad (hh_gI r i g))), (1, .ref (ad (hh_gI r2 i2 g2)))] := hl
  refine lv_aload_n hx hb dX2_copyFrom_0 rfl (lv_at hl 0 rfl) ?_
  refine lv_aload_n hx hb dX2_copyFrom_1 rfl (lv_at hl 1 rfl) ?_
  refine hh_get C0 hp (C := RX2) (T := TX2) (N := 6) (ci := 2) (hh_b_g hr2 hi2 hg2) (hh_E_g r2 hi2 hg2) rfl hh_uX2 0 (by decide) hm_13 rfl rfl dX2_copyFrom_2 ?_
  refine hh_put C0 hp (C := RX2) (T := TX2) (N := 6) (ci := 2) (k := 0) (ty := .int) (hh_b_g hr hi hg) (hh_E_g r hi hg) (hh_pg0 r hi hg) rfl hh_uX2 tyX2_ok nmX2 (by decide) hm_13 rfl rfl (by decide +kernel) rfl rfl (Nat.le_of_ble_eq_true rfl) dX2_copyFrom_5 (fun H locs hp => ?_)
  obtain ⟨v_5, ev_5⟩ : ∃ z : hh_M, z = hh_up v (hh_gI r i g) 0 (v (hh_gI r2 i2 g2) 0) := ⟨_, rfl⟩
  rw [← ev_5] at hp
  have hTv_5 : hh_T nm nh nc v_5 := by rw [ev_5]; exact hh_T_up hT (hh_R_g0 hr hi hg (hh_T_g0 hT r2 hi2 hg2))
  refine lv_aload_n hx hb dX2_copyFrom_8 rfl (lv_at hl 0 rfl) ?_
  refine lv_aload_n hx hb dX2_copyFrom_9 rfl (lv_at hl 1 rfl) ?_
  refine hh_get C0 hp (C := RX2) (T := TX2) (N := 6) (ci := 2) (hh_b_g hr2 hi2 hg2) (hh_E_g r2 hi2 hg2) rfl hh_uX2 1 (by decide) hm_14 rfl rfl dX2_copyFrom_10 ?_
  refine hh_put C0 hp (C := RX2) (T := TX2) (N := 6) (ci := 2) (k := 1) (ty := .int) (hh_b_g hr hi hg) (hh_E_g r hi hg) (hh_pg1 r hi hg) rfl hh_uX2 tyX2_ok nmX2 (by decide) hm_14 rfl rfl (by decide +kernel) rfl rfl (Nat.le_of_ble_eq_true rfl) dX2_copyFrom_13 (fun H locs hp => ?_)
  obtain ⟨v_13, ev_13⟩ : ∃ z : hh_M, z = hh_up v_5 (hh_gI r i g) 1 (v_5 (hh_gI r2 i2 g2) 1) := ⟨_, rfl⟩
  rw [← ev_13] at hp
  have hTv_13 : hh_T nm nh nc v_13 := by rw [ev_13]; exact hh_T_up hTv_5 (hh_R_g1 hr hi hg (hh_T_g1 hTv_5 r2 hi2 hg2))
  refine lv_aload_n hx hb dX2_copyFrom_16 rfl (lv_at hl 0 rfl) ?_
  refine lv_aload_n hx hb dX2_copyFrom_17 rfl (lv_at hl 1 rfl) ?_
  refine hh_get C0 hp (C := RX2) (T := TX2) (N := 6) (ci := 2) (hh_b_g hr2 hi2 hg2) (hh_E_g r2 hi2 hg2) rfl hh_uX2 2 (by decide) hm_27 rfl rfl dX2_copyFrom_18 ?_
  refine hh_put C0 hp (C := RX2) (T := TX2) (N := 6) (ci := 2) (k := 2) (ty := .int) (hh_b_g hr hi hg) (hh_E_g r hi hg) (hh_pg2 r hi hg) rfl hh_uX2 tyX2_ok nmX2 (by decide) hm_27 rfl rfl (by decide +kernel) rfl rfl (Nat.le_of_ble_eq_true rfl) dX2_copyFrom_21 (fun H locs hp => ?_)
  obtain ⟨v_21, ev_21⟩ : ∃ z : hh_M, z = hh_up v_13 (hh_gI r i g) 2 (v_13 (hh_gI r2 i2 g2) 2) := ⟨_, rfl⟩
  rw [← ev_21] at hp
  have hTv_21 : hh_T nm nh nc v_21 := by rw [ev_21]; exact hh_T_up hTv_13 (hh_Rt_g hr hi hg (by decide))
  refine lv_aload_n hx hb dX2_copyFrom_24 rfl (lv_at hl 0 rfl) ?_
  refine lv_aload_n hx hb dX2_copyFrom_25 rfl (lv_at hl 1 rfl) ?_
  refine hh_get C0 hp (C := RX2) (T := TX2) (N := 6) (ci := 2) (hh_b_g hr2 hi2 hg2) (hh_E_g r2 hi2 hg2) rfl hh_uX2 3 (by decide) hm_28 rfl rfl dX2_copyFrom_26 ?_
  refine hh_put C0 hp (C := RX2) (T := TX2) (N := 6) (ci := 2) (k := 3) (ty := .int) (hh_b_g hr hi hg) (hh_E_g r hi hg) (hh_pg3 r hi hg) rfl hh_uX2 tyX2_ok nmX2 (by decide) hm_28 rfl rfl (by decide +kernel) rfl rfl (Nat.le_of_ble_eq_true rfl) dX2_copyFrom_29 (fun H locs hp => ?_)
  obtain ⟨v_29, ev_29⟩ : ∃ z : hh_M, z = hh_up v_21 (hh_gI r i g) 3 (v_21 (hh_gI r2 i2 g2) 3) := ⟨_, rfl⟩
  rw [← ev_29] at hp
  have hTv_29 : hh_T nm nh nc v_29 := by rw [ev_29]; exact hh_T_up hTv_21 (hh_Rt_g hr hi hg (by decide))
  refine lv_aload_n hx hb dX2_copyFrom_32 rfl (lv_at hl 0 rfl) ?_
  refine lv_aload_n hx hb dX2_copyFrom_33 rfl (lv_at hl 1 rfl) ?_
  refine hh_get C0 hp (C := RX2) (T := TX2) (N := 6) (ci := 2) (hh_b_g hr2 hi2 hg2) (hh_E_g r2 hi2 hg2) rfl hh_uX2 4 (by decide) hm_15 rfl rfl dX2_copyFrom_34 ?_
  refine hh_put C0 hp (C := RX2) (T := TX2) (N := 6) (ci := 2) (k := 4) (ty := .int) (hh_b_g hr hi hg) (hh_E_g r hi hg) (hh_pg4 r hi hg) rfl hh_uX2 tyX2_ok nmX2 (by decide) hm_15 rfl rfl (by decide +kernel) rfl rfl (Nat.le_of_ble_eq_true rfl) dX2_copyFrom_37 (fun H locs hp => ?_)
  obtain ⟨v_37, ev_37⟩ : ∃ z : hh_M, z = hh_up v_29 (hh_gI r i g) 4 (v_29 (hh_gI r2 i2 g2) 4) := ⟨_, rfl⟩
  rw [← ev_37] at hp
  have hTv_37 : hh_T nm nh nc v_37 := by rw [ev_37]; exact hh_T_up hTv_29 (hh_Rt_g hr hi hg (by decide))
  refine lv_aload_n hx hb dX2_copyFrom_40 rfl (lv_at hl 0 rfl) ?_
  refine lv_aload_n hx hb dX2_copyFrom_41 rfl (lv_at hl 1 rfl) ?_
  refine hh_get C0 hp (C := RX2) (T := TX2) (N := 6) (ci := 2) (hh_b_g hr2 hi2 hg2) (hh_E_g r2 hi2 hg2) rfl hh_uX2 5 (by decide) hm_29 rfl rfl dX2_copyFrom_42 ?_
  refine hh_put C0 hp (C := RX2) (T := TX2) (N := 6) (ci := 2) (k := 5) (ty := .int) (hh_b_g hr hi hg) (hh_E_g r hi hg) (hh_pg5 r hi hg) rfl hh_uX2 tyX2_ok nmX2 (by decide) hm_29 rfl rfl (by decide +kernel) rfl rfl (Nat.le_of_ble_eq_true rfl) dX2_copyFrom_45 (fun H locs hp => ?_)
  obtain ⟨v_45, ev_45⟩ : ∃ z : hh_M, z = hh_up v_37 (hh_gI r i g) 5 (v_37 (hh_gI r2 i2 g2) 5) := ⟨_, rfl⟩
  rw [← ev_45] at hp
  have hTv_45 : hh_T nm nh nc v_45 := by rw [ev_45]; exact hh_T_up hTv_37 (hh_Rt_g hr hi hg (by decide))
  exact hh_vret C0 hp dX2_copyFrom_48 ⟨(by show _ = _; subst ev_5; subst ev_13; subst ev_21; subst ev_29; subst ev_37; subst ev_45; simp only [hf_X2_copyFrom]), hTv_45⟩
def hl_X4_measureOne_32 (v : hh_M) (number : Int32) (place : Int32) (i : Nat) : Int32 → Int32 := fun (a32_4 : Int32) => (if (nI i) = number then a32_4 else (if (v (hh_mI i) 2) = (v (hh_mI number.toNatClampNeg) 2) then (let q_74 := hf_X3_noiseAt v i place; (let x_78 := (a32_4 - q_74); x_78)) else a32_4))
def hf_X4_measureOne (v : hh_M) (number : Int32) (place : Int32) : Int32 := (if (v (hh_mI number.toNatClampNeg) 6) = 0 then (-99) else (let q_23 := hf_X3_distanceTo v number.toNatClampNeg place; (let x_27 := ((v (hh_mI number.toNatClampNeg) 1) - q_23); (let a32_4 := hh_fld (hl_X4_measureOne_32 v number place) ((v 1 2).toNatClampNeg) x_27; a32_4))))
set_option maxHeartbeats 4000000 in
set_option maxRecDepth 100000 in
theorem hk_X4_measureOne (l : Launch) (D : va_G) (K : Nat → ClassId) (ad : Nat → Nat) {nm : Nat} {nh nc : Nat → Nat} {v : hh_M} (hT : hh_T nm nh nc v) (number : Int32) (place : Int32) (h1 : vp_in number 6) : hh_Ki l D K ad yX4_measureOne (hh_wm yX4_measureOne cX4_measureOne 6 (some .int)) { frames := 2, cells := 0, slots := 0, locals := 43 } [.ref (ad 1), .int number, .int place] v (fun (q : Int32) (v1 : hh_M) => q = hf_X4_measureOne v number place ∧ v1 = v) := by
  refine hh_Ki_of (by decide) (Nat.le_of_ble_eq_true rfl) ?_
  intro p e s m args below meth c ls A C0 hp hl
  obtain ⟨hx, hb, hr9, hml, hown, hts, hK, hlk, hA⟩ := id C0
  have hnm := hT.1
  have hnh := hT.2.1
  have hnc := hT.2.2.1
  have hl : lv_has ls 6 [(0, .ref (ad 1)), (1, .int number), (2, .int place)] := hl
  refine lv_aload_n hx hb dX4_measureOne_0 rfl (lv_at hl 0 rfl) ?_
  refine hh_get C0 hp (C := RX4) (T := TX4) (N := 3) (ci := 4) (by decide) hh_E_1 rfl hh_uX4 0 (by decide) hm_72 rfl rfl dX4_measureOne_1 ?_
  refine lv_iload_n hx hb dX4_measureOne_4 rfl (lv_at hl 1 rfl) ?_
  have hin_5 : vp_in number 6 := by assumption
  refine hh_aal C0 hp (t0 := 2) (f := hh_mI) (by decide) hh_E_2 rfl rfl hin_5 rfl dX4_measureOne_5 ?_
  refine lv_astore_n (lv' := [(3, .ref (ad (hh_mI number.toNatClampNeg))), (0, .ref (ad 1)), (1, .int number), (2, .int place)]) hx hb dX4_measureOne_6 rfl hl (by decide) rfl (fun ls hl => ?_)
  refine lv_aload_n hx hb dX4_measureOne_7 rfl (lv_at hl 0 rfl) ?_
  refine hh_get C0 hp (C := RX3) (T := TX3) (N := 7) (ci := 3) (hh_b_m (hh_lt hin_5)) (hh_E_m (hh_lt hin_5)) rfl hh_uX3 6 (by decide) hm_85 rfl rfl dX4_measureOne_8 ?_
  refine lv_if_ne (tgt := 17) hx hb dX4_measureOne_11 (by decide) (fun c_11 => ?_) (fun c_11 => ?_)
  · refine lv_aload_n hx hb dX4_measureOne_17 rfl (lv_at hl 0 rfl) ?_
    refine hh_get C0 hp (C := RX3) (T := TX3) (N := 7) (ci := 3) (hh_b_m (hh_lt hin_5)) (hh_E_m (hh_lt hin_5)) rfl hh_uX3 1 (by decide) hm_86 rfl rfl dX4_measureOne_18 ?_
    refine lv_aload_n hx hb dX4_measureOne_21 rfl (lv_at hl 0 rfl) ?_
    refine lv_iload_n hx hb dX4_measureOne_22 rfl (lv_at hl 3 rfl) ?_
    refine hh_cVi C0 hp (As := [.int place]) (rest := [.int (v (hh_mI number.toNatClampNeg) 1)]) (C := RX3) (T := TX3) (N := 7) (ci := 3) (n := 1) (hk_X3_distanceTo l D K ad hT number.toNatClampNeg place (hh_lt hin_5)) rfl (hh_b_m (hh_lt hin_5)) (hh_E_m (hh_lt hin_5)) (hh_gV hm_88 hm_61 hm_62 hm_63 hm_55) ⟨rfl, rfl⟩ (by decide +kernel) ⟨Nat.le_of_ble_eq_true rfl, Nat.le_of_ble_eq_true rfl⟩ ⟨Nat.zero_le _, Nat.zero_le _⟩ hl.1 rfl rfl (Nat.le_of_ble_eq_true rfl) dX4_measureOne_23 (fun q_23 v_23 H locs hv_23 hp => ?_)
    obtain ⟨eq_23, hv9⟩ := hv_23
    rw [hv9] at hp; clear hv9
    refine lv_isub hx hb dX4_measureOne_26 ?_
    refine lv_topi (fun x_27 ex_27 => ?_)
    refine lv_istore (lv' := [(4, .int x_27), (3, .ref (ad (hh_mI number.toNatClampNeg))), (0, .ref (ad 1)), (1, .int number), (2, .int place)]) hx hb dX4_measureOne_27 hl (by decide) rfl (fun ls hl => ?_)
    refine lv_iconst (v := 0) hx hb dX4_measureOne_29 (by decide) ?_
    refine lv_istore (lv' := [(5, .int 0), (4, .int x_27), (3, .ref (ad (hh_mI number.toNatClampNeg))), (0, .ref (ad 1)), (1, .int number), (2, .int place)]) hx hb dX4_measureOne_30 hl (by decide) rfl (fun ls hl => ?_)
    have hL_32 : ∀ (n i : Nat) (a32_4 : Int32) (H : Heap) (locs : List Loc) (ls : Array Slot), i ≤ nm → nm - i < n → a32_4 = hh_fld (hl_X4_measureOne_32 v number place) i x_27 → hh_H D K ad A s.heap v H locs → lv_has ls 6 [(5, .int (nI i)), (4, .int a32_4), (3, .ref (ad (hh_mI number.toNatClampNeg))), (0, .ref (ad 1)), (1, .int number), (2, .int place)] → W p l e ({ frames := 2, cells := 0, slots := 0, locals := 43 } : Room) s m args below meth c H locs 0 0 (MQ below (va_Qi (fun (q : Int32) (v1 : hh_M) => q = hf_X4_measureOne v number place ∧ v1 = v) (hh_B D K ad A) A) args s 0 0 A) (F0 m 32 ls []) := by
      intro n
      induction n with
      | zero => intro i a32_4 H locs ls h1 h2; omega
      | succ n ih =>
        intro i a32_4 H locs ls hii hni hsL_32 hp hl
        refine lv_iload hx hb dX4_measureOne_32 (lv_at hl 0 rfl) ?_
        refine lv_aload_n hx hb dX4_measureOne_34 rfl (lv_at hl 3 rfl) ?_
        refine hh_get C0 hp (C := RX4) (T := TX4) (N := 3) (ci := 4) (by decide) hh_E_1 rfl hh_uX4 2 (by decide) hm_79 rfl rfl dX4_measureOne_35 ?_
        refine lv_icmp_ge (tgt := 86) hx hb dX4_measureOne_38 (by decide) (fun c_38 => ?_) (fun c_38 => ?_)
        · have hbc_38 : (v 1 2) = nI nm := hh_T_M hT
          rw [hbc_38] at c_38
          have hc_38 := (nI_leI (a := nm) (b := i) (by omega) (by omega))
          have hltc_38 : nm ≤ i := by exact hc_38.mp c_38
          have hNL_32 : i = nm := by omega
          rw [hNL_32] at hsL_32
          have hsL_32 : a32_4 = hh_fld (hl_X4_measureOne_32 v number place) ((v 1 2).toNatClampNeg) x_27 := by rw [hsL_32, show (v 1 2).toNatClampNeg = nm from by rw [hh_T_M hT]; exact nI_clamp (by omega)]
          have ea32_4 : a32_4 = hh_fld (hl_X4_measureOne_32 v number place) ((v 1 2).toNatClampNeg) x_27 := hsL_32
          clear ih hsL_32
          refine lv_iload hx hb dX4_measureOne_86 (lv_at hl 1 rfl) ?_
          exact hh_iret C0 hp dX4_measureOne_88 ⟨(by subst eq_23; subst ex_27; subst ea32_4; simp only [hf_X4_measureOne, if_neg c_11]), rfl⟩
        · have hbc_38 : (v 1 2) = nI nm := hh_T_M hT
          rw [hbc_38] at c_38
          have hc_38 := (nI_leI (a := nm) (b := i) (by omega) (by omega))
          have hltc_38 : i < nm := by exact Nat.not_le.mp (fun z => c_38 (hc_38.mpr z))
          refine lv_iload hx hb dX4_measureOne_41 (lv_at hl 0 rfl) ?_
          refine lv_iload_n hx hb dX4_measureOne_43 rfl (lv_at hl 4 rfl) ?_
          refine lv_icmp_eq (tgt := 80) hx hb dX4_measureOne_44 (by decide) (fun c_44 => ?_) (fun c_44 => ?_)
          · refine lv_iinc (v := (nI (i + 1))) (lv' := [(5, .int (nI (i + 1))), (4, .int a32_4), (3, .ref (ad (hh_mI number.toNatClampNeg))), (0, .ref (ad 1)), (1, .int number), (2, .int place)]) hx hb dX4_measureOne_80 hl (k := 0) rfl (nI_1 i) (by decide) rfl (fun ls hl => ?_)
            refine lv_goto (tgt := 32) hx hb dX4_measureOne_83 (by decide) ?_
            exact ih (i + 1) a32_4 _ _ _ (by omega) (by omega) (by rw [hh_fld, ← hsL_32]; simp only [hl_X4_measureOne_32, if_pos c_44]) hp (lv_sub hl [0, 1, 2, 3, 4, 5] rfl)
          · refine lv_aload_n hx hb dX4_measureOne_47 rfl (lv_at hl 3 rfl) ?_
            refine hh_get C0 hp (C := RX4) (T := TX4) (N := 3) (ci := 4) (by decide) hh_E_1 rfl hh_uX4 0 (by decide) hm_72 rfl rfl dX4_measureOne_48 ?_
            refine lv_iload hx hb dX4_measureOne_51 (lv_at hl 0 rfl) ?_
            refine hh_aal C0 hp (t0 := 2) (f := hh_mI) (by decide) hh_E_2 rfl rfl (vp_in_nI (by omega) (by decide)) (nI_clamp (by omega)) dX4_measureOne_53 ?_
            refine hh_get C0 hp (C := RX3) (T := TX3) (N := 7) (ci := 3) (hh_b_m (by omega : i < 6)) (hh_E_m (by omega : i < 6)) rfl hh_uX3 2 (by decide) hm_87 rfl rfl dX4_measureOne_54 ?_
            refine lv_aload_n hx hb dX4_measureOne_57 rfl (lv_at hl 2 rfl) ?_
            refine hh_get C0 hp (C := RX3) (T := TX3) (N := 7) (ci := 3) (hh_b_m (hh_lt hin_5)) (hh_E_m (hh_lt hin_5)) rfl hh_uX3 2 (by decide) hm_87 rfl rfl dX4_measureOne_58 ?_
            refine lv_icmp_ne (tgt := 80) hx hb dX4_measureOne_61 (by decide) (fun c_61 => ?_) (fun c_61 => ?_)
            · refine lv_iinc (v := (nI (i + 1))) (lv' := [(5, .int (nI (i + 1))), (4, .int a32_4), (3, .ref (ad (hh_mI number.toNatClampNeg))), (0, .ref (ad 1)), (1, .int number), (2, .int place)]) hx hb dX4_measureOne_80 hl (k := 0) rfl (nI_1 i) (by decide) rfl (fun ls hl => ?_)
              refine lv_goto (tgt := 32) hx hb dX4_measureOne_83 (by decide) ?_
              exact ih (i + 1) a32_4 _ _ _ (by omega) (by omega) (by rw [hh_fld, ← hsL_32]; simp only [hl_X4_measureOne_32, if_neg c_44, if_neg c_61]) hp (lv_sub hl [0, 1, 2, 3, 4, 5] rfl)
            · refine lv_iload hx hb dX4_measureOne_64 (lv_at hl 1 rfl) ?_
              refine lv_aload_n hx hb dX4_measureOne_66 rfl (lv_at hl 3 rfl) ?_
              refine hh_get C0 hp (C := RX4) (T := TX4) (N := 3) (ci := 4) (by decide) hh_E_1 rfl hh_uX4 0 (by decide) hm_72 rfl rfl dX4_measureOne_67 ?_
              refine lv_iload hx hb dX4_measureOne_70 (lv_at hl 0 rfl) ?_
              refine hh_aal C0 hp (t0 := 2) (f := hh_mI) (by decide) hh_E_2 rfl rfl (vp_in_nI (by omega) (by decide)) (nI_clamp (by omega)) dX4_measureOne_72 ?_
              refine lv_iload_n hx hb dX4_measureOne_73 rfl (lv_at hl 5 rfl) ?_
              refine hh_cVi C0 hp (As := [.int place]) (rest := [.int a32_4]) (C := RX3) (T := TX3) (N := 7) (ci := 3) (n := 1) (hk_X3_noiseAt l D K ad hT i place (by omega : i < 6)) rfl (hh_b_m (by omega : i < 6)) (hh_E_m (by omega : i < 6)) (hh_gV hm_89 hm_90 hm_91 hm_63 hm_57) ⟨rfl, rfl⟩ (by decide +kernel) ⟨Nat.le_of_ble_eq_true rfl, Nat.le_of_ble_eq_true rfl⟩ ⟨Nat.zero_le _, Nat.zero_le _⟩ hl.1 rfl rfl (Nat.le_of_ble_eq_true rfl) dX4_measureOne_74 (fun q_74 v_74 H locs hv_74 hp => ?_)
              obtain ⟨eq_74, hv9⟩ := hv_74
              rw [hv9] at hp; clear hv9
              refine lv_isub hx hb dX4_measureOne_77 ?_
              refine lv_topi (fun x_78 ex_78 => ?_)
              refine lv_istore (lv' := [(4, .int x_78), (5, .int (nI i)), (3, .ref (ad (hh_mI number.toNatClampNeg))), (0, .ref (ad 1)), (1, .int number), (2, .int place)]) hx hb dX4_measureOne_78 hl (by decide) rfl (fun ls hl => ?_)
              refine lv_iinc (v := (nI (i + 1))) (lv' := [(5, .int (nI (i + 1))), (4, .int x_78), (3, .ref (ad (hh_mI number.toNatClampNeg))), (0, .ref (ad 1)), (1, .int number), (2, .int place)]) hx hb dX4_measureOne_80 hl (k := 1) rfl (nI_1 i) (by decide) rfl (fun ls hl => ?_)
              refine lv_goto (tgt := 32) hx hb dX4_measureOne_83 (by decide) ?_
              exact ih (i + 1) x_78 _ _ _ (by omega) (by omega) (by subst eq_74; subst ex_78; rw [hh_fld, ← hsL_32]; simp only [hl_X4_measureOne_32, if_neg c_44, if_pos c_61]) hp (lv_sub hl [0, 1, 2, 3, 4, 5] rfl)
    exact hL_32 (nm + 1) 0 x_27 _ _ _ (Nat.zero_le _) (by omega) rfl hp (lv_sub hl [0, 1, 2, 3, 4, 5] rfl)
  · refine lv_bipush (v := (-99)) hx hb dX4_measureOne_14 (by decide) ?_
    exact hh_iret C0 hp dX4_measureOne_16 ⟨(by simp only [hf_X4_measureOne, if_pos c_11]), rfl⟩
def hl_X4_awakeInArea_4 (v : hh_M) (area : Int32) (i : Nat) : Int32 → Int32 := fun (a4_2 : Int32) => (if (v (hh_mI i) 6) = 0 then a4_2 else (if (v (hh_mI i) 4) = area then (let x_37 := (a4_2 + 1); x_37) else a4_2))
def hf_X4_awakeInArea (v : hh_M) (area : Int32) : Int32 := (let a4_2 := hh_fld (hl_X4_awakeInArea_4 v area) ((v 1 2).toNatClampNeg) 0; a4_2)
set_option maxHeartbeats 4000000 in
set_option maxRecDepth 100000 in
theorem hk_X4_awakeInArea (l : Launch) (D : va_G) (K : Nat → ClassId) (ad : Nat → Nat) {nm : Nat} {nh nc : Nat → Nat} {v : hh_M} (hT : hh_T nm nh nc v) (area : Int32) : hh_Ki l D K ad yX4_awakeInArea (hh_wm yX4_awakeInArea cX4_awakeInArea 4 (some .int)) { frames := 0, cells := 0, slots := 0, locals := 0 } [.ref (ad 1), .int area] v (fun (q : Int32) (v1 : hh_M) => q = hf_X4_awakeInArea v area ∧ v1 = v) := by
  refine hh_Ki_of (by decide) (Nat.le_of_ble_eq_true rfl) ?_
  intro p e s m args below meth c ls A C0 hp hl
  obtain ⟨hx, hb, hr9, hml, hown, hts, hK, hlk, hA⟩ := id C0
  have hnm := hT.1
  have hnh := hT.2.1
  have hnc := hT.2.2.1
  have hl : lv_has ls 4 [(0, .ref (ad 1)), (1, .int area)] := hl
  refine lv_iconst (v := 0) hx hb dX4_awakeInArea_0 (by decide) ?_
  refine lv_istore_n (lv' := [(2, .int 0), (0, .ref (ad 1)), (1, .int area)]) hx hb dX4_awakeInArea_1 rfl hl (by decide) rfl (fun ls hl => ?_)
  refine lv_iconst (v := 0) hx hb dX4_awakeInArea_2 (by decide) ?_
  refine lv_istore_n (lv' := [(3, .int 0), (2, .int 0), (0, .ref (ad 1)), (1, .int area)]) hx hb dX4_awakeInArea_3 rfl hl (by decide) rfl (fun ls hl => ?_)
  have hL_4 : ∀ (n i : Nat) (a4_2 : Int32) (H : Heap) (locs : List Loc) (ls : Array Slot), i ≤ nm → nm - i < n → a4_2 = hh_fld (hl_X4_awakeInArea_4 v area) i 0 → hh_H D K ad A s.heap v H locs → lv_has ls 4 [(3, .int (nI i)), (2, .int a4_2), (0, .ref (ad 1)), (1, .int area)] → W p l e ({ frames := 0, cells := 0, slots := 0, locals := 0 } : Room) s m args below meth c H locs 0 0 (MQ below (va_Qi (fun (q : Int32) (v1 : hh_M) => q = hf_X4_awakeInArea v area ∧ v1 = v) (hh_B D K ad A) A) args s 0 0 A) (F0 m 4 ls []) := by
    intro n
    induction n with
    | zero => intro i a4_2 H locs ls h1 h2; omega
    | succ n ih =>
      intro i a4_2 H locs ls hii hni hsL_4 hp hl
      refine lv_iload_n hx hb dX4_awakeInArea_4 rfl (lv_at hl 0 rfl) ?_
      refine lv_aload_n hx hb dX4_awakeInArea_5 rfl (lv_at hl 2 rfl) ?_
      refine hh_get C0 hp (C := RX4) (T := TX4) (N := 3) (ci := 4) (by decide) hh_E_1 rfl hh_uX4 2 (by decide) hm_79 rfl rfl dX4_awakeInArea_6 ?_
      refine lv_icmp_ge (tgt := 46) hx hb dX4_awakeInArea_9 (by decide) (fun c_9 => ?_) (fun c_9 => ?_)
      · have hbc_9 : (v 1 2) = nI nm := hh_T_M hT
        rw [hbc_9] at c_9
        have hc_9 := (nI_leI (a := nm) (b := i) (by omega) (by omega))
        have hltc_9 : nm ≤ i := by exact hc_9.mp c_9
        have hNL_4 : i = nm := by omega
        rw [hNL_4] at hsL_4
        have hsL_4 : a4_2 = hh_fld (hl_X4_awakeInArea_4 v area) ((v 1 2).toNatClampNeg) 0 := by rw [hsL_4, show (v 1 2).toNatClampNeg = nm from by rw [hh_T_M hT]; exact nI_clamp (by omega)]
        have ea4_2 : a4_2 = hh_fld (hl_X4_awakeInArea_4 v area) ((v 1 2).toNatClampNeg) 0 := hsL_4
        clear ih hsL_4
        refine lv_iload_n hx hb dX4_awakeInArea_46 rfl (lv_at hl 1 rfl) ?_
        exact hh_iret C0 hp dX4_awakeInArea_47 ⟨(by subst ea4_2; simp only [hf_X4_awakeInArea]), rfl⟩
      · have hbc_9 : (v 1 2) = nI nm := hh_T_M hT
        rw [hbc_9] at c_9
        have hc_9 := (nI_leI (a := nm) (b := i) (by omega) (by omega))
        have hltc_9 : i < nm := by exact Nat.not_le.mp (fun z => c_9 (hc_9.mpr z))
        refine lv_aload_n hx hb dX4_awakeInArea_12 rfl (lv_at hl 2 rfl) ?_
        refine hh_get C0 hp (C := RX4) (T := TX4) (N := 3) (ci := 4) (by decide) hh_E_1 rfl hh_uX4 0 (by decide) hm_72 rfl rfl dX4_awakeInArea_13 ?_
        refine lv_iload_n hx hb dX4_awakeInArea_16 rfl (lv_at hl 0 rfl) ?_
        refine hh_aal C0 hp (t0 := 2) (f := hh_mI) (by decide) hh_E_2 rfl rfl (vp_in_nI (by omega) (by decide)) (nI_clamp (by omega)) dX4_awakeInArea_17 ?_
        refine hh_get C0 hp (C := RX3) (T := TX3) (N := 7) (ci := 3) (hh_b_m (by omega : i < 6)) (hh_E_m (by omega : i < 6)) rfl hh_uX3 6 (by decide) hm_85 rfl rfl dX4_awakeInArea_18 ?_
        refine lv_if_eq (tgt := 40) hx hb dX4_awakeInArea_21 (by decide) (fun c_21 => ?_) (fun c_21 => ?_)
        · refine lv_iinc (v := (nI (i + 1))) (lv' := [(3, .int (nI (i + 1))), (2, .int a4_2), (0, .ref (ad 1)), (1, .int area)]) hx hb dX4_awakeInArea_40 hl (k := 0) rfl (nI_1 i) (by decide) rfl (fun ls hl => ?_)
          refine lv_goto (tgt := 4) hx hb dX4_awakeInArea_43 (by decide) ?_
          exact ih (i + 1) a4_2 _ _ _ (by omega) (by omega) (by rw [hh_fld, ← hsL_4]; simp only [hl_X4_awakeInArea_4, if_pos c_21]) hp (lv_sub hl [0, 1, 2, 3] rfl)
        · refine lv_aload_n hx hb dX4_awakeInArea_24 rfl (lv_at hl 2 rfl) ?_
          refine hh_get C0 hp (C := RX4) (T := TX4) (N := 3) (ci := 4) (by decide) hh_E_1 rfl hh_uX4 0 (by decide) hm_72 rfl rfl dX4_awakeInArea_25 ?_
          refine lv_iload_n hx hb dX4_awakeInArea_28 rfl (lv_at hl 0 rfl) ?_
          refine hh_aal C0 hp (t0 := 2) (f := hh_mI) (by decide) hh_E_2 rfl rfl (vp_in_nI (by omega) (by decide)) (nI_clamp (by omega)) dX4_awakeInArea_29 ?_
          refine hh_get C0 hp (C := RX3) (T := TX3) (N := 7) (ci := 3) (hh_b_m (by omega : i < 6)) (hh_E_m (by omega : i < 6)) rfl hh_uX3 4 (by decide) hm_93 rfl rfl dX4_awakeInArea_30 ?_
          refine lv_iload_n hx hb dX4_awakeInArea_33 rfl (lv_at hl 3 rfl) ?_
          refine lv_icmp_ne (tgt := 40) hx hb dX4_awakeInArea_34 (by decide) (fun c_34 => ?_) (fun c_34 => ?_)
          · refine lv_iinc (v := (nI (i + 1))) (lv' := [(3, .int (nI (i + 1))), (2, .int a4_2), (0, .ref (ad 1)), (1, .int area)]) hx hb dX4_awakeInArea_40 hl (k := 0) rfl (nI_1 i) (by decide) rfl (fun ls hl => ?_)
            refine lv_goto (tgt := 4) hx hb dX4_awakeInArea_43 (by decide) ?_
            exact ih (i + 1) a4_2 _ _ _ (by omega) (by omega) (by rw [hh_fld, ← hsL_4]; simp only [hl_X4_awakeInArea_4, if_neg c_21, if_neg c_34]) hp (lv_sub hl [0, 1, 2, 3] rfl)
          · obtain ⟨x_37, ex_37⟩ : ∃ z : Int32, z = (a4_2 + 1) := ⟨_, rfl⟩
            refine lv_iinc (v := x_37) (lv' := [(2, .int x_37), (3, .int (nI i)), (0, .ref (ad 1)), (1, .int area)]) hx hb dX4_awakeInArea_37 hl (k := 1) rfl (by rw [ex_37]; rfl) (by decide) rfl (fun ls hl => ?_)
            refine lv_iinc (v := (nI (i + 1))) (lv' := [(3, .int (nI (i + 1))), (2, .int x_37), (0, .ref (ad 1)), (1, .int area)]) hx hb dX4_awakeInArea_40 hl (k := 1) rfl (nI_1 i) (by decide) rfl (fun ls hl => ?_)
            refine lv_goto (tgt := 4) hx hb dX4_awakeInArea_43 (by decide) ?_
            exact ih (i + 1) x_37 _ _ _ (by omega) (by omega) (by subst ex_37; rw [hh_fld, ← hsL_4]; simp only [hl_X4_awakeInArea_4, if_neg c_21, if_pos c_34]) hp (lv_sub hl [0, 1, 2, 3] rfl)
  exact hL_4 (nm + 1) 0 0 _ _ _ (Nat.zero_le _) (by omega) rfl hp (lv_sub hl [0, 1, 2, 3] rfl)
def hl_X4_awake_4 (v : hh_M) (i : Nat) : Int32 → Int32 := fun (a4_1 : Int32) => (if (v (hh_mI i) 6) = 0 then a4_1 else (let x_24 := (a4_1 + 1); x_24))
def hf_X4_awake (v : hh_M) : Int32 := (let a4_1 := hh_fld (hl_X4_awake_4 v) ((v 1 2).toNatClampNeg) 0; a4_1)
set_option maxHeartbeats 4000000 in
set_option maxRecDepth 100000 in
theorem hk_X4_awake (l : Launch) (D : va_G) (K : Nat → ClassId) (ad : Nat → Nat) {nm : Nat} {nh nc : Nat → Nat} {v : hh_M} (hT : hh_T nm nh nc v) : hh_Ki l D K ad yX4_awake (hh_wm yX4_awake cX4_awake 3 (some .int)) { frames := 0, cells := 0, slots := 0, locals := 0 } [.ref (ad 1)] v (fun (q : Int32) (v1 : hh_M) => q = hf_X4_awake v ∧ v1 = v) := by
  refine hh_Ki_of (by decide) (Nat.le_of_ble_eq_true rfl) ?_
  intro p e s m args below meth c ls A C0 hp hl
  obtain ⟨hx, hb, hr9, hml, hown, hts, hK, hlk, hA⟩ := id C0
  have hnm := hT.1
  have hnh := hT.2.1
  have hnc := hT.2.2.1
  have hl : lv_has ls 3 [(0, .ref (ad 1))] := hl
  refine lv_iconst (v := 0) hx hb dX4_awake_0 (by decide) ?_
  refine lv_istore_n (lv' := [(1, .int 0), (0, .ref (ad 1))]) hx hb dX4_awake_1 rfl hl (by decide) rfl (fun ls hl => ?_)
  refine lv_iconst (v := 0) hx hb dX4_awake_2 (by decide) ?_
  refine lv_istore_n (lv' := [(2, .int 0), (1, .int 0), (0, .ref (ad 1))]) hx hb dX4_awake_3 rfl hl (by decide) rfl (fun ls hl => ?_)
  have hL_4 : ∀ (n i : Nat) (a4_1 : Int32) (H : Heap) (locs : List Loc) (ls : Array Slot), i ≤ nm → nm - i < n → a4_1 = hh_fld (hl_X4_awake_4 v) i 0 → hh_H D K ad A s.heap v H locs → lv_has ls 3 [(2, .int (nI i)), (1, .int a4_1), (0, .ref (ad 1))] → W p l e ({ frames := 0, cells := 0, slots := 0, locals := 0 } : Room) s m args below meth c H locs 0 0 (MQ below (va_Qi (fun (q : Int32) (v1 : hh_M) => q = hf_X4_awake v ∧ v1 = v) (hh_B D K ad A) A) args s 0 0 A) (F0 m 4 ls []) := by
    intro n
    induction n with
    | zero => intro i a4_1 H locs ls h1 h2; omega
    | succ n ih =>
      intro i a4_1 H locs ls hii hni hsL_4 hp hl
      refine lv_iload_n hx hb dX4_awake_4 rfl (lv_at hl 0 rfl) ?_
      refine lv_aload_n hx hb dX4_awake_5 rfl (lv_at hl 2 rfl) ?_
      refine hh_get C0 hp (C := RX4) (T := TX4) (N := 3) (ci := 4) (by decide) hh_E_1 rfl hh_uX4 2 (by decide) hm_79 rfl rfl dX4_awake_6 ?_
      refine lv_icmp_ge (tgt := 33) hx hb dX4_awake_9 (by decide) (fun c_9 => ?_) (fun c_9 => ?_)
      · have hbc_9 : (v 1 2) = nI nm := hh_T_M hT
        rw [hbc_9] at c_9
        have hc_9 := (nI_leI (a := nm) (b := i) (by omega) (by omega))
        have hltc_9 : nm ≤ i := by exact hc_9.mp c_9
        have hNL_4 : i = nm := by omega
        rw [hNL_4] at hsL_4
        have hsL_4 : a4_1 = hh_fld (hl_X4_awake_4 v) ((v 1 2).toNatClampNeg) 0 := by rw [hsL_4, show (v 1 2).toNatClampNeg = nm from by rw [hh_T_M hT]; exact nI_clamp (by omega)]
        have ea4_1 : a4_1 = hh_fld (hl_X4_awake_4 v) ((v 1 2).toNatClampNeg) 0 := hsL_4
        clear ih hsL_4
        refine lv_iload_n hx hb dX4_awake_33 rfl (lv_at hl 1 rfl) ?_
        exact hh_iret C0 hp dX4_awake_34 ⟨(by subst ea4_1; simp only [hf_X4_awake]), rfl⟩
      · have hbc_9 : (v 1 2) = nI nm := hh_T_M hT
        rw [hbc_9] at c_9
        have hc_9 := (nI_leI (a := nm) (b := i) (by omega) (by omega))
        have hltc_9 : i < nm := by exact Nat.not_le.mp (fun z => c_9 (hc_9.mpr z))
        refine lv_aload_n hx hb dX4_awake_12 rfl (lv_at hl 2 rfl) ?_
        refine hh_get C0 hp (C := RX4) (T := TX4) (N := 3) (ci := 4) (by decide) hh_E_1 rfl hh_uX4 0 (by decide) hm_72 rfl rfl dX4_awake_13 ?_
        refine lv_iload_n hx hb dX4_awake_16 rfl (lv_at hl 0 rfl) ?_
        refine hh_aal C0 hp (t0 := 2) (f := hh_mI) (by decide) hh_E_2 rfl rfl (vp_in_nI (by omega) (by decide)) (nI_clamp (by omega)) dX4_awake_17 ?_
        refine hh_get C0 hp (C := RX3) (T := TX3) (N := 7) (ci := 3) (hh_b_m (by omega : i < 6)) (hh_E_m (by omega : i < 6)) rfl hh_uX3 6 (by decide) hm_85 rfl rfl dX4_awake_18 ?_
        refine lv_if_eq (tgt := 27) hx hb dX4_awake_21 (by decide) (fun c_21 => ?_) (fun c_21 => ?_)
        · refine lv_iinc (v := (nI (i + 1))) (lv' := [(2, .int (nI (i + 1))), (1, .int a4_1), (0, .ref (ad 1))]) hx hb dX4_awake_27 hl (k := 0) rfl (nI_1 i) (by decide) rfl (fun ls hl => ?_)
          refine lv_goto (tgt := 4) hx hb dX4_awake_30 (by decide) ?_
          exact ih (i + 1) a4_1 _ _ _ (by omega) (by omega) (by rw [hh_fld, ← hsL_4]; simp only [hl_X4_awake_4, if_pos c_21]) hp (lv_sub hl [0, 1, 2] rfl)
        · obtain ⟨x_24, ex_24⟩ : ∃ z : Int32, z = (a4_1 + 1) := ⟨_, rfl⟩
          refine lv_iinc (v := x_24) (lv' := [(1, .int x_24), (2, .int (nI i)), (0, .ref (ad 1))]) hx hb dX4_awake_24 hl (k := 1) rfl (by rw [ex_24]; rfl) (by decide) rfl (fun ls hl => ?_)
          refine lv_iinc (v := (nI (i + 1))) (lv' := [(2, .int (nI (i + 1))), (1, .int x_24), (0, .ref (ad 1))]) hx hb dX4_awake_27 hl (k := 1) rfl (nI_1 i) (by decide) rfl (fun ls hl => ?_)
          refine lv_goto (tgt := 4) hx hb dX4_awake_30 (by decide) ?_
          exact ih (i + 1) x_24 _ _ _ (by omega) (by omega) (by subst ex_24; rw [hh_fld, ← hsL_4]; simp only [hl_X4_awake_4, if_neg c_21]) hp (lv_sub hl [0, 1, 2] rfl)
  exact hL_4 (nm + 1) 0 0 _ _ _ (Nat.zero_le _) (by omega) rfl hp (lv_sub hl [0, 1, 2] rfl)
def hl_X5_placesHeardWell_4 (v : hh_M) (r : Nat) (i : Nat) : Int32 → Int32 := fun (a4_1 : Int32) => (let q_12 := hf_X5_bestHeardAt v r (nI i); (if q_12 = (-1) then a4_1 else (let q_24 := hf_X5_qualityAt v r q_12 (nI i); (if q_24 < 5 then a4_1 else (let x_31 := (a4_1 + 1); x_31)))))
def hf_X5_placesHeardWell (v : hh_M) (r : Nat) : Int32 := (let a4_1 := hh_fld (hl_X5_placesHeardWell_4 v r) 100 0; a4_1)
set_option maxHeartbeats 4000000 in
set_option maxRecDepth 100000 in
theorem hk_X5_placesHeardWell (l : Launch) (D : va_G) (K : Nat → ClassId) (ad : Nat → Nat) {nm : Nat} {nh nc : Nat → Nat} {v : hh_M} (hT : hh_T nm nh nc v) (r : Nat) (hr : r < 2) : hh_Ki l D K ad yX5_placesHeardWell (hh_wm yX5_placesHeardWell cX5_placesHeardWell 4 (some .int)) { frames := 2, cells := 0, slots := 0, locals := 47 } [.ref (ad (hh_rI r))] v (fun (q : Int32) (v1 : hh_M) => q = hf_X5_placesHeardWell v r ∧ v1 = v) := by
  refine hh_Ki_of (by decide) (Nat.le_of_ble_eq_true rfl) ?_
  intro p e s m args below meth c ls A C0 hp hl
  obtain ⟨hx, hb, hr9, hml, hown, hts, hK, hlk, hA⟩ := id C0
  have hnm := hT.1
  have hnh := hT.2.1
  have hnc := hT.2.2.1
  have hl : lv_has ls 4 [(0, .ref (ad (hh_rI r)))] := hl
  refine lv_iconst (v := 0) hx hb dX5_placesHeardWell_0 (by decide) ?_
  refine lv_istore_n (lv' := [(1, .int 0), (0, .ref (ad (hh_rI r)))]) hx hb dX5_placesHeardWell_1 rfl hl (by decide) rfl (fun ls hl => ?_)
  refine lv_iconst (v := 0) hx hb dX5_placesHeardWell_2 (by decide) ?_
  refine lv_istore_n (lv' := [(2, .int 0), (1, .int 0), (0, .ref (ad (hh_rI r)))]) hx hb dX5_placesHeardWell_3 rfl hl (by decide) rfl (fun ls hl => ?_)
  have hL_4 : ∀ (n i : Nat) (a4_1 : Int32) (H : Heap) (locs : List Loc) (ls : Array Slot), i ≤ 100 → 100 - i < n → a4_1 = hh_fld (hl_X5_placesHeardWell_4 v r) i 0 → hh_H D K ad A s.heap v H locs → lv_has ls 4 [(2, .int (nI i)), (1, .int a4_1), (0, .ref (ad (hh_rI r)))] → W p l e ({ frames := 2, cells := 0, slots := 0, locals := 47 } : Room) s m args below meth c H locs 0 0 (MQ below (va_Qi (fun (q : Int32) (v1 : hh_M) => q = hf_X5_placesHeardWell v r ∧ v1 = v) (hh_B D K ad A) A) args s 0 0 A) (F0 m 4 ls []) := by
    intro n
    induction n with
    | zero => intro i a4_1 H locs ls h1 h2; omega
    | succ n ih =>
      intro i a4_1 H locs ls hii hni hsL_4 hp hl
      refine lv_iload_n hx hb dX5_placesHeardWell_4 rfl (lv_at hl 0 rfl) ?_
      refine lv_bipush (v := 100) hx hb dX5_placesHeardWell_5 (by decide) ?_
      refine lv_icmp_ge (tgt := 40) hx hb dX5_placesHeardWell_7 (by decide) (fun c_7 => ?_) (fun c_7 => ?_)
      · have hbc_7 : 100 = nI 100 := rfl
        rw [hbc_7] at c_7
        have hc_7 := (nI_leI (a := 100) (b := i) (by omega) (by omega))
        have hltc_7 : 100 ≤ i := by exact hc_7.mp c_7
        have hNL_4 : i = 100 := by omega
        rw [hNL_4] at hsL_4
        have ea4_1 : a4_1 = hh_fld (hl_X5_placesHeardWell_4 v r) 100 0 := hsL_4
        clear ih hsL_4
        refine lv_iload_n hx hb dX5_placesHeardWell_40 rfl (lv_at hl 1 rfl) ?_
        exact hh_iret C0 hp dX5_placesHeardWell_41 ⟨(by subst ea4_1; simp only [hf_X5_placesHeardWell]), rfl⟩
      · have hbc_7 : 100 = nI 100 := rfl
        rw [hbc_7] at c_7
        have hc_7 := (nI_leI (a := 100) (b := i) (by omega) (by omega))
        have hltc_7 : i < 100 := by exact Nat.not_le.mp (fun z => c_7 (hc_7.mpr z))
        refine lv_aload_n hx hb dX5_placesHeardWell_10 rfl (lv_at hl 2 rfl) ?_
        refine lv_iload_n hx hb dX5_placesHeardWell_11 rfl (lv_at hl 0 rfl) ?_
        refine hh_cVi C0 hp (As := [.int (nI i)]) (rest := []) (C := RX5) (T := TX5) (N := 10) (ci := 5) (n := 1) (hk_X5_bestHeardAt l D K ad hT r (nI i) hr (vp_in_nI (by omega) (by decide))) rfl (hh_b_r hr) (hh_E_r r) (hh_gV hm_132 hm_133 hm_134 hm_128 hm_129) ⟨rfl, rfl⟩ (by decide +kernel) ⟨Nat.le_of_ble_eq_true rfl, Nat.le_of_ble_eq_true rfl⟩ ⟨Nat.zero_le _, Nat.zero_le _⟩ hl.1 rfl rfl (Nat.le_of_ble_eq_true rfl) dX5_placesHeardWell_12 (fun q_12 v_12 H locs hv_12 hp => ?_)
        obtain ⟨eq_12, hv9, hpq_12a⟩ := hv_12
        rw [hv9] at hp; clear hv9
        refine lv_istore_n (lv' := [(3, .int q_12), (2, .int (nI i)), (1, .int a4_1), (0, .ref (ad (hh_rI r)))]) hx hb dX5_placesHeardWell_15 rfl hl (by decide) rfl (fun ls hl => ?_)
        refine lv_iload_n hx hb dX5_placesHeardWell_16 rfl (lv_at hl 0 rfl) ?_
        refine lv_iconst (v := (-1)) hx hb dX5_placesHeardWell_17 (by decide) ?_
        refine lv_icmp_eq (tgt := 34) hx hb dX5_placesHeardWell_18 (by decide) (fun c_18 => ?_) (fun c_18 => ?_)
        · refine lv_iinc (v := (nI (i + 1))) (lv' := [(2, .int (nI (i + 1))), (3, .int q_12), (1, .int a4_1), (0, .ref (ad (hh_rI r)))]) hx hb dX5_placesHeardWell_34 hl (k := 1) rfl (nI_1 i) (by decide) rfl (fun ls hl => ?_)
          refine lv_goto (tgt := 4) hx hb dX5_placesHeardWell_37 (by decide) ?_
          exact ih (i + 1) a4_1 _ _ _ (by omega) (by omega) (by subst eq_12; rw [hh_fld, ← hsL_4]; simp only [hl_X5_placesHeardWell_4, if_pos c_18]) hp (lv_sub hl [0, 2, 3] rfl)
        · refine lv_aload_n hx hb dX5_placesHeardWell_21 rfl (lv_at hl 3 rfl) ?_
          refine lv_iload_n hx hb dX5_placesHeardWell_22 rfl (lv_at hl 0 rfl) ?_
          refine lv_iload_n hx hb dX5_placesHeardWell_23 rfl (lv_at hl 1 rfl) ?_
          refine hh_cVi C0 hp (As := [.int q_12, .int (nI i)]) (rest := []) (C := RX5) (T := TX5) (N := 10) (ci := 5) (n := 2) (hk_X5_qualityAt l D K ad hT r q_12 (nI i) hr (hh_in (n := nm) (by assumption) (by assumption) (by omega) (by decide)) (vp_in_nI (by omega) (by decide))) rfl (hh_b_r hr) (hh_E_r r) (hh_gV hm_125 hm_126 hm_127 hm_128 hm_122) ⟨rfl, rfl⟩ (by decide +kernel) ⟨Nat.le_of_ble_eq_true rfl, Nat.le_of_ble_eq_true rfl⟩ ⟨Nat.zero_le _, Nat.zero_le _⟩ hl.1 rfl rfl (Nat.le_of_ble_eq_true rfl) dX5_placesHeardWell_24 (fun q_24 v_24 H locs hv_24 hp => ?_)
          obtain ⟨eq_24, hv9⟩ := hv_24
          rw [hv9] at hp; clear hv9
          refine lv_iconst (v := 5) hx hb dX5_placesHeardWell_27 (by decide) ?_
          refine lv_icmp_lt (tgt := 34) hx hb dX5_placesHeardWell_28 (by decide) (fun c_28 => ?_) (fun c_28 => ?_)
          · refine lv_iinc (v := (nI (i + 1))) (lv' := [(2, .int (nI (i + 1))), (3, .int q_12), (1, .int a4_1), (0, .ref (ad (hh_rI r)))]) hx hb dX5_placesHeardWell_34 hl (k := 1) rfl (nI_1 i) (by decide) rfl (fun ls hl => ?_)
            refine lv_goto (tgt := 4) hx hb dX5_placesHeardWell_37 (by decide) ?_
            exact ih (i + 1) a4_1 _ _ _ (by omega) (by omega) (by subst eq_12; subst eq_24; rw [hh_fld, ← hsL_4]; simp only [hl_X5_placesHeardWell_4, if_neg c_18, if_pos c_28]) hp (lv_sub hl [0, 2, 3] rfl)
          · obtain ⟨x_31, ex_31⟩ : ∃ z : Int32, z = (a4_1 + 1) := ⟨_, rfl⟩
            refine lv_iinc (v := x_31) (lv' := [(1, .int x_31), (3, .int q_12), (2, .int (nI i)), (0, .ref (ad (hh_rI r)))]) hx hb dX5_placesHeardWell_31 hl (k := 2) rfl (by rw [ex_31]; rfl) (by decide) rfl (fun ls hl => ?_)
            refine lv_iinc (v := (nI (i + 1))) (lv' := [(2, .int (nI (i + 1))), (1, .int x_31), (3, .int q_12), (0, .ref (ad (hh_rI r)))]) hx hb dX5_placesHeardWell_34 hl (k := 2) rfl (nI_1 i) (by decide) rfl (fun ls hl => ?_)
            refine lv_goto (tgt := 4) hx hb dX5_placesHeardWell_37 (by decide) ?_
            exact ih (i + 1) x_31 _ _ _ (by omega) (by omega) (by subst eq_12; subst eq_24; subst ex_31; rw [hh_fld, ← hsL_4]; simp only [hl_X5_placesHeardWell_4, if_neg c_18, if_neg c_28]) hp (lv_sub hl [0, 1, 3] rfl)
  exact hL_4 (100 + 1) 0 0 _ _ _ (Nat.zero_le _) (by omega) rfl hp (lv_sub hl [0, 1, 2] rfl)
def hf_X5_hasFreeChannels (v : hh_M) (r : Nat) (mast : Int32) (needed : Int32) : Int32 := (if (v (hh_mI mast.toNatClampNeg) 3) < ((v (hh_lI r) mast.toNatClampNeg) + needed) then 0 else 1)
set_option maxHeartbeats 4000000 in
set_option maxRecDepth 100000 in
theorem hk_X5_hasFreeChannels (l : Launch) (D : va_G) (K : Nat → ClassId) (ad : Nat → Nat) {nm : Nat} {nh nc : Nat → Nat} {v : hh_M} (hT : hh_T nm nh nc v) (r : Nat) (mast : Int32) (needed : Int32) (hr : r < 2) (h1 : vp_in mast 6) : hh_Ki l D K ad yX5_hasFreeChannels (hh_wm yX5_hasFreeChannels cX5_hasFreeChannels 3 (some .boolean)) { frames := 0, cells := 0, slots := 0, locals := 0 } [.ref (ad (hh_rI r)), .int mast, .int needed] v (fun (q : Int32) (v1 : hh_M) => q = hf_X5_hasFreeChannels v r mast needed ∧ v1 = v) := by
  refine hh_Ki_of (by decide) (Nat.le_of_ble_eq_true rfl) ?_
  intro p e s m args below meth c ls A C0 hp hl
  obtain ⟨hx, hb, hr9, hml, hown, hts, hK, hlk, hA⟩ := id C0
  have hnm := hT.1
  have hnh := hT.2.1
  have hnc := hT.2.2.1
  have hl : lv_has ls 3 [(0, .ref (ad (hh_rI r))), (1, .int mast), (2, .int needed)] := hl
  refine lv_aload_n hx hb dX5_hasFreeChannels_0 rfl (lv_at hl 0 rfl) ?_
  refine hh_get C0 hp (C := RX5) (T := TX5) (N := 10) (ci := 5) (hh_b_r hr) (hh_E_r r) rfl hh_uX5 1 (by decide) hm_98 rfl rfl dX5_hasFreeChannels_1 ?_
  refine lv_iload_n hx hb dX5_hasFreeChannels_4 rfl (lv_at hl 1 rfl) ?_
  have hin_5 : vp_in mast 6 := by assumption
  refine hh_ial C0 hp (hh_b_l hr) (hh_E_l r) hin_5 rfl dX5_hasFreeChannels_5 ?_
  refine lv_iload_n hx hb dX5_hasFreeChannels_6 rfl (lv_at hl 2 rfl) ?_
  refine lv_iadd hx hb dX5_hasFreeChannels_7 ?_
  refine lv_aload_n hx hb dX5_hasFreeChannels_8 rfl (lv_at hl 0 rfl) ?_
  refine hh_get C0 hp (C := RX5) (T := TX5) (N := 10) (ci := 5) (hh_b_r hr) (hh_E_r r) rfl hh_uX5 0 (by decide) hm_97 rfl rfl dX5_hasFreeChannels_9 ?_
  refine hh_get C0 hp (C := RX4) (T := TX4) (N := 3) (ci := 4) (by decide) hh_E_1 rfl hh_uX4 0 (by decide) hm_136 rfl rfl dX5_hasFreeChannels_12 ?_
  refine lv_iload_n hx hb dX5_hasFreeChannels_15 rfl (lv_at hl 1 rfl) ?_
  have hin_16 : vp_in mast 6 := by assumption
  refine hh_aal C0 hp (t0 := 2) (f := hh_mI) (by decide) hh_E_2 rfl rfl hin_16 rfl dX5_hasFreeChannels_16 ?_
  refine hh_get C0 hp (C := RX3) (T := TX3) (N := 7) (ci := 3) (hh_b_m (hh_lt hin_16)) (hh_E_m (hh_lt hin_16)) rfl hh_uX3 3 (by decide) hm_137 rfl rfl dX5_hasFreeChannels_17 ?_
  refine lv_icmp_gt (tgt := 27) hx hb dX5_hasFreeChannels_20 (by decide) (fun c_20 => ?_) (fun c_20 => ?_)
  · refine lv_iconst (v := 0) hx hb dX5_hasFreeChannels_27 (by decide) ?_
    exact hh_zret C0 hp dX5_hasFreeChannels_28 (Or.inl rfl) ⟨(by simp only [hf_X5_hasFreeChannels, if_pos c_20]), rfl⟩
  · refine lv_iconst (v := 1) hx hb dX5_hasFreeChannels_23 (by decide) ?_
    refine lv_goto (tgt := 28) hx hb dX5_hasFreeChannels_24 (by decide) ?_
    exact hh_zret C0 hp dX5_hasFreeChannels_28 (Or.inr rfl) ⟨(by simp only [hf_X5_hasFreeChannels, if_neg c_20]), rfl⟩
