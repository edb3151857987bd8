/-! 11.leaves2: laid by program (wip/gen/mk10.py) -/
def hf_X1_move (v : hh_M) (r : Nat) (i : Nat) : hh_M := (hh_let (hh_up v (hh_hI r i) 1 ((v (hh_hI r i) 1) + (v (hh_hI r i) 2)) : hh_M) (fun (v_10 : hh_M) => (if 0 ≤ (v_10 (hh_hI r i) 1) then (if (v_10 (hh_hI r i) 1) ≤ 99 then v_10 else (hh_let (hh_up v_10 (hh_hI r i) 1 (198 - (v_10 (hh_hI r i) 1)) : hh_M) (fun (v_59 : hh_M) => (hh_let (hh_up v_59 (hh_hI r i) 2 (-(v_59 (hh_hI r i) 2)) : hh_M) (fun (v_68 : hh_M) => v_68))))) else (hh_let (hh_up v_10 (hh_hI r i) 1 (-(v_10 (hh_hI r i) 1)) : hh_M) (fun (v_26 : hh_M) => (hh_let (hh_up v_26 (hh_hI r i) 2 (-(v_26 (hh_hI r i) 2)) : hh_M) (fun (v_35 : hh_M) => v_35)))))))
theorem ht_X1_move {nm : Nat} {nh nc : Nat → Nat} {v : hh_M} (hT : hh_T nm nh nc v) {r i : Nat} (hr : r < 2) (hi : i < 8) : hh_T nm nh nc (hf_X1_move v r i) := by
  have h1 := hh_T_h1 hT r hi
  have h2 := hh_T_h2 hT r hi
  unfold hf_X1_move
  simp only [hh_let, hh_ups, hh_upk (show (2 : Nat) ≠ 1 by decide), hh_uu]
  generalize v (hh_hI r i) 1 = a at h1 ⊢
  generalize v (hh_hI r i) 2 = b at h2 ⊢
  simp only [Int32.le_iff_toInt_le, show (0 : Int32).toInt = 0 from rfl, show (99 : Int32).toInt = 99 from rfl, show (-3 : Int32).toInt = -3 from rfl, show (3 : Int32).toInt = 3 from rfl] at h1 h2
  have e1 := hh_add (x := a) (y := b) (by omega)
  have e2 := hh_neg (x := b) (by omega)
  have e3 : (-(a + b)).toInt = -(a.toInt + b.toInt) := by rw [hh_neg (by rw [e1]; omega), e1]
  have e4 : (198 - (a + b)).toInt = 198 - (a.toInt + b.toInt) := by rw [hh_sub (by rw [e1, show (198 : Int32).toInt = 198 from rfl]; omega), e1]; rfl
  have k2 : -3 ≤ -b ∧ -b ≤ 3 := by simp only [Int32.le_iff_toInt_le, e2, show (-3 : Int32).toInt = -3 from rfl, show (3 : Int32).toInt = 3 from rfl]; omega
  simp only [Int32.le_iff_toInt_le, e1, show (0 : Int32).toInt = 0 from rfl, show (99 : Int32).toInt = 99 from rfl]
  split
  · split
    · exact hh_T_up hT (hh_R_h1 hr hi (by simp only [Int32.le_iff_toInt_le, e1, show (0 : Int32).toInt = 0 from rfl, show (99 : Int32).toInt = 99 from rfl]; omega))
    · exact hh_T_up (hh_T_up hT (hh_R_h1 hr hi (by simp only [Int32.le_iff_toInt_le, e4, show (0 : Int32).toInt = 0 from rfl, show (99 : Int32).toInt = 99 from rfl]; omega))) (hh_R_h2 hr hi k2)
  · exact hh_T_up (hh_T_up hT (hh_R_h1 hr hi (by simp only [Int32.le_iff_toInt_le, e3, show (0 : Int32).toInt = 0 from rfl, show (99 : Int32).toInt = 99 from rfl]; omega))) (hh_R_h2 hr hi k2)
set_option maxHeartbeats 4000000 in
set_option maxRecDepth 100000 in
theorem hk_X1_move (l : Launch) (D : va_G) (K : Nat → ClassId) (ad : Nat → Nat) {nm : Nat} {nh nc : Nat → Nat} {v : hh_M} (hT : hh_T nm nh nc v) (r : Nat) (i : Nat) (hr : r < 2) (hi : i < 8) : hh_Kv l D K ad yX1_move (hh_wm yX1_move cX1_move 1 none) { frames := 0, cells := 0, slots := 0, locals := 0 } [.ref (ad (hh_hI r i))] v (fun (v1 : hh_M) => v1 = hf_X1_move v r i ∧ (hh_T nm nh nc v1) ∧ hh_F (fun j k => j = hh_hI r i ∧ k < 13) v v1) := by
  refine hh_Kv_of (by decide) (Nat.le_of_ble_eq_true rfl) ?_
  intro p e s m args below meth c ls A C0 hp hl
  obtain ⟨hx, hb, hr9, hml, hown, hts, hK, hlk, hA⟩ := id C0
  have hnm := hT.1
  have hnh := hT.2.1
  have hnc := hT.2.2.1
  have hbHr := hnh r
  have hbCr := hnc r
  have hl : lv_has ls 1 [(0, .ref (ad (hh_hI r i)))] := hl
  refine lv_aload_n hx hb dX1_move_0 rfl (lv_at hl 0 rfl) ?_
  refine lv_dup hx hb dX1_move_1 rfl ?_
  refine hh_get C0 hp (C := RX1) (T := TX1) (N := 13) (ci := 1) (hh_b_h hr hi) (hh_E_h r hi) rfl hh_uX1 1 (by decide) hm_41 rfl rfl dX1_move_2 ?_
  refine lv_aload_n hx hb dX1_move_5 rfl (lv_at hl 0 rfl) ?_
  refine hh_get C0 hp (C := RX1) (T := TX1) (N := 13) (ci := 1) (hh_b_h hr hi) (hh_E_h r hi) rfl hh_uX1 2 (by decide) hm_42 rfl rfl dX1_move_6 ?_
  refine lv_iadd hx hb dX1_move_9 ?_
  refine hh_put C0 hp (C := RX1) (T := TX1) (N := 13) (ci := 1) (k := 1) (ty := .int) (hh_b_h hr hi) (hh_E_h r hi) (hh_ph1 r hi) rfl hh_uX1 tyX1_ok nmX1 (by decide) hm_41 rfl rfl (by decide +kernel) rfl rfl (Nat.le_of_ble_eq_true rfl) dX1_move_10 (fun H locs hp => ?_)
  obtain ⟨v_10, ev_10⟩ : ∃ z : hh_M, z = hh_up v (hh_hI r i) 1 ((v (hh_hI r i) 1) + (v (hh_hI r i) 2)) := ⟨_, rfl⟩
  rw [← ev_10] at hp
  have hFv_10 : hh_F (fun j k => j = hh_hI r i ∧ k < 13) v v_10 := by rw [ev_10]; exact hh_F_up hh_F_rf (by first | exact ⟨rfl, (by decide)⟩ | exact Or.inl ⟨rfl, by decide⟩ | exact Or.inr (Or.inl ⟨rfl, by decide⟩) | exact Or.inr (Or.inr ⟨rfl, by decide⟩))
  refine lv_aload_n hx hb dX1_move_13 rfl (lv_at hl 0 rfl) ?_
  refine hh_get C0 hp (C := RX1) (T := TX1) (N := 13) (ci := 1) (hh_b_h hr hi) (hh_E_h r hi) rfl hh_uX1 1 (by decide) hm_41 rfl rfl dX1_move_14 ?_
  refine lv_if_ge (tgt := 41) hx hb dX1_move_17 (by decide) (fun c_17 => ?_) (fun c_17 => ?_)
  · refine lv_aload_n hx hb dX1_move_41 rfl (lv_at hl 0 rfl) ?_
    refine hh_get C0 hp (C := RX1) (T := TX1) (N := 13) (ci := 1) (hh_b_h hr hi) (hh_E_h r hi) rfl hh_uX1 1 (by decide) hm_41 rfl rfl dX1_move_42 ?_
    refine lv_bipush (v := 99) hx hb dX1_move_45 (by decide) ?_
    refine lv_icmp_le (tgt := 71) hx hb dX1_move_47 (by decide) (fun c_47 => ?_) (fun c_47 => ?_)
    · exact hh_vret C0 hp dX1_move_71 ⟨(by show _ = _; unfold hf_X1_move; rw [hh_let_eq ev_10, if_pos c_17, if_pos c_47]), (by have h9 : v_10 = hf_X1_move v r i := (by unfold hf_X1_move; rw [hh_let_eq ev_10, if_pos c_17, if_pos c_47]); rw [h9]; exact ht_X1_move hT hr hi), hFv_10⟩
    · refine lv_aload_n hx hb dX1_move_50 rfl (lv_at hl 0 rfl) ?_
      refine lv_sipush (v := 198) hx hb dX1_move_51 (by decide) ?_
      refine lv_aload_n hx hb dX1_move_54 rfl (lv_at hl 0 rfl) ?_
      refine hh_get C0 hp (C := RX1) (T := TX1) (N := 13) (ci := 1) (hh_b_h hr hi) (hh_E_h r hi) rfl hh_uX1 1 (by decide) hm_41 rfl rfl dX1_move_55 ?_
      refine lv_isub hx hb dX1_move_58 ?_
      refine hh_put C0 hp (C := RX1) (T := TX1) (N := 13) (ci := 1) (k := 1) (ty := .int) (hh_b_h hr hi) (hh_E_h r hi) (hh_ph1 r hi) rfl hh_uX1 tyX1_ok nmX1 (by decide) hm_41 rfl rfl (by decide +kernel) rfl rfl (Nat.le_of_ble_eq_true rfl) dX1_move_59 (fun H locs hp => ?_)
      obtain ⟨v_59, ev_59⟩ : ∃ z : hh_M, z = hh_up v_10 (hh_hI r i) 1 (198 - (v_10 (hh_hI r i) 1)) := ⟨_, rfl⟩
      rw [← ev_59] at hp
      have hFv_59 : hh_F (fun j k => j = hh_hI r i ∧ k < 13) v v_59 := by rw [ev_59]; exact hh_F_up hFv_10 (by first | exact ⟨rfl, (by decide)⟩ | exact Or.inl ⟨rfl, by decide⟩ | exact Or.inr (Or.inl ⟨rfl, by decide⟩) | exact Or.inr (Or.inr ⟨rfl, by decide⟩))
      refine lv_aload_n hx hb dX1_move_62 rfl (lv_at hl 0 rfl) ?_
      refine lv_aload_n hx hb dX1_move_63 rfl (lv_at hl 0 rfl) ?_
      refine hh_get C0 hp (C := RX1) (T := TX1) (N := 13) (ci := 1) (hh_b_h hr hi) (hh_E_h r hi) rfl hh_uX1 2 (by decide) hm_42 rfl rfl dX1_move_64 ?_
      refine lv_ineg hx hb dX1_move_67 ?_
      refine hh_put C0 hp (C := RX1) (T := TX1) (N := 13) (ci := 1) (k := 2) (ty := .int) (hh_b_h hr hi) (hh_E_h r hi) (hh_ph2 r hi) rfl hh_uX1 tyX1_ok nmX1 (by decide) hm_42 rfl rfl (by decide +kernel) rfl rfl (Nat.le_of_ble_eq_true rfl) dX1_move_68 (fun H locs hp => ?_)
      obtain ⟨v_68, ev_68⟩ : ∃ z : hh_M, z = hh_up v_59 (hh_hI r i) 2 (-(v_59 (hh_hI r i) 2)) := ⟨_, rfl⟩
      rw [← ev_68] at hp
      have hFv_68 : hh_F (fun j k => j = hh_hI r i ∧ k < 13) v v_68 := by rw [ev_68]; exact hh_F_up hFv_59 (by first | exact ⟨rfl, (by decide)⟩ | exact Or.inl ⟨rfl, by decide⟩ | exact Or.inr (Or.inl ⟨rfl, by decide⟩) | exact Or.inr (Or.inr ⟨rfl, by decide⟩))
      exact hh_vret C0 hp dX1_move_71 ⟨(by show _ = _; unfold hf_X1_move; rw [hh_let_eq ev_10, if_pos c_17, if_neg c_47, hh_let_eq ev_59, hh_let_eq ev_68]), (by have h9 : v_68 = hf_X1_move v r i := (by unfold hf_X1_move; rw [hh_let_eq ev_10, if_pos c_17, if_neg c_47, hh_let_eq ev_59, hh_let_eq ev_68]); rw [h9]; exact ht_X1_move hT hr hi), hFv_68⟩
  · refine lv_aload_n hx hb dX1_move_20 rfl (lv_at hl 0 rfl) ?_
    refine lv_aload_n hx hb dX1_move_21 rfl (lv_at hl 0 rfl) ?_
    refine hh_get C0 hp (C := RX1) (T := TX1) (N := 13) (ci := 1) (hh_b_h hr hi) (hh_E_h r hi) rfl hh_uX1 1 (by decide) hm_41 rfl rfl dX1_move_22 ?_
    refine lv_ineg hx hb dX1_move_25 ?_
    refine hh_put C0 hp (C := RX1) (T := TX1) (N := 13) (ci := 1) (k := 1) (ty := .int) (hh_b_h hr hi) (hh_E_h r hi) (hh_ph1 r hi) rfl hh_uX1 tyX1_ok nmX1 (by decide) hm_41 rfl rfl (by decide +kernel) rfl rfl (Nat.le_of_ble_eq_true rfl) dX1_move_26 (fun H locs hp => ?_)
    obtain ⟨v_26, ev_26⟩ : ∃ z : hh_M, z = hh_up v_10 (hh_hI r i) 1 (-(v_10 (hh_hI r i) 1)) := ⟨_, rfl⟩
    rw [← ev_26] at hp
    have hFv_26 : hh_F (fun j k => j = hh_hI r i ∧ k < 13) v v_26 := by rw [ev_26]; exact hh_F_up hFv_10 (by first | exact ⟨rfl, (by decide)⟩ | exact Or.inl ⟨rfl, by decide⟩ | exact Or.inr (Or.inl ⟨rfl, by decide⟩) | exact Or.inr (Or.inr ⟨rfl, by decide⟩))
    refine lv_aload_n hx hb dX1_move_29 rfl (lv_at hl 0 rfl) ?_
    refine lv_aload_n hx hb dX1_move_30 rfl (lv_at hl 0 rfl) ?_
    refine hh_get C0 hp (C := RX1) (T := TX1) (N := 13) (ci := 1) (hh_b_h hr hi) (hh_E_h r hi) rfl hh_uX1 2 (by decide) hm_42 rfl rfl dX1_move_31 ?_
    refine lv_ineg hx hb dX1_move_34 ?_
    refine hh_put C0 hp (C := RX1) (T := TX1) (N := 13) (ci := 1) (k := 2) (ty := .int) (hh_b_h hr hi) (hh_E_h r hi) (hh_ph2 r hi) rfl hh_uX1 tyX1_ok nmX1 (by decide) hm_42 rfl rfl (by decide +kernel) rfl rfl (Nat.le_of_ble_eq_true rfl) dX1_move_35 (fun H locs hp => ?_)
    obtain ⟨v_35, ev_35⟩ : ∃ z : hh_M, z = hh_up v_26 (hh_hI r i) 2 (-(v_26 (hh_hI r i) 2)) := ⟨_, rfl⟩
    rw [← ev_35] at hp
    have hFv_35 : hh_F (fun j k => j = hh_hI r i ∧ k < 13) v v_35 := by rw [ev_35]; exact hh_F_up hFv_26 (by first | exact ⟨rfl, (by decide)⟩ | exact Or.inl ⟨rfl, by decide⟩ | exact Or.inr (Or.inl ⟨rfl, by decide⟩) | exact Or.inr (Or.inr ⟨rfl, by decide⟩))
    refine lv_goto (tgt := 71) hx hb dX1_move_38 (by decide) ?_
    exact hh_vret C0 hp dX1_move_71 ⟨(by show _ = _; unfold hf_X1_move; rw [hh_let_eq ev_10, if_neg c_17, hh_let_eq ev_26, hh_let_eq ev_35]), (by have h9 : v_35 = hf_X1_move v r i := (by unfold hf_X1_move; rw [hh_let_eq ev_10, if_neg c_17, hh_let_eq ev_26, hh_let_eq ev_35]); rw [h9]; exact ht_X1_move hT hr hi), hFv_35⟩
def hf_X1_tell (v : hh_M) (r : Nat) (i : Nat) (area : Int32) (now : Int32) : hh_M := (hh_let (hh_up v (hh_hI r i) 7 area : hh_M) (fun (v_2 : hh_M) => (hh_let (hh_up v_2 (hh_hI r i) 8 area : hh_M) (fun (v_7 : hh_M) => (hh_let (hh_up v_7 (hh_hI r i) 9 now : hh_M) (fun (v_12 : hh_M) => (hh_let (hh_up v_12 (hh_hI r i) 10 ((v_12 (hh_hI r i) 10) + 1) : hh_M) (fun (v_22 : hh_M) => v_22))))))))
set_option maxHeartbeats 4000000 in
set_option maxRecDepth 100000 in
theorem hk_X1_tell (l : Launch) (D : va_G) (K : Nat → ClassId) (ad : Nat → Nat) {nm : Nat} {nh nc : Nat → Nat} {v : hh_M} (hT : hh_T nm nh nc v) (r : Nat) (i : Nat) (area : Int32) (now : Int32) (hr : r < 2) (hi : i < 8) : hh_Kv l D K ad yX1_tell (hh_wm yX1_tell cX1_tell 3 none) { frames := 0, cells := 0, slots := 0, locals := 0 } [.ref (ad (hh_hI r i)), .int area, .int now] v (fun (v1 : hh_M) => v1 = hf_X1_tell v r i area now ∧ (hh_T nm nh nc v1) ∧ hh_F (fun j k => j = hh_hI r i ∧ k < 13) v v1) := by
  refine hh_Kv_of (by decide) (Nat.le_of_ble_eq_true rfl) ?_
  intro p e s m args below meth c ls A C0 hp hl
  obtain ⟨hx, hb, hr9, hml, hown, hts, hK, hlk, hA⟩ := id C0
  have hnm := hT.1
  have hnh := hT.2.1
  have hnc := hT.2.2.1
  have hbHr := hnh r
  have hbCr := hnc r
  have hl : lv_has ls 3 [(0, .ref (ad (hh_hI r i))), (1, .int area), (2, .int now)] := hl
  refine lv_aload_n hx hb dX1_tell_0 rfl (lv_at hl 0 rfl) ?_
  refine lv_iload_n hx hb dX1_tell_1 rfl (lv_at hl 1 rfl) ?_
  refine hh_put C0 hp (C := RX1) (T := TX1) (N := 13) (ci := 1) (k := 7) (ty := .int) (hh_b_h hr hi) (hh_E_h r hi) (hh_ph7 r hi) rfl hh_uX1 tyX1_ok nmX1 (by decide) hm_36 rfl rfl (by decide +kernel) rfl rfl (Nat.le_of_ble_eq_true rfl) dX1_tell_2 (fun H locs hp => ?_)
  obtain ⟨v_2, ev_2⟩ : ∃ z : hh_M, z = hh_up v (hh_hI r i) 7 area := ⟨_, rfl⟩
  rw [← ev_2] at hp
  have hTv_2 : hh_T nm nh nc v_2 := by rw [ev_2]; exact hh_T_up hT (hh_Rt_h hr hi (by decide))
  have hFv_2 : hh_F (fun j k => j = hh_hI r i ∧ k < 13) v v_2 := by rw [ev_2]; exact hh_F_up hh_F_rf (by first | exact ⟨rfl, (by decide)⟩ | exact Or.inl ⟨rfl, by decide⟩ | exact Or.inr (Or.inl ⟨rfl, by decide⟩) | exact Or.inr (Or.inr ⟨rfl, by decide⟩))
  refine lv_aload_n hx hb dX1_tell_5 rfl (lv_at hl 0 rfl) ?_
  refine lv_iload_n hx hb dX1_tell_6 rfl (lv_at hl 1 rfl) ?_
  refine hh_put C0 hp (C := RX1) (T := TX1) (N := 13) (ci := 1) (k := 8) (ty := .int) (hh_b_h hr hi) (hh_E_h r hi) (hh_ph8 r hi) rfl hh_uX1 tyX1_ok nmX1 (by decide) hm_37 rfl rfl (by decide +kernel) rfl rfl (Nat.le_of_ble_eq_true rfl) dX1_tell_7 (fun H locs hp => ?_)
  obtain ⟨v_7, ev_7⟩ : ∃ z : hh_M, z = hh_up v_2 (hh_hI r i) 8 area := ⟨_, rfl⟩
  rw [← ev_7] at hp
  have hTv_7 : hh_T nm nh nc v_7 := by rw [ev_7]; exact hh_T_up hTv_2 (hh_Rt_h hr hi (by decide))
  have hFv_7 : hh_F (fun j k => j = hh_hI r i ∧ k < 13) v v_7 := by rw [ev_7]; exact hh_F_up hFv_2 (by first | exact ⟨rfl, (by decide)⟩ | exact Or.inl ⟨rfl, by decide⟩ | exact Or.inr (Or.inl ⟨rfl, by decide⟩) | exact Or.inr (Or.inr ⟨rfl, by decide⟩))
  refine lv_aload_n hx hb dX1_tell_10 rfl (lv_at hl 0 rfl) ?_
  refine lv_iload_n hx hb dX1_tell_11 rfl (lv_at hl 2 rfl) ?_
  refine hh_put C0 hp (C := RX1) (T := TX1) (N := 13) (ci := 1) (k := 9) (ty := .int) (hh_b_h hr hi) (hh_E_h r hi) (hh_ph9 r hi) rfl hh_uX1 tyX1_ok nmX1 (by decide) hm_44 rfl rfl (by decide +kernel) rfl rfl (Nat.le_of_ble_eq_true rfl) dX1_tell_12 (fun H locs hp => ?_)
  obtain ⟨v_12, ev_12⟩ : ∃ z : hh_M, z = hh_up v_7 (hh_hI r i) 9 now := ⟨_, rfl⟩
  rw [← ev_12] at hp
  have hTv_12 : hh_T nm nh nc v_12 := by rw [ev_12]; exact hh_T_up hTv_7 (hh_Rt_h hr hi (by decide))
  have hFv_12 : hh_F (fun j k => j = hh_hI r i ∧ k < 13) v v_12 := by rw [ev_12]; exact hh_F_up hFv_7 (by first | exact ⟨rfl, (by decide)⟩ | exact Or.inl ⟨rfl, by decide⟩ | exact Or.inr (Or.inl ⟨rfl, by decide⟩) | exact Or.inr (Or.inr ⟨rfl, by decide⟩))
  refine lv_aload_n hx hb dX1_tell_15 rfl (lv_at hl 0 rfl) ?_
  refine lv_dup hx hb dX1_tell_16 rfl ?_
  refine hh_get C0 hp (C := RX1) (T := TX1) (N := 13) (ci := 1) (hh_b_h hr hi) (hh_E_h r hi) rfl hh_uX1 10 (by decide) hm_45 rfl rfl dX1_tell_17 ?_
  refine lv_iconst (v := 1) hx hb dX1_tell_20 (by decide) ?_
  refine lv_iadd hx hb dX1_tell_21 ?_
  refine hh_put C0 hp (C := RX1) (T := TX1) (N := 13) (ci := 1) (k := 10) (ty := .int) (hh_b_h hr hi) (hh_E_h r hi) (hh_ph10 r hi) rfl hh_uX1 tyX1_ok nmX1 (by decide) hm_45 rfl rfl (by decide +kernel) rfl rfl (Nat.le_of_ble_eq_true rfl) dX1_tell_22 (fun H locs hp => ?_)
  obtain ⟨v_22, ev_22⟩ : ∃ z : hh_M, z = hh_up v_12 (hh_hI r i) 10 ((v_12 (hh_hI r i) 10) + 1) := ⟨_, rfl⟩
  rw [← ev_22] at hp
  have hTv_22 : hh_T nm nh nc v_22 := by rw [ev_22]; exact hh_T_up hTv_12 (hh_Rt_h hr hi (by decide))
  have hFv_22 : hh_F (fun j k => j = hh_hI r i ∧ k < 13) v v_22 := by rw [ev_22]; exact hh_F_up hFv_12 (by first | exact ⟨rfl, (by decide)⟩ | exact Or.inl ⟨rfl, by decide⟩ | exact Or.inr (Or.inl ⟨rfl, by decide⟩) | exact Or.inr (Or.inr ⟨rfl, by decide⟩))
  exact hh_vret C0 hp dX1_tell_25 ⟨(by show _ = _; unfold hf_X1_tell; rw [hh_let_eq ev_2, hh_let_eq ev_7, hh_let_eq ev_12, hh_let_eq ev_22]), hTv_22, hFv_22⟩
def hf_X1_copyFrom (v : hh_M) (r : Nat) (i : Nat) (r2 : Nat) (i2 : Nat) : hh_M := (hh_let (hh_up v (hh_hI r i) 0 (v (hh_hI r2 i2) 0) : hh_M) (fun (v_5 : hh_M) => (hh_let (hh_up v_5 (hh_hI r i) 1 (v_5 (hh_hI r2 i2) 1) : hh_M) (fun (v_13 : hh_M) => (hh_let (hh_up v_13 (hh_hI r i) 2 (v_13 (hh_hI r2 i2) 2) : hh_M) (fun (v_21 : hh_M) => (hh_let (hh_up v_21 (hh_hI r i) 3 (v_21 (hh_hI r2 i2) 3) : hh_M) (fun (v_29 : hh_M) => (hh_let (hh_up v_29 (hh_hI r i) 4 (v_29 (hh_hI r2 i2) 4) : hh_M) (fun (v_37 : hh_M) => (hh_let (hh_up v_37 (hh_hI r i) 5 (v_37 (hh_hI r2 i2) 5) : hh_M) (fun (v_45 : hh_M) => (hh_let (hh_up v_45 (hh_hI r i) 6 (v_45 (hh_hI r2 i2) 6) : hh_M) (fun (v_53 : hh_M) => (hh_let (hh_up v_53 (hh_hI r i) 7 (v_53 (hh_hI r2 i2) 7) : hh_M) (fun (v_61 : hh_M) => (hh_let (hh_up v_61 (hh_hI r i) 8 (v_61 (hh_hI r2 i2) 8) : hh_M) (fun (v_69 : hh_M) => (hh_let (hh_up v_69 (hh_hI r i) 9 (v_69 (hh_hI r2 i2) 9) : hh_M) (fun (v_77 : hh_M) => (hh_let (hh_up v_77 (hh_hI r i) 10 (v_77 (hh_hI r2 i2) 10) : hh_M) (fun (v_85 : hh_M) => (hh_let (hh_up v_85 (hh_hI r i) 11 (v_85 (hh_hI r2 i2) 11) : hh_M) (fun (v_93 : hh_M) => (hh_let (hh_up v_93 (hh_hI r i) 12 (v_93 (hh_hI r2 i2) 12) : hh_M) (fun (v_101 : hh_M) => v_101))))))))))))))))))))))))))
set_option maxHeartbeats 4000000 in
set_option maxRecDepth 100000 in
theorem hk_X1_copyFrom (l : Launch) (D : va_G) (K : Nat → ClassId) (ad : Nat → Nat) {nm : Nat} {nh nc : Nat → Nat} {v : hh_M} (hT : hh_T nm nh nc v) (r : Nat) (i : Nat) (r2 : Nat) (i2 : Nat) (hr : r < 2) (hi : i < 8) (hr2 : r2 < 2) (hi2 : i2 < 8) : hh_Kv l D K ad yX1_copyFrom (hh_wm yX1_copyFrom cX1_copyFrom 2 none) { frames := 0, cells := 0, slots := 0, locals := 0 } [.ref (ad (hh_hI r i)), .ref (ad (hh_hI r2 i2))] v (fun (v1 : hh_M) => v1 = hf_X1_copyFrom v r i r2 i2 ∧ (hh_T nm nh nc v1) ∧ hh_F (fun j k => j = hh_hI r i ∧ k < 13) v v1) := by
  refine hh_Kv_of (by decide) (Nat.le_of_ble_eq_true rfl) ?_
  intro p e s m args below meth c ls A C0 hp hl
  obtain ⟨hx, hb, hr9, hml, hown, hts, hK, hlk, hA⟩ := id C0
  have hnm := hT.1
  have hnh := hT.2.1
  have hnc := hT.2.2.1
  have hbHr := hnh r
  have hbCr := hnc r
  have hbHr2 := hnh r2
  have hbCr2 := hnc r2
  have hl : lv_has ls 2 [(0, .ref (ad (hh_hI r i))), (1, .ref (ad (hh_hI r2 i2)))] := hl
  refine lv_aload_n hx hb dX1_copyFrom_0 rfl (lv_at hl 0 rfl) ?_
  refine lv_aload_n hx hb dX1_copyFrom_1 rfl (lv_at hl 1 rfl) ?_
  refine hh_get C0 hp (C := RX1) (T := TX1) (N := 13) (ci := 1) (hh_b_h hr2 hi2) (hh_E_h r2 hi2) rfl hh_uX1 0 (by decide) hm_47 rfl rfl dX1_copyFrom_2 ?_
  refine hh_put C0 hp (C := RX1) (T := TX1) (N := 13) (ci := 1) (k := 0) (ty := .int) (hh_b_h hr hi) (hh_E_h r hi) (hh_ph0 r hi) rfl hh_uX1 tyX1_ok nmX1 (by decide) hm_47 rfl rfl (by decide +kernel) rfl rfl (Nat.le_of_ble_eq_true rfl) dX1_copyFrom_5 (fun H locs hp => ?_)
  obtain ⟨v_5, ev_5⟩ : ∃ z : hh_M, z = hh_up v (hh_hI r i) 0 (v (hh_hI r2 i2) 0) := ⟨_, rfl⟩
  rw [← ev_5] at hp
  have hTv_5 : hh_T nm nh nc v_5 := by rw [ev_5]; exact hh_T_up hT (hh_Rt_h hr hi (by decide))
  have hFv_5 : hh_F (fun j k => j = hh_hI r i ∧ k < 13) v v_5 := by rw [ev_5]; exact hh_F_up hh_F_rf (by first | exact ⟨rfl, (by decide)⟩ | exact Or.inl ⟨rfl, by decide⟩ | exact Or.inr (Or.inl ⟨rfl, by decide⟩) | exact Or.inr (Or.inr ⟨rfl, by decide⟩))
  refine lv_aload_n hx hb dX1_copyFrom_8 rfl (lv_at hl 0 rfl) ?_
  refine lv_aload_n hx hb dX1_copyFrom_9 rfl (lv_at hl 1 rfl) ?_
  refine hh_get C0 hp (C := RX1) (T := TX1) (N := 13) (ci := 1) (hh_b_h hr2 hi2) (hh_E_h r2 hi2) rfl hh_uX1 1 (by decide) hm_41 rfl rfl dX1_copyFrom_10 ?_
  refine hh_put C0 hp (C := RX1) (T := TX1) (N := 13) (ci := 1) (k := 1) (ty := .int) (hh_b_h hr hi) (hh_E_h r hi) (hh_ph1 r hi) rfl hh_uX1 tyX1_ok nmX1 (by decide) hm_41 rfl rfl (by decide +kernel) rfl rfl (Nat.le_of_ble_eq_true rfl) dX1_copyFrom_13 (fun H locs hp => ?_)
  obtain ⟨v_13, ev_13⟩ : ∃ z : hh_M, z = hh_up v_5 (hh_hI r i) 1 (v_5 (hh_hI r2 i2) 1) := ⟨_, rfl⟩
  rw [← ev_13] at hp
  have hTv_13 : hh_T nm nh nc v_13 := by rw [ev_13]; exact hh_T_up hTv_5 (hh_R_h1 hr hi (hh_T_h1 hTv_5 r2 hi2))
  have hFv_13 : hh_F (fun j k => j = hh_hI r i ∧ k < 13) v v_13 := by rw [ev_13]; exact hh_F_up hFv_5 (by first | exact ⟨rfl, (by decide)⟩ | exact Or.inl ⟨rfl, by decide⟩ | exact Or.inr (Or.inl ⟨rfl, by decide⟩) | exact Or.inr (Or.inr ⟨rfl, by decide⟩))
  refine lv_aload_n hx hb dX1_copyFrom_16 rfl (lv_at hl 0 rfl) ?_
  refine lv_aload_n hx hb dX1_copyFrom_17 rfl (lv_at hl 1 rfl) ?_
  refine hh_get C0 hp (C := RX1) (T := TX1) (N := 13) (ci := 1) (hh_b_h hr2 hi2) (hh_E_h r2 hi2) rfl hh_uX1 2 (by decide) hm_42 rfl rfl dX1_copyFrom_18 ?_
  refine hh_put C0 hp (C := RX1) (T := TX1) (N := 13) (ci := 1) (k := 2) (ty := .int) (hh_b_h hr hi) (hh_E_h r hi) (hh_ph2 r hi) rfl hh_uX1 tyX1_ok nmX1 (by decide) hm_42 rfl rfl (by decide +kernel) rfl rfl (Nat.le_of_ble_eq_true rfl) dX1_copyFrom_21 (fun H locs hp => ?_)
  obtain ⟨v_21, ev_21⟩ : ∃ z : hh_M, z = hh_up v_13 (hh_hI r i) 2 (v_13 (hh_hI r2 i2) 2) := ⟨_, rfl⟩
  rw [← ev_21] at hp
  have hTv_21 : hh_T nm nh nc v_21 := by rw [ev_21]; exact hh_T_up hTv_13 (hh_R_h2 hr hi (hh_T_h2 hTv_13 r2 hi2))
  have hFv_21 : hh_F (fun j k => j = hh_hI r i ∧ k < 13) v v_21 := by rw [ev_21]; exact hh_F_up hFv_13 (by first | exact ⟨rfl, (by decide)⟩ | exact Or.inl ⟨rfl, by decide⟩ | exact Or.inr (Or.inl ⟨rfl, by decide⟩) | exact Or.inr (Or.inr ⟨rfl, by decide⟩))
  refine lv_aload_n hx hb dX1_copyFrom_24 rfl (lv_at hl 0 rfl) ?_
  refine lv_aload_n hx hb dX1_copyFrom_25 rfl (lv_at hl 1 rfl) ?_
  refine hh_get C0 hp (C := RX1) (T := TX1) (N := 13) (ci := 1) (hh_b_h hr2 hi2) (hh_E_h r2 hi2) rfl hh_uX1 3 (by decide) hm_48 rfl rfl dX1_copyFrom_26 ?_
  refine hh_put C0 hp (C := RX1) (T := TX1) (N := 13) (ci := 1) (k := 3) (ty := .int) (hh_b_h hr hi) (hh_E_h r hi) (hh_ph3 r hi) rfl hh_uX1 tyX1_ok nmX1 (by decide) hm_48 rfl rfl (by decide +kernel) rfl rfl (Nat.le_of_ble_eq_true rfl) dX1_copyFrom_29 (fun H locs hp => ?_)
  obtain ⟨v_29, ev_29⟩ : ∃ z : hh_M, z = hh_up v_21 (hh_hI r i) 3 (v_21 (hh_hI r2 i2) 3) := ⟨_, rfl⟩
  rw [← ev_29] at hp
  have hTv_29 : hh_T nm nh nc v_29 := by rw [ev_29]; exact hh_T_up hTv_21 (hh_Rt_h hr hi (by decide))
  have hFv_29 : hh_F (fun j k => j = hh_hI r i ∧ k < 13) v v_29 := by rw [ev_29]; exact hh_F_up hFv_21 (by first | exact ⟨rfl, (by decide)⟩ | exact Or.inl ⟨rfl, by decide⟩ | exact Or.inr (Or.inl ⟨rfl, by decide⟩) | exact Or.inr (Or.inr ⟨rfl, by decide⟩))
  refine lv_aload_n hx hb dX1_copyFrom_32 rfl (lv_at hl 0 rfl) ?_
  refine lv_aload_n hx hb dX1_copyFrom_33 rfl (lv_at hl 1 rfl) ?_
  refine hh_get C0 hp (C := RX1) (T := TX1) (N := 13) (ci := 1) (hh_b_h hr2 hi2) (hh_E_h r2 hi2) rfl hh_uX1 4 (by decide) hm_39 rfl rfl dX1_copyFrom_34 ?_
  refine hh_put C0 hp (C := RX1) (T := TX1) (N := 13) (ci := 1) (k := 4) (ty := .boolean) (hh_b_h hr hi) (hh_E_h r hi) (hh_ph4 r hi) rfl hh_uX1 tyX1_ok nmX1 (by decide) hm_39 rfl rfl (by decide +kernel) (hh_nz (hh_T_h4 hTv_29 r2 hi2)) (hh_fz (hh_T_h4 hTv_29 r2 hi2)) (Nat.le_of_ble_eq_true rfl) dX1_copyFrom_37 (fun H locs hp => ?_)
  obtain ⟨v_37, ev_37⟩ : ∃ z : hh_M, z = hh_up v_29 (hh_hI r i) 4 (v_29 (hh_hI r2 i2) 4) := ⟨_, rfl⟩
  rw [← ev_37] at hp
  have hTv_37 : hh_T nm nh nc v_37 := by rw [ev_37]; exact hh_T_up hTv_29 (hh_R_h4 hr hi (hh_T_h4 hTv_29 r2 hi2))
  have hFv_37 : hh_F (fun j k => j = hh_hI r i ∧ k < 13) v v_37 := by rw [ev_37]; exact hh_F_up hFv_29 (by first | exact ⟨rfl, (by decide)⟩ | exact Or.inl ⟨rfl, by decide⟩ | exact Or.inr (Or.inl ⟨rfl, by decide⟩) | exact Or.inr (Or.inr ⟨rfl, by decide⟩))
  refine lv_aload_n hx hb dX1_copyFrom_40 rfl (lv_at hl 0 rfl) ?_
  refine lv_aload_n hx hb dX1_copyFrom_41 rfl (lv_at hl 1 rfl) ?_
  refine hh_get C0 hp (C := RX1) (T := TX1) (N := 13) (ci := 1) (hh_b_h hr2 hi2) (hh_E_h r2 hi2) rfl hh_uX1 5 (by decide) hm_34 rfl rfl dX1_copyFrom_42 ?_
  refine hh_put C0 hp (C := RX1) (T := TX1) (N := 13) (ci := 1) (k := 5) (ty := .int) (hh_b_h hr hi) (hh_E_h r hi) (hh_ph5 r hi) rfl hh_uX1 tyX1_ok nmX1 (by decide) hm_34 rfl rfl (by decide +kernel) rfl rfl (Nat.le_of_ble_eq_true rfl) dX1_copyFrom_45 (fun H locs hp => ?_)
  obtain ⟨v_45, ev_45⟩ : ∃ z : hh_M, z = hh_up v_37 (hh_hI r i) 5 (v_37 (hh_hI r2 i2) 5) := ⟨_, rfl⟩
  rw [← ev_45] at hp
  have hTv_45 : hh_T nm nh nc v_45 := by rw [ev_45]; exact hh_T_up hTv_37 (hh_R_h5 hr hi (hh_T_h5 hTv_37 r2 hi2))
  have hFv_45 : hh_F (fun j k => j = hh_hI r i ∧ k < 13) v v_45 := by rw [ev_45]; exact hh_F_up hFv_37 (by first | exact ⟨rfl, (by decide)⟩ | exact Or.inl ⟨rfl, by decide⟩ | exact Or.inr (Or.inl ⟨rfl, by decide⟩) | exact Or.inr (Or.inr ⟨rfl, by decide⟩))
  refine lv_aload_n hx hb dX1_copyFrom_48 rfl (lv_at hl 0 rfl) ?_
  refine lv_aload_n hx hb dX1_copyFrom_49 rfl (lv_at hl 1 rfl) ?_
  refine hh_get C0 hp (C := RX1) (T := TX1) (N := 13) (ci := 1) (hh_b_h hr2 hi2) (hh_E_h r2 hi2) rfl hh_uX1 6 (by decide) hm_35 rfl rfl dX1_copyFrom_50 ?_
  refine hh_put C0 hp (C := RX1) (T := TX1) (N := 13) (ci := 1) (k := 6) (ty := .int) (hh_b_h hr hi) (hh_E_h r hi) (hh_ph6 r hi) rfl hh_uX1 tyX1_ok nmX1 (by decide) hm_35 rfl rfl (by decide +kernel) rfl rfl (Nat.le_of_ble_eq_true rfl) dX1_copyFrom_53 (fun H locs hp => ?_)
  obtain ⟨v_53, ev_53⟩ : ∃ z : hh_M, z = hh_up v_45 (hh_hI r i) 6 (v_45 (hh_hI r2 i2) 6) := ⟨_, rfl⟩
  rw [← ev_53] at hp
  have hTv_53 : hh_T nm nh nc v_53 := by rw [ev_53]; exact hh_T_up hTv_45 (hh_R_h6 hr hi (hh_T_h6 hTv_45 r2 hi2))
  have hFv_53 : hh_F (fun j k => j = hh_hI r i ∧ k < 13) v v_53 := by rw [ev_53]; exact hh_F_up hFv_45 (by first | exact ⟨rfl, (by decide)⟩ | exact Or.inl ⟨rfl, by decide⟩ | exact Or.inr (Or.inl ⟨rfl, by decide⟩) | exact Or.inr (Or.inr ⟨rfl, by decide⟩))
  refine lv_aload_n hx hb dX1_copyFrom_56 rfl (lv_at hl 0 rfl) ?_
  refine lv_aload_n hx hb dX1_copyFrom_57 rfl (lv_at hl 1 rfl) ?_
  refine hh_get C0 hp (C := RX1) (T := TX1) (N := 13) (ci := 1) (hh_b_h hr2 hi2) (hh_E_h r2 hi2) rfl hh_uX1 7 (by decide) hm_36 rfl rfl dX1_copyFrom_58 ?_
  refine hh_put C0 hp (C := RX1) (T := TX1) (N := 13) (ci := 1) (k := 7) (ty := .int) (hh_b_h hr hi) (hh_E_h r hi) (hh_ph7 r hi) rfl hh_uX1 tyX1_ok nmX1 (by decide) hm_36 rfl rfl (by decide +kernel) rfl rfl (Nat.le_of_ble_eq_true rfl) dX1_copyFrom_61 (fun H locs hp => ?_)
  obtain ⟨v_61, ev_61⟩ : ∃ z : hh_M, z = hh_up v_53 (hh_hI r i) 7 (v_53 (hh_hI r2 i2) 7) := ⟨_, rfl⟩
  rw [← ev_61] at hp
  have hTv_61 : hh_T nm nh nc v_61 := by rw [ev_61]; exact hh_T_up hTv_53 (hh_Rt_h hr hi (by decide))
  have hFv_61 : hh_F (fun j k => j = hh_hI r i ∧ k < 13) v v_61 := by rw [ev_61]; exact hh_F_up hFv_53 (by first | exact ⟨rfl, (by decide)⟩ | exact Or.inl ⟨rfl, by decide⟩ | exact Or.inr (Or.inl ⟨rfl, by decide⟩) | exact Or.inr (Or.inr ⟨rfl, by decide⟩))
  refine lv_aload_n hx hb dX1_copyFrom_64 rfl (lv_at hl 0 rfl) ?_
  refine lv_aload_n hx hb dX1_copyFrom_65 rfl (lv_at hl 1 rfl) ?_
  refine hh_get C0 hp (C := RX1) (T := TX1) (N := 13) (ci := 1) (hh_b_h hr2 hi2) (hh_E_h r2 hi2) rfl hh_uX1 8 (by decide) hm_37 rfl rfl dX1_copyFrom_66 ?_
  refine hh_put C0 hp (C := RX1) (T := TX1) (N := 13) (ci := 1) (k := 8) (ty := .int) (hh_b_h hr hi) (hh_E_h r hi) (hh_ph8 r hi) rfl hh_uX1 tyX1_ok nmX1 (by decide) hm_37 rfl rfl (by decide +kernel) rfl rfl (Nat.le_of_ble_eq_true rfl) dX1_copyFrom_69 (fun H locs hp => ?_)
  obtain ⟨v_69, ev_69⟩ : ∃ z : hh_M, z = hh_up v_61 (hh_hI r i) 8 (v_61 (hh_hI r2 i2) 8) := ⟨_, rfl⟩
  rw [← ev_69] at hp
  have hTv_69 : hh_T nm nh nc v_69 := by rw [ev_69]; exact hh_T_up hTv_61 (hh_Rt_h hr hi (by decide))
  have hFv_69 : hh_F (fun j k => j = hh_hI r i ∧ k < 13) v v_69 := by rw [ev_69]; exact hh_F_up hFv_61 (by first | exact ⟨rfl, (by decide)⟩ | exact Or.inl ⟨rfl, by decide⟩ | exact Or.inr (Or.inl ⟨rfl, by decide⟩) | exact Or.inr (Or.inr ⟨rfl, by decide⟩))
  refine lv_aload_n hx hb dX1_copyFrom_72 rfl (lv_at hl 0 rfl) ?_
  refine lv_aload_n hx hb dX1_copyFrom_73 rfl (lv_at hl 1 rfl) ?_
  refine hh_get C0 hp (C := RX1) (T := TX1) (N := 13) (ci := 1) (hh_b_h hr2 hi2) (hh_E_h r2 hi2) rfl hh_uX1 9 (by decide) hm_44 rfl rfl dX1_copyFrom_74 ?_
  refine hh_put C0 hp (C := RX1) (T := TX1) (N := 13) (ci := 1) (k := 9) (ty := .int) (hh_b_h hr hi) (hh_E_h r hi) (hh_ph9 r hi) rfl hh_uX1 tyX1_ok nmX1 (by decide) hm_44 rfl rfl (by decide +kernel) rfl rfl (Nat.le_of_ble_eq_true rfl) dX1_copyFrom_77 (fun H locs hp => ?_)
  obtain ⟨v_77, ev_77⟩ : ∃ z : hh_M, z = hh_up v_69 (hh_hI r i) 9 (v_69 (hh_hI r2 i2) 9) := ⟨_, rfl⟩
  rw [← ev_77] at hp
  have hTv_77 : hh_T nm nh nc v_77 := by rw [ev_77]; exact hh_T_up hTv_69 (hh_Rt_h hr hi (by decide))
  have hFv_77 : hh_F (fun j k => j = hh_hI r i ∧ k < 13) v v_77 := by rw [ev_77]; exact hh_F_up hFv_69 (by first | exact ⟨rfl, (by decide)⟩ | exact Or.inl ⟨rfl, by decide⟩ | exact Or.inr (Or.inl ⟨rfl, by decide⟩) | exact Or.inr (Or.inr ⟨rfl, by decide⟩))
  refine lv_aload_n hx hb dX1_copyFrom_80 rfl (lv_at hl 0 rfl) ?_
  refine lv_aload_n hx hb dX1_copyFrom_81 rfl (lv_at hl 1 rfl) ?_
  refine hh_get C0 hp (C := RX1) (T := TX1) (N := 13) (ci := 1) (hh_b_h hr2 hi2) (hh_E_h r2 hi2) rfl hh_uX1 10 (by decide) hm_45 rfl rfl dX1_copyFrom_82 ?_
  refine hh_put C0 hp (C := RX1) (T := TX1) (N := 13) (ci := 1) (k := 10) (ty := .int) (hh_b_h hr hi) (hh_E_h r hi) (hh_ph10 r hi) rfl hh_uX1 tyX1_ok nmX1 (by decide) hm_45 rfl rfl (by decide +kernel) rfl rfl (Nat.le_of_ble_eq_true rfl) dX1_copyFrom_85 (fun H locs hp => ?_)
  obtain ⟨v_85, ev_85⟩ : ∃ z : hh_M, z = hh_up v_77 (hh_hI r i) 10 (v_77 (hh_hI r2 i2) 10) := ⟨_, rfl⟩
  rw [← ev_85] at hp
  have hTv_85 : hh_T nm nh nc v_85 := by rw [ev_85]; exact hh_T_up hTv_77 (hh_Rt_h hr hi (by decide))
  have hFv_85 : hh_F (fun j k => j = hh_hI r i ∧ k < 13) v v_85 := by rw [ev_85]; exact hh_F_up hFv_77 (by first | exact ⟨rfl, (by decide)⟩ | exact Or.inl ⟨rfl, by decide⟩ | exact Or.inr (Or.inl ⟨rfl, by decide⟩) | exact Or.inr (Or.inr ⟨rfl, by decide⟩))
  refine lv_aload_n hx hb dX1_copyFrom_88 rfl (lv_at hl 0 rfl) ?_
  refine lv_aload_n hx hb dX1_copyFrom_89 rfl (lv_at hl 1 rfl) ?_
  refine hh_get C0 hp (C := RX1) (T := TX1) (N := 13) (ci := 1) (hh_b_h hr2 hi2) (hh_E_h r2 hi2) rfl hh_uX1 11 (by decide) hm_49 rfl rfl dX1_copyFrom_90 ?_
  refine hh_put C0 hp (C := RX1) (T := TX1) (N := 13) (ci := 1) (k := 11) (ty := .int) (hh_b_h hr hi) (hh_E_h r hi) (hh_ph11 r hi) rfl hh_uX1 tyX1_ok nmX1 (by decide) hm_49 rfl rfl (by decide +kernel) rfl rfl (Nat.le_of_ble_eq_true rfl) dX1_copyFrom_93 (fun H locs hp => ?_)
  obtain ⟨v_93, ev_93⟩ : ∃ z : hh_M, z = hh_up v_85 (hh_hI r i) 11 (v_85 (hh_hI r2 i2) 11) := ⟨_, rfl⟩
  rw [← ev_93] at hp
  have hTv_93 : hh_T nm nh nc v_93 := by rw [ev_93]; exact hh_T_up hTv_85 (hh_Rt_h hr hi (by decide))
  have hFv_93 : hh_F (fun j k => j = hh_hI r i ∧ k < 13) v v_93 := by rw [ev_93]; exact hh_F_up hFv_85 (by first | exact ⟨rfl, (by decide)⟩ | exact Or.inl ⟨rfl, by decide⟩ | exact Or.inr (Or.inl ⟨rfl, by decide⟩) | exact Or.inr (Or.inr ⟨rfl, by decide⟩))
  refine lv_aload_n hx hb dX1_copyFrom_96 rfl (lv_at hl 0 rfl) ?_
  refine lv_aload_n hx hb dX1_copyFrom_97 rfl (lv_at hl 1 rfl) ?_
  refine hh_get C0 hp (C := RX1) (T := TX1) (N := 13) (ci := 1) (hh_b_h hr2 hi2) (hh_E_h r2 hi2) rfl hh_uX1 12 (by decide) hm_50 rfl rfl dX1_copyFrom_98 ?_
  refine hh_put C0 hp (C := RX1) (T := TX1) (N := 13) (ci := 1) (k := 12) (ty := .int) (hh_b_h hr hi) (hh_E_h r hi) (hh_ph12 r hi) rfl hh_uX1 tyX1_ok nmX1 (by decide) hm_50 rfl rfl (by decide +kernel) rfl rfl (Nat.le_of_ble_eq_true rfl) dX1_copyFrom_101 (fun H locs hp => ?_)
  obtain ⟨v_101, ev_101⟩ : ∃ z : hh_M, z = hh_up v_93 (hh_hI r i) 12 (v_93 (hh_hI r2 i2) 12) := ⟨_, rfl⟩
  rw [← ev_101] at hp
  have hTv_101 : hh_T nm nh nc v_101 := by rw [ev_101]; exact hh_T_up hTv_93 (hh_Rt_h hr hi (by decide))
  have hFv_101 : hh_F (fun j k => j = hh_hI r i ∧ k < 13) v v_101 := by rw [ev_101]; exact hh_F_up hFv_93 (by first | exact ⟨rfl, (by decide)⟩ | exact Or.inl ⟨rfl, by decide⟩ | exact Or.inr (Or.inl ⟨rfl, by decide⟩) | exact Or.inr (Or.inr ⟨rfl, by decide⟩))
  exact hh_vret C0 hp dX1_copyFrom_104 ⟨(by show _ = _; unfold hf_X1_copyFrom; rw [hh_let_eq ev_5, hh_let_eq ev_13, hh_let_eq ev_21, hh_let_eq ev_29, hh_let_eq ev_37, hh_let_eq ev_45, hh_let_eq ev_53, hh_let_eq ev_61, hh_let_eq ev_69, hh_let_eq ev_77, hh_let_eq ev_85, hh_let_eq ev_93, hh_let_eq ev_101]), hTv_101, hFv_101⟩
def hf_X2_copyFrom (v : hh_M) (r : Nat) (i : Nat) (g : Nat) (r2 : Nat) (i2 : Nat) (g2 : Nat) : hh_M := (hh_let (hh_up v (hh_gI r i g) 0 (v (hh_gI r2 i2 g2) 0) : hh_M) (fun (v_5 : hh_M) => (hh_let (hh_up v_5 (hh_gI r i g) 1 (v_5 (hh_gI r2 i2 g2) 1) : hh_M) (fun (v_13 : hh_M) => (hh_let (hh_up v_13 (hh_gI r i g) 2 (v_13 (hh_gI r2 i2 g2) 2) : hh_M) (fun (v_21 : hh_M) => (hh_let (hh_up v_21 (hh_gI r i g) 3 (v_21 (hh_gI r2 i2 g2) 3) : hh_M) (fun (v_29 : hh_M) => (hh_let (hh_up v_29 (hh_gI r i g) 4 (v_29 (hh_gI r2 i2 g2) 4) : hh_M) (fun (v_37 : hh_M) => (hh_let (hh_up v_37 (hh_gI r i g) 5 (v_37 (hh_gI r2 i2 g2) 5) : hh_M) (fun (v_45 : hh_M) => v_45))))))))))))
set_option maxHeartbeats 4000000 in
set_option maxRecDepth 100000 in
theorem hk_X2_copyFrom (l : Launch) (D : va_G) (K : Nat → ClassId) (ad : Nat → Nat) {nm : Nat} {nh nc : Nat → Nat} {v : hh_M} (hT : hh_T nm nh nc v) (r : Nat) (i : Nat) (g : Nat) (r2 : Nat) (i2 : Nat) (g2 : Nat) (hr : r < 2) (hi : i < 24) (hg : g < 2) (hr2 : r2 < 2) (hi2 : i2 < 24) (hg2 : g2 < 2) (hn : nh r2 ≤ nh r) : hh_Kv l D K ad yX2_copyFrom (hh_wm yX2_copyFrom cX2_copyFrom 2 none) { frames := 0, cells := 0, slots := 0, locals := 0 } [.ref (ad (hh_gI r i g)), .ref (ad (hh_gI r2 i2 g2))] v (fun (v1 : hh_M) => v1 = hf_X2_copyFrom v r i g r2 i2 g2 ∧ (hh_T nm nh nc v1) ∧ hh_F (fun j k => j = hh_gI r i g ∧ k < 6) v v1) := by
  refine hh_Kv_of (by decide) (Nat.le_of_ble_eq_true rfl) ?_
  intro p e s m args below meth c ls A C0 hp hl
  obtain ⟨hx, hb, hr9, hml, hown, hts, hK, hlk, hA⟩ := id C0
  have hnm := hT.1
  have hnh := hT.2.1
  have hnc := hT.2.2.1
  have hbHr := hnh r
  have hbCr := hnc r
  have hbHr2 := hnh r2
  have hbCr2 := hnc r2
  have hl : lv_has ls 2 [(0, .ref (ad (hh_gI r i g))), (1, .ref (ad (hh_gI r2 i2 g2)))] := hl
  refine lv_aload_n hx hb dX2_copyFrom_0 rfl (lv_at hl 0 rfl) ?_
  refine lv_aload_n hx hb dX2_copyFrom_1 rfl (lv_at hl 1 rfl) ?_
  refine hh_get C0 hp (C := RX2) (T := TX2) (N := 6) (ci := 2) (hh_b_g hr2 hi2 hg2) (hh_E_g r2 hi2 hg2) rfl hh_uX2 0 (by decide) hm_13 rfl rfl dX2_copyFrom_2 ?_
  refine hh_put C0 hp (C := RX2) (T := TX2) (N := 6) (ci := 2) (k := 0) (ty := .int) (hh_b_g hr hi hg) (hh_E_g r hi hg) (hh_pg0 r hi hg) rfl hh_uX2 tyX2_ok nmX2 (by decide) hm_13 rfl rfl (by decide +kernel) rfl rfl (Nat.le_of_ble_eq_true rfl) dX2_copyFrom_5 (fun H locs hp => ?_)
  obtain ⟨v_5, ev_5⟩ : ∃ z : hh_M, z = hh_up v (hh_gI r i g) 0 (v (hh_gI r2 i2 g2) 0) := ⟨_, rfl⟩
  rw [← ev_5] at hp
  have hTv_5 : hh_T nm nh nc v_5 := by rw [ev_5]; exact hh_T_up hT (hh_R_g0 hr hi hg (⟨(hh_T_g0 hT r2 hi2 hg2).1, Int32.lt_of_lt_of_le (hh_T_g0 hT r2 hi2 hg2).2 (nI_le hn (by omega))⟩))
  have hFv_5 : hh_F (fun j k => j = hh_gI r i g ∧ k < 6) v v_5 := by rw [ev_5]; exact hh_F_up hh_F_rf (by first | exact ⟨rfl, (by decide)⟩ | exact Or.inl ⟨rfl, by decide⟩ | exact Or.inr (Or.inl ⟨rfl, by decide⟩) | exact Or.inr (Or.inr ⟨rfl, by decide⟩))
  refine lv_aload_n hx hb dX2_copyFrom_8 rfl (lv_at hl 0 rfl) ?_
  refine lv_aload_n hx hb dX2_copyFrom_9 rfl (lv_at hl 1 rfl) ?_
  refine hh_get C0 hp (C := RX2) (T := TX2) (N := 6) (ci := 2) (hh_b_g hr2 hi2 hg2) (hh_E_g r2 hi2 hg2) rfl hh_uX2 1 (by decide) hm_14 rfl rfl dX2_copyFrom_10 ?_
  refine hh_put C0 hp (C := RX2) (T := TX2) (N := 6) (ci := 2) (k := 1) (ty := .int) (hh_b_g hr hi hg) (hh_E_g r hi hg) (hh_pg1 r hi hg) rfl hh_uX2 tyX2_ok nmX2 (by decide) hm_14 rfl rfl (by decide +kernel) rfl rfl (Nat.le_of_ble_eq_true rfl) dX2_copyFrom_13 (fun H locs hp => ?_)
  obtain ⟨v_13, ev_13⟩ : ∃ z : hh_M, z = hh_up v_5 (hh_gI r i g) 1 (v_5 (hh_gI r2 i2 g2) 1) := ⟨_, rfl⟩
  rw [← ev_13] at hp
  have hTv_13 : hh_T nm nh nc v_13 := by rw [ev_13]; exact hh_T_up hTv_5 (hh_R_g1 hr hi hg (hh_T_g1 hTv_5 r2 hi2 hg2))
  have hFv_13 : hh_F (fun j k => j = hh_gI r i g ∧ k < 6) v v_13 := by rw [ev_13]; exact hh_F_up hFv_5 (by first | exact ⟨rfl, (by decide)⟩ | exact Or.inl ⟨rfl, by decide⟩ | exact Or.inr (Or.inl ⟨rfl, by decide⟩) | exact Or.inr (Or.inr ⟨rfl, by decide⟩))
  refine lv_aload_n hx hb dX2_copyFrom_16 rfl (lv_at hl 0 rfl) ?_
  refine lv_aload_n hx hb dX2_copyFrom_17 rfl (lv_at hl 1 rfl) ?_
  refine hh_get C0 hp (C := RX2) (T := TX2) (N := 6) (ci := 2) (hh_b_g hr2 hi2 hg2) (hh_E_g r2 hi2 hg2) rfl hh_uX2 2 (by decide) hm_27 rfl rfl dX2_copyFrom_18 ?_
  refine hh_put C0 hp (C := RX2) (T := TX2) (N := 6) (ci := 2) (k := 2) (ty := .int) (hh_b_g hr hi hg) (hh_E_g r hi hg) (hh_pg2 r hi hg) rfl hh_uX2 tyX2_ok nmX2 (by decide) hm_27 rfl rfl (by decide +kernel) rfl rfl (Nat.le_of_ble_eq_true rfl) dX2_copyFrom_21 (fun H locs hp => ?_)
  obtain ⟨v_21, ev_21⟩ : ∃ z : hh_M, z = hh_up v_13 (hh_gI r i g) 2 (v_13 (hh_gI r2 i2 g2) 2) := ⟨_, rfl⟩
  rw [← ev_21] at hp
  have hTv_21 : hh_T nm nh nc v_21 := by rw [ev_21]; exact hh_T_up hTv_13 (hh_Rt_g hr hi hg (by decide))
  have hFv_21 : hh_F (fun j k => j = hh_gI r i g ∧ k < 6) v v_21 := by rw [ev_21]; exact hh_F_up hFv_13 (by first | exact ⟨rfl, (by decide)⟩ | exact Or.inl ⟨rfl, by decide⟩ | exact Or.inr (Or.inl ⟨rfl, by decide⟩) | exact Or.inr (Or.inr ⟨rfl, by decide⟩))
  refine lv_aload_n hx hb dX2_copyFrom_24 rfl (lv_at hl 0 rfl) ?_
  refine lv_aload_n hx hb dX2_copyFrom_25 rfl (lv_at hl 1 rfl) ?_
  refine hh_get C0 hp (C := RX2) (T := TX2) (N := 6) (ci := 2) (hh_b_g hr2 hi2 hg2) (hh_E_g r2 hi2 hg2) rfl hh_uX2 3 (by decide) hm_28 rfl rfl dX2_copyFrom_26 ?_
  refine hh_put C0 hp (C := RX2) (T := TX2) (N := 6) (ci := 2) (k := 3) (ty := .int) (hh_b_g hr hi hg) (hh_E_g r hi hg) (hh_pg3 r hi hg) rfl hh_uX2 tyX2_ok nmX2 (by decide) hm_28 rfl rfl (by decide +kernel) rfl rfl (Nat.le_of_ble_eq_true rfl) dX2_copyFrom_29 (fun H locs hp => ?_)
  obtain ⟨v_29, ev_29⟩ : ∃ z : hh_M, z = hh_up v_21 (hh_gI r i g) 3 (v_21 (hh_gI r2 i2 g2) 3) := ⟨_, rfl⟩
  rw [← ev_29] at hp
  have hTv_29 : hh_T nm nh nc v_29 := by rw [ev_29]; exact hh_T_up hTv_21 (hh_Rt_g hr hi hg (by decide))
  have hFv_29 : hh_F (fun j k => j = hh_gI r i g ∧ k < 6) v v_29 := by rw [ev_29]; exact hh_F_up hFv_21 (by first | exact ⟨rfl, (by decide)⟩ | exact Or.inl ⟨rfl, by decide⟩ | exact Or.inr (Or.inl ⟨rfl, by decide⟩) | exact Or.inr (Or.inr ⟨rfl, by decide⟩))
  refine lv_aload_n hx hb dX2_copyFrom_32 rfl (lv_at hl 0 rfl) ?_
  refine lv_aload_n hx hb dX2_copyFrom_33 rfl (lv_at hl 1 rfl) ?_
  refine hh_get C0 hp (C := RX2) (T := TX2) (N := 6) (ci := 2) (hh_b_g hr2 hi2 hg2) (hh_E_g r2 hi2 hg2) rfl hh_uX2 4 (by decide) hm_15 rfl rfl dX2_copyFrom_34 ?_
  refine hh_put C0 hp (C := RX2) (T := TX2) (N := 6) (ci := 2) (k := 4) (ty := .int) (hh_b_g hr hi hg) (hh_E_g r hi hg) (hh_pg4 r hi hg) rfl hh_uX2 tyX2_ok nmX2 (by decide) hm_15 rfl rfl (by decide +kernel) rfl rfl (Nat.le_of_ble_eq_true rfl) dX2_copyFrom_37 (fun H locs hp => ?_)
  obtain ⟨v_37, ev_37⟩ : ∃ z : hh_M, z = hh_up v_29 (hh_gI r i g) 4 (v_29 (hh_gI r2 i2 g2) 4) := ⟨_, rfl⟩
  rw [← ev_37] at hp
  have hTv_37 : hh_T nm nh nc v_37 := by rw [ev_37]; exact hh_T_up hTv_29 (hh_Rt_g hr hi hg (by decide))
  have hFv_37 : hh_F (fun j k => j = hh_gI r i g ∧ k < 6) v v_37 := by rw [ev_37]; exact hh_F_up hFv_29 (by first | exact ⟨rfl, (by decide)⟩ | exact Or.inl ⟨rfl, by decide⟩ | exact Or.inr (Or.inl ⟨rfl, by decide⟩) | exact Or.inr (Or.inr ⟨rfl, by decide⟩))
  refine lv_aload_n hx hb dX2_copyFrom_40 rfl (lv_at hl 0 rfl) ?_
  refine lv_aload_n hx hb dX2_copyFrom_41 rfl (lv_at hl 1 rfl) ?_
  refine hh_get C0 hp (C := RX2) (T := TX2) (N := 6) (ci := 2) (hh_b_g hr2 hi2 hg2) (hh_E_g r2 hi2 hg2) rfl hh_uX2 5 (by decide) hm_29 rfl rfl dX2_copyFrom_42 ?_
  refine hh_put C0 hp (C := RX2) (T := TX2) (N := 6) (ci := 2) (k := 5) (ty := .int) (hh_b_g hr hi hg) (hh_E_g r hi hg) (hh_pg5 r hi hg) rfl hh_uX2 tyX2_ok nmX2 (by decide) hm_29 rfl rfl (by decide +kernel) rfl rfl (Nat.le_of_ble_eq_true rfl) dX2_copyFrom_45 (fun H locs hp => ?_)
  obtain ⟨v_45, ev_45⟩ : ∃ z : hh_M, z = hh_up v_37 (hh_gI r i g) 5 (v_37 (hh_gI r2 i2 g2) 5) := ⟨_, rfl⟩
  rw [← ev_45] at hp
  have hTv_45 : hh_T nm nh nc v_45 := by rw [ev_45]; exact hh_T_up hTv_37 (hh_Rt_g hr hi hg (by decide))
  have hFv_45 : hh_F (fun j k => j = hh_gI r i g ∧ k < 6) v v_45 := by rw [ev_45]; exact hh_F_up hFv_37 (by first | exact ⟨rfl, (by decide)⟩ | exact Or.inl ⟨rfl, by decide⟩ | exact Or.inr (Or.inl ⟨rfl, by decide⟩) | exact Or.inr (Or.inr ⟨rfl, by decide⟩))
  exact hh_vret C0 hp dX2_copyFrom_48 ⟨(by show _ = _; unfold hf_X2_copyFrom; rw [hh_let_eq ev_5, hh_let_eq ev_13, hh_let_eq ev_21, hh_let_eq ev_29, hh_let_eq ev_37, hh_let_eq ev_45]), hTv_45, hFv_45⟩
def hl_X4_measureOne_32 (v : hh_M) (number : Int32) (place : Int32) (i : Nat) (a32_4 : Int32) : Int32 := (if (nI i) = number then a32_4 else (if (v (hh_mI i) 2) = (v (hh_mI number.toNatClampNeg) 2) then (hh_let (hf_X3_noiseAt v i place : Int32) (fun (q_74 : Int32) => (hh_let ((a32_4 - q_74) : Int32) (fun (x_78 : Int32) => x_78)))) else a32_4))
def hf_X4_measureOne (v : hh_M) (number : Int32) (place : Int32) : Int32 := (if (v (hh_mI number.toNatClampNeg) 6) = 0 then (-99) else (hh_let (hf_X3_distanceTo v number.toNatClampNeg place : Int32) (fun (q_23 : Int32) => (hh_let (((v (hh_mI number.toNatClampNeg) 1) - q_23) : Int32) (fun (x_27 : Int32) => (hh_let (hh_fld (fun (i9 : Nat) (z : Int32) => hl_X4_measureOne_32 v number place i9 z) ((v 1 2).toNatClampNeg) x_27 : Int32) (fun (a32_4 : Int32) => a32_4)))))))
set_option maxHeartbeats 4000000 in
set_option maxRecDepth 100000 in
theorem hk_X4_measureOne (l : Launch) (D : va_G) (K : Nat → ClassId) (ad : Nat → Nat) {nm : Nat} {nh nc : Nat → Nat} {v : hh_M} (hT : hh_T nm nh nc v) (number : Int32) (place : Int32) (h1 : vp_in number 6) : hh_Ki l D K ad yX4_measureOne (hh_wm yX4_measureOne cX4_measureOne 6 (some .int)) { frames := 2, cells := 0, slots := 0, locals := 43 } [.ref (ad 1), .int number, .int place] v (fun (q : Int32) (v1 : hh_M) => q = hf_X4_measureOne v number place ∧ v1 = v) := by
  refine hh_Ki_of (by decide) (Nat.le_of_ble_eq_true rfl) ?_
  intro p e s m args below meth c ls A C0 hp hl
  obtain ⟨hx, hb, hr9, hml, hown, hts, hK, hlk, hA⟩ := id C0
  have hnm := hT.1
  have hnh := hT.2.1
  have hnc := hT.2.2.1
  have hl : lv_has ls 6 [(0, .ref (ad 1)), (1, .int number), (2, .int place)] := hl
  refine lv_aload_n hx hb dX4_measureOne_0 rfl (lv_at hl 0 rfl) ?_
  refine hh_get C0 hp (C := RX4) (T := TX4) (N := 3) (ci := 4) (by decide) hh_E_1 rfl hh_uX4 0 (by decide) hm_72 rfl rfl dX4_measureOne_1 ?_
  refine lv_iload_n hx hb dX4_measureOne_4 rfl (lv_at hl 1 rfl) ?_
  have hin_5 : vp_in number 6 := by assumption
  refine hh_aal C0 hp (t0 := 2) (f := hh_mI) (by decide) hh_E_2 rfl rfl hin_5 rfl dX4_measureOne_5 ?_
  refine lv_astore_n (lv' := [(3, .ref (ad (hh_mI number.toNatClampNeg))), (0, .ref (ad 1)), (1, .int number), (2, .int place)]) hx hb dX4_measureOne_6 rfl hl (by decide) rfl (fun ls hl => ?_)
  refine lv_aload_n hx hb dX4_measureOne_7 rfl (lv_at hl 0 rfl) ?_
  refine hh_get C0 hp (C := RX3) (T := TX3) (N := 7) (ci := 3) (hh_b_m (hh_lt hin_5)) (hh_E_m (hh_lt hin_5)) rfl hh_uX3 6 (by decide) hm_85 rfl rfl dX4_measureOne_8 ?_
  refine lv_if_ne (tgt := 17) hx hb dX4_measureOne_11 (by decide) (fun c_11 => ?_) (fun c_11 => ?_)
  · refine lv_aload_n hx hb dX4_measureOne_17 rfl (lv_at hl 0 rfl) ?_
    refine hh_get C0 hp (C := RX3) (T := TX3) (N := 7) (ci := 3) (hh_b_m (hh_lt hin_5)) (hh_E_m (hh_lt hin_5)) rfl hh_uX3 1 (by decide) hm_86 rfl rfl dX4_measureOne_18 ?_
    refine lv_aload_n hx hb dX4_measureOne_21 rfl (lv_at hl 0 rfl) ?_
    refine lv_iload_n hx hb dX4_measureOne_22 rfl (lv_at hl 3 rfl) ?_
    refine hh_cVi C0 hp (As := [.int place]) (rest := [.int (v (hh_mI number.toNatClampNeg) 1)]) (C := RX3) (T := TX3) (N := 7) (ci := 3) (n := 1) (hk_X3_distanceTo l D K ad hT number.toNatClampNeg place (hh_lt hin_5)) rfl (hh_b_m (hh_lt hin_5)) (hh_E_m (hh_lt hin_5)) (hh_gV hm_88 hm_61 hm_62 hm_63 hm_55) ⟨rfl, rfl⟩ (by decide +kernel) ⟨Nat.le_of_ble_eq_true rfl, Nat.le_of_ble_eq_true rfl⟩ ⟨Nat.zero_le _, Nat.zero_le _⟩ hl.1 rfl rfl (Nat.le_of_ble_eq_true rfl) dX4_measureOne_23 (fun q_23 v_23 H locs hv_23 hp => ?_)
    obtain ⟨eq_23, hv9⟩ := hv_23
    rw [hv9] at hp; clear hv9
    refine lv_isub hx hb dX4_measureOne_26 ?_
    refine lv_topi (fun x_27 ex_27 => ?_)
    refine lv_istore (lv' := [(4, .int x_27), (3, .ref (ad (hh_mI number.toNatClampNeg))), (0, .ref (ad 1)), (1, .int number), (2, .int place)]) hx hb dX4_measureOne_27 hl (by decide) rfl (fun ls hl => ?_)
    refine lv_iconst (v := 0) hx hb dX4_measureOne_29 (by decide) ?_
    refine lv_istore (lv' := [(5, .int 0), (4, .int x_27), (3, .ref (ad (hh_mI number.toNatClampNeg))), (0, .ref (ad 1)), (1, .int number), (2, .int place)]) hx hb dX4_measureOne_30 hl (by decide) rfl (fun ls hl => ?_)
    have hL_32 : ∀ (n i : Nat) (a32_4 : Int32) (H : Heap) (locs : List Loc) (ls : Array Slot), i ≤ nm → nm - i < n → a32_4 = hh_fld (fun (i9 : Nat) (z : Int32) => hl_X4_measureOne_32 v number place i9 z) i x_27 → hh_H D K ad A s.heap v H locs → lv_has ls 6 [(5, .int (nI i)), (4, .int a32_4), (3, .ref (ad (hh_mI number.toNatClampNeg))), (0, .ref (ad 1)), (1, .int number), (2, .int place)] → W p l e ({ frames := 2, cells := 0, slots := 0, locals := 43 } : Room) s m args below meth c H locs 0 0 (MQ below (va_Qi (fun (q : Int32) (v1 : hh_M) => q = hf_X4_measureOne v number place ∧ v1 = v) (hh_B D K ad A) A) args s 0 0 A) (F0 m 32 ls []) := by
      intro n
      induction n with
      | zero => intro i a32_4 H locs ls h1 h2; omega
      | succ n ih =>
        intro i a32_4 H locs ls hii hni hsL_32 hp hl
        refine lv_iload hx hb dX4_measureOne_32 (lv_at hl 0 rfl) ?_
        refine lv_aload_n hx hb dX4_measureOne_34 rfl (lv_at hl 3 rfl) ?_
        refine hh_get C0 hp (C := RX4) (T := TX4) (N := 3) (ci := 4) (by decide) hh_E_1 rfl hh_uX4 2 (by decide) hm_79 rfl rfl dX4_measureOne_35 ?_
        refine lv_icmp_ge (tgt := 86) hx hb dX4_measureOne_38 (by decide) (fun c_38 => ?_) (fun c_38 => ?_)
        · have hbc_38 : (v 1 2) = nI nm := hh_T_M hT
          rw [hbc_38] at c_38
          have hc_38 := (nI_leI (a := nm) (b := i) (by omega) (by omega))
          have hltc_38 : nm ≤ i := by exact hc_38.mp c_38
          have hNL_32 : i = nm := by omega
          rw [hNL_32] at hsL_32
          have hsL_32 : a32_4 = hh_fld (fun (i9 : Nat) (z : Int32) => hl_X4_measureOne_32 v number place i9 z) ((v 1 2).toNatClampNeg) x_27 := by rw [hsL_32, show (v 1 2).toNatClampNeg = nm from by rw [hh_T_M hT]; exact nI_clamp (by omega)]
          have ea32_4 : a32_4 = hh_fld (fun (i9 : Nat) (z : Int32) => hl_X4_measureOne_32 v number place i9 z) ((v 1 2).toNatClampNeg) x_27 := hsL_32
          clear ih hsL_32
          refine lv_iload hx hb dX4_measureOne_86 (lv_at hl 1 rfl) ?_
          exact hh_iret C0 hp dX4_measureOne_88 ⟨(by unfold hf_X4_measureOne; rw [if_neg c_11, hh_let_eq eq_23, hh_let_eq ex_27, hh_let_eq ea32_4]), rfl⟩
        · have hbc_38 : (v 1 2) = nI nm := hh_T_M hT
          rw [hbc_38] at c_38
          have hc_38 := (nI_leI (a := nm) (b := i) (by omega) (by omega))
          have hltc_38 : i < nm := by exact Nat.not_le.mp (fun z => c_38 (hc_38.mpr z))
          refine lv_iload hx hb dX4_measureOne_41 (lv_at hl 0 rfl) ?_
          refine lv_iload_n hx hb dX4_measureOne_43 rfl (lv_at hl 4 rfl) ?_
          refine lv_icmp_eq (tgt := 80) hx hb dX4_measureOne_44 (by decide) (fun c_44 => ?_) (fun c_44 => ?_)
          · refine lv_iinc (v := (nI (i + 1))) (lv' := [(5, .int (nI (i + 1))), (4, .int a32_4), (3, .ref (ad (hh_mI number.toNatClampNeg))), (0, .ref (ad 1)), (1, .int number), (2, .int place)]) hx hb dX4_measureOne_80 hl (k := 0) rfl (nI_1 i) (by decide) rfl (fun ls hl => ?_)
            refine lv_goto (tgt := 32) hx hb dX4_measureOne_83 (by decide) ?_
            exact ih (i + 1) a32_4 _ _ _ (by omega) (by omega) (by rw [hh_fld, ← hsL_32]; show _ = hl_X4_measureOne_32 v number place i a32_4; unfold hl_X4_measureOne_32; rw [if_pos c_44]) hp (lv_sub hl [0, 1, 2, 3, 4, 5] rfl)
          · refine lv_aload_n hx hb dX4_measureOne_47 rfl (lv_at hl 3 rfl) ?_
            refine hh_get C0 hp (C := RX4) (T := TX4) (N := 3) (ci := 4) (by decide) hh_E_1 rfl hh_uX4 0 (by decide) hm_72 rfl rfl dX4_measureOne_48 ?_
            refine lv_iload hx hb dX4_measureOne_51 (lv_at hl 0 rfl) ?_
            refine hh_aal C0 hp (t0 := 2) (f := hh_mI) (by decide) hh_E_2 rfl rfl (vp_in_nI (by omega) (by decide)) (nI_clamp (by omega)) dX4_measureOne_53 ?_
            refine hh_get C0 hp (C := RX3) (T := TX3) (N := 7) (ci := 3) (hh_b_m (by omega : i < 6)) (hh_E_m (by omega : i < 6)) rfl hh_uX3 2 (by decide) hm_87 rfl rfl dX4_measureOne_54 ?_
            refine lv_aload_n hx hb dX4_measureOne_57 rfl (lv_at hl 2 rfl) ?_
            refine hh_get C0 hp (C := RX3) (T := TX3) (N := 7) (ci := 3) (hh_b_m (hh_lt hin_5)) (hh_E_m (hh_lt hin_5)) rfl hh_uX3 2 (by decide) hm_87 rfl rfl dX4_measureOne_58 ?_
            refine lv_icmp_ne (tgt := 80) hx hb dX4_measureOne_61 (by decide) (fun c_61 => ?_) (fun c_61 => ?_)
            · refine lv_iinc (v := (nI (i + 1))) (lv' := [(5, .int (nI (i + 1))), (4, .int a32_4), (3, .ref (ad (hh_mI number.toNatClampNeg))), (0, .ref (ad 1)), (1, .int number), (2, .int place)]) hx hb dX4_measureOne_80 hl (k := 0) rfl (nI_1 i) (by decide) rfl (fun ls hl => ?_)
              refine lv_goto (tgt := 32) hx hb dX4_measureOne_83 (by decide) ?_
              exact ih (i + 1) a32_4 _ _ _ (by omega) (by omega) (by rw [hh_fld, ← hsL_32]; show _ = hl_X4_measureOne_32 v number place i a32_4; unfold hl_X4_measureOne_32; rw [if_neg c_44, if_neg c_61]) hp (lv_sub hl [0, 1, 2, 3, 4, 5] rfl)
            · refine lv_iload hx hb dX4_measureOne_64 (lv_at hl 1 rfl) ?_
              refine lv_aload_n hx hb dX4_measureOne_66 rfl (lv_at hl 3 rfl) ?_
              refine hh_get C0 hp (C := RX4) (T := TX4) (N := 3) (ci := 4) (by decide) hh_E_1 rfl hh_uX4 0 (by decide) hm_72 rfl rfl dX4_measureOne_67 ?_
              refine lv_iload hx hb dX4_measureOne_70 (lv_at hl 0 rfl) ?_
              refine hh_aal C0 hp (t0 := 2) (f := hh_mI) (by decide) hh_E_2 rfl rfl (vp_in_nI (by omega) (by decide)) (nI_clamp (by omega)) dX4_measureOne_72 ?_
              refine lv_iload_n hx hb dX4_measureOne_73 rfl (lv_at hl 5 rfl) ?_
              refine hh_cVi C0 hp (As := [.int place]) (rest := [.int a32_4]) (C := RX3) (T := TX3) (N := 7) (ci := 3) (n := 1) (hk_X3_noiseAt l D K ad hT i place (by omega : i < 6)) rfl (hh_b_m (by omega : i < 6)) (hh_E_m (by omega : i < 6)) (hh_gV hm_89 hm_90 hm_91 hm_63 hm_57) ⟨rfl, rfl⟩ (by decide +kernel) ⟨Nat.le_of_ble_eq_true rfl, Nat.le_of_ble_eq_true rfl⟩ ⟨Nat.zero_le _, Nat.zero_le _⟩ hl.1 rfl rfl (Nat.le_of_ble_eq_true rfl) dX4_measureOne_74 (fun q_74 v_74 H locs hv_74 hp => ?_)
              obtain ⟨eq_74, hv9⟩ := hv_74
              rw [hv9] at hp; clear hv9
              refine lv_isub hx hb dX4_measureOne_77 ?_
              refine lv_topi (fun x_78 ex_78 => ?_)
              refine lv_istore (lv' := [(4, .int x_78), (5, .int (nI i)), (3, .ref (ad (hh_mI number.toNatClampNeg))), (0, .ref (ad 1)), (1, .int number), (2, .int place)]) hx hb dX4_measureOne_78 hl (by decide) rfl (fun ls hl => ?_)
              refine lv_iinc (v := (nI (i + 1))) (lv' := [(5, .int (nI (i + 1))), (4, .int x_78), (3, .ref (ad (hh_mI number.toNatClampNeg))), (0, .ref (ad 1)), (1, .int number), (2, .int place)]) hx hb dX4_measureOne_80 hl (k := 1) rfl (nI_1 i) (by decide) rfl (fun ls hl => ?_)
              refine lv_goto (tgt := 32) hx hb dX4_measureOne_83 (by decide) ?_
              exact ih (i + 1) x_78 _ _ _ (by omega) (by omega) (by rw [hh_fld, ← hsL_32]; show _ = hl_X4_measureOne_32 v number place i a32_4; unfold hl_X4_measureOne_32; rw [if_neg c_44, if_pos c_61, hh_let_eq eq_74, hh_let_eq ex_78]) hp (lv_sub hl [0, 1, 2, 3, 4, 5] rfl)
    exact hL_32 (nm + 1) 0 x_27 _ _ _ (Nat.zero_le _) (by omega) rfl hp (lv_sub hl [0, 1, 2, 3, 4, 5] rfl)
  · refine lv_bipush (v := (-99)) hx hb dX4_measureOne_14 (by decide) ?_
    exact hh_iret C0 hp dX4_measureOne_16 ⟨(by unfold hf_X4_measureOne; rw [if_pos c_11]), rfl⟩
def hl_X4_awakeInArea_4 (v : hh_M) (area : Int32) (i : Nat) (a4_2 : Int32) : Int32 := (if (v (hh_mI i) 6) = 0 then a4_2 else (if (v (hh_mI i) 4) = area then (hh_let ((a4_2 + 1) : Int32) (fun (x_37 : Int32) => x_37)) else a4_2))
def hf_X4_awakeInArea (v : hh_M) (area : Int32) : Int32 := (hh_let (hh_fld (fun (i9 : Nat) (z : Int32) => hl_X4_awakeInArea_4 v area i9 z) ((v 1 2).toNatClampNeg) 0 : Int32) (fun (a4_2 : Int32) => a4_2))
set_option maxHeartbeats 4000000 in
set_option maxRecDepth 100000 in
theorem hk_X4_awakeInArea (l : Launch) (D : va_G) (K : Nat → ClassId) (ad : Nat → Nat) {nm : Nat} {nh nc : Nat → Nat} {v : hh_M} (hT : hh_T nm nh nc v) (area : Int32) : hh_Ki l D K ad yX4_awakeInArea (hh_wm yX4_awakeInArea cX4_awakeInArea 4 (some .int)) { frames := 0, cells := 0, slots := 0, locals := 0 } [.ref (ad 1), .int area] v (fun (q : Int32) (v1 : hh_M) => q = hf_X4_awakeInArea v area ∧ v1 = v) := by
  refine hh_Ki_of (by decide) (Nat.le_of_ble_eq_true rfl) ?_
  intro p e s m args below meth c ls A C0 hp hl
  obtain ⟨hx, hb, hr9, hml, hown, hts, hK, hlk, hA⟩ := id C0
  have hnm := hT.1
  have hnh := hT.2.1
  have hnc := hT.2.2.1
  have hl : lv_has ls 4 [(0, .ref (ad 1)), (1, .int area)] := hl
  refine lv_iconst (v := 0) hx hb dX4_awakeInArea_0 (by decide) ?_
  refine lv_istore_n (lv' := [(2, .int 0), (0, .ref (ad 1)), (1, .int area)]) hx hb dX4_awakeInArea_1 rfl hl (by decide) rfl (fun ls hl => ?_)
  refine lv_iconst (v := 0) hx hb dX4_awakeInArea_2 (by decide) ?_
  refine lv_istore_n (lv' := [(3, .int 0), (2, .int 0), (0, .ref (ad 1)), (1, .int area)]) hx hb dX4_awakeInArea_3 rfl hl (by decide) rfl (fun ls hl => ?_)
  have hL_4 : ∀ (n i : Nat) (a4_2 : Int32) (H : Heap) (locs : List Loc) (ls : Array Slot), i ≤ nm → nm - i < n → a4_2 = hh_fld (fun (i9 : Nat) (z : Int32) => hl_X4_awakeInArea_4 v area i9 z) i 0 → hh_H D K ad A s.heap v H locs → lv_has ls 4 [(3, .int (nI i)), (2, .int a4_2), (0, .ref (ad 1)), (1, .int area)] → W p l e ({ frames := 0, cells := 0, slots := 0, locals := 0 } : Room) s m args below meth c H locs 0 0 (MQ below (va_Qi (fun (q : Int32) (v1 : hh_M) => q = hf_X4_awakeInArea v area ∧ v1 = v) (hh_B D K ad A) A) args s 0 0 A) (F0 m 4 ls []) := by
    intro n
    induction n with
    | zero => intro i a4_2 H locs ls h1 h2; omega
    | succ n ih =>
      intro i a4_2 H locs ls hii hni hsL_4 hp hl
      refine lv_iload_n hx hb dX4_awakeInArea_4 rfl (lv_at hl 0 rfl) ?_
      refine lv_aload_n hx hb dX4_awakeInArea_5 rfl (lv_at hl 2 rfl) ?_
      refine hh_get C0 hp (C := RX4) (T := TX4) (N := 3) (ci := 4) (by decide) hh_E_1 rfl hh_uX4 2 (by decide) hm_79 rfl rfl dX4_awakeInArea_6 ?_
      refine lv_icmp_ge (tgt := 46) hx hb dX4_awakeInArea_9 (by decide) (fun c_9 => ?_) (fun c_9 => ?_)
      · have hbc_9 : (v 1 2) = nI nm := hh_T_M hT
        rw [hbc_9] at c_9
        have hc_9 := (nI_leI (a := nm) (b := i) (by omega) (by omega))
        have hltc_9 : nm ≤ i := by exact hc_9.mp c_9
        have hNL_4 : i = nm := by omega
        rw [hNL_4] at hsL_4
        have hsL_4 : a4_2 = hh_fld (fun (i9 : Nat) (z : Int32) => hl_X4_awakeInArea_4 v area i9 z) ((v 1 2).toNatClampNeg) 0 := by rw [hsL_4, show (v 1 2).toNatClampNeg = nm from by rw [hh_T_M hT]; exact nI_clamp (by omega)]
        have ea4_2 : a4_2 = hh_fld (fun (i9 : Nat) (z : Int32) => hl_X4_awakeInArea_4 v area i9 z) ((v 1 2).toNatClampNeg) 0 := hsL_4
        clear ih hsL_4
        refine lv_iload_n hx hb dX4_awakeInArea_46 rfl (lv_at hl 1 rfl) ?_
        exact hh_iret C0 hp dX4_awakeInArea_47 ⟨(by unfold hf_X4_awakeInArea; rw [hh_let_eq ea4_2]), rfl⟩
      · have hbc_9 : (v 1 2) = nI nm := hh_T_M hT
        rw [hbc_9] at c_9
        have hc_9 := (nI_leI (a := nm) (b := i) (by omega) (by omega))
        have hltc_9 : i < nm := by exact Nat.not_le.mp (fun z => c_9 (hc_9.mpr z))
        refine lv_aload_n hx hb dX4_awakeInArea_12 rfl (lv_at hl 2 rfl) ?_
        refine hh_get C0 hp (C := RX4) (T := TX4) (N := 3) (ci := 4) (by decide) hh_E_1 rfl hh_uX4 0 (by decide) hm_72 rfl rfl dX4_awakeInArea_13 ?_
        refine lv_iload_n hx hb dX4_awakeInArea_16 rfl (lv_at hl 0 rfl) ?_
        refine hh_aal C0 hp (t0 := 2) (f := hh_mI) (by decide) hh_E_2 rfl rfl (vp_in_nI (by omega) (by decide)) (nI_clamp (by omega)) dX4_awakeInArea_17 ?_
        refine hh_get C0 hp (C := RX3) (T := TX3) (N := 7) (ci := 3) (hh_b_m (by omega : i < 6)) (hh_E_m (by omega : i < 6)) rfl hh_uX3 6 (by decide) hm_85 rfl rfl dX4_awakeInArea_18 ?_
        refine lv_if_eq (tgt := 40) hx hb dX4_awakeInArea_21 (by decide) (fun c_21 => ?_) (fun c_21 => ?_)
        · refine lv_iinc (v := (nI (i + 1))) (lv' := [(3, .int (nI (i + 1))), (2, .int a4_2), (0, .ref (ad 1)), (1, .int area)]) hx hb dX4_awakeInArea_40 hl (k := 0) rfl (nI_1 i) (by decide) rfl (fun ls hl => ?_)
          refine lv_goto (tgt := 4) hx hb dX4_awakeInArea_43 (by decide) ?_
          exact ih (i + 1) a4_2 _ _ _ (by omega) (by omega) (by rw [hh_fld, ← hsL_4]; show _ = hl_X4_awakeInArea_4 v area i a4_2; unfold hl_X4_awakeInArea_4; rw [if_pos c_21]) hp (lv_sub hl [0, 1, 2, 3] rfl)
        · refine lv_aload_n hx hb dX4_awakeInArea_24 rfl (lv_at hl 2 rfl) ?_
          refine hh_get C0 hp (C := RX4) (T := TX4) (N := 3) (ci := 4) (by decide) hh_E_1 rfl hh_uX4 0 (by decide) hm_72 rfl rfl dX4_awakeInArea_25 ?_
          refine lv_iload_n hx hb dX4_awakeInArea_28 rfl (lv_at hl 0 rfl) ?_
          refine hh_aal C0 hp (t0 := 2) (f := hh_mI) (by decide) hh_E_2 rfl rfl (vp_in_nI (by omega) (by decide)) (nI_clamp (by omega)) dX4_awakeInArea_29 ?_
          refine hh_get C0 hp (C := RX3) (T := TX3) (N := 7) (ci := 3) (hh_b_m (by omega : i < 6)) (hh_E_m (by omega : i < 6)) rfl hh_uX3 4 (by decide) hm_93 rfl rfl dX4_awakeInArea_30 ?_
          refine lv_iload_n hx hb dX4_awakeInArea_33 rfl (lv_at hl 3 rfl) ?_
          refine lv_icmp_ne (tgt := 40) hx hb dX4_awakeInArea_34 (by decide) (fun c_34 => ?_) (fun c_34 => ?_)
          · refine lv_iinc (v := (nI (i + 1))) (lv' := [(3, .int (nI (i + 1))), (2, .int a4_2), (0, .ref (ad 1)), (1, .int area)]) hx hb dX4_awakeInArea_40 hl (k := 0) rfl (nI_1 i) (by decide) rfl (fun ls hl => ?_)
            refine lv_goto (tgt := 4) hx hb dX4_awakeInArea_43 (by decide) ?_
            exact ih (i + 1) a4_2 _ _ _ (by omega) (by omega) (by rw [hh_fld, ← hsL_4]; show _ = hl_X4_awakeInArea_4 v area i a4_2; unfold hl_X4_awakeInArea_4; rw [if_neg c_21, if_neg c_34]) hp (lv_sub hl [0, 1, 2, 3] rfl)
          · obtain ⟨x_37, ex_37⟩ : ∃ z : Int32, z = (a4_2 + 1) := ⟨_, rfl⟩
            refine lv_iinc (v := x_37) (lv' := [(2, .int x_37), (3, .int (nI i)), (0, .ref (ad 1)), (1, .int area)]) hx hb dX4_awakeInArea_37 hl (k := 1) rfl (by rw [ex_37]; rfl) (by decide) rfl (fun ls hl => ?_)
            refine lv_iinc (v := (nI (i + 1))) (lv' := [(3, .int (nI (i + 1))), (2, .int x_37), (0, .ref (ad 1)), (1, .int area)]) hx hb dX4_awakeInArea_40 hl (k := 1) rfl (nI_1 i) (by decide) rfl (fun ls hl => ?_)
            refine lv_goto (tgt := 4) hx hb dX4_awakeInArea_43 (by decide) ?_
            exact ih (i + 1) x_37 _ _ _ (by omega) (by omega) (by rw [hh_fld, ← hsL_4]; show _ = hl_X4_awakeInArea_4 v area i a4_2; unfold hl_X4_awakeInArea_4; rw [if_neg c_21, if_pos c_34, hh_let_eq ex_37]) hp (lv_sub hl [0, 1, 2, 3] rfl)
  exact hL_4 (nm + 1) 0 0 _ _ _ (Nat.zero_le _) (by omega) rfl hp (lv_sub hl [0, 1, 2, 3] rfl)
def hl_X4_awake_4 (v : hh_M) (i : Nat) (a4_1 : Int32) : Int32 := (if (v (hh_mI i) 6) = 0 then a4_1 else (hh_let ((a4_1 + 1) : Int32) (fun (x_24 : Int32) => x_24)))
def hf_X4_awake (v : hh_M) : Int32 := (hh_let (hh_fld (fun (i9 : Nat) (z : Int32) => hl_X4_awake_4 v i9 z) ((v 1 2).toNatClampNeg) 0 : Int32) (fun (a4_1 : Int32) => a4_1))
set_option maxHeartbeats 4000000 in
set_option maxRecDepth 100000 in
theorem hk_X4_awake (l : Launch) (D : va_G) (K : Nat → ClassId) (ad : Nat → Nat) {nm : Nat} {nh nc : Nat → Nat} {v : hh_M} (hT : hh_T nm nh nc v) : hh_Ki l D K ad yX4_awake (hh_wm yX4_awake cX4_awake 3 (some .int)) { frames := 0, cells := 0, slots := 0, locals := 0 } [.ref (ad 1)] v (fun (q : Int32) (v1 : hh_M) => q = hf_X4_awake v ∧ v1 = v) := by
  refine hh_Ki_of (by decide) (Nat.le_of_ble_eq_true rfl) ?_
  intro p e s m args below meth c ls A C0 hp hl
  obtain ⟨hx, hb, hr9, hml, hown, hts, hK, hlk, hA⟩ := id C0
  have hnm := hT.1
  have hnh := hT.2.1
  have hnc := hT.2.2.1
  have hl : lv_has ls 3 [(0, .ref (ad 1))] := hl
  refine lv_iconst (v := 0) hx hb dX4_awake_0 (by decide) ?_
  refine lv_istore_n (lv' := [(1, .int 0), (0, .ref (ad 1))]) hx hb dX4_awake_1 rfl hl (by decide) rfl (fun ls hl => ?_)
  refine lv_iconst (v := 0) hx hb dX4_awake_2 (by decide) ?_
  refine lv_istore_n (lv' := [(2, .int 0), (1, .int 0), (0, .ref (ad 1))]) hx hb dX4_awake_3 rfl hl (by decide) rfl (fun ls hl => ?_)
  have hL_4 : ∀ (n i : Nat) (a4_1 : Int32) (H : Heap) (locs : List Loc) (ls : Array Slot), i ≤ nm → nm - i < n → a4_1 = hh_fld (fun (i9 : Nat) (z : Int32) => hl_X4_awake_4 v i9 z) i 0 → hh_H D K ad A s.heap v H locs → lv_has ls 3 [(2, .int (nI i)), (1, .int a4_1), (0, .ref (ad 1))] → W p l e ({ frames := 0, cells := 0, slots := 0, locals := 0 } : Room) s m args below meth c H locs 0 0 (MQ below (va_Qi (fun (q : Int32) (v1 : hh_M) => q = hf_X4_awake v ∧ v1 = v) (hh_B D K ad A) A) args s 0 0 A) (F0 m 4 ls []) := by
    intro n
    induction n with
    | zero => intro i a4_1 H locs ls h1 h2; omega
    | succ n ih =>
      intro i a4_1 H locs ls hii hni hsL_4 hp hl
      refine lv_iload_n hx hb dX4_awake_4 rfl (lv_at hl 0 rfl) ?_
      refine lv_aload_n hx hb dX4_awake_5 rfl (lv_at hl 2 rfl) ?_
      refine hh_get C0 hp (C := RX4) (T := TX4) (N := 3) (ci := 4) (by decide) hh_E_1 rfl hh_uX4 2 (by decide) hm_79 rfl rfl dX4_awake_6 ?_
      refine lv_icmp_ge (tgt := 33) hx hb dX4_awake_9 (by decide) (fun c_9 => ?_) (fun c_9 => ?_)
      · have hbc_9 : (v 1 2) = nI nm := hh_T_M hT
        rw [hbc_9] at c_9
        have hc_9 := (nI_leI (a := nm) (b := i) (by omega) (by omega))
        have hltc_9 : nm ≤ i := by exact hc_9.mp c_9
        have hNL_4 : i = nm := by omega
        rw [hNL_4] at hsL_4
        have hsL_4 : a4_1 = hh_fld (fun (i9 : Nat) (z : Int32) => hl_X4_awake_4 v i9 z) ((v 1 2).toNatClampNeg) 0 := by rw [hsL_4, show (v 1 2).toNatClampNeg = nm from by rw [hh_T_M hT]; exact nI_clamp (by omega)]
        have ea4_1 : a4_1 = hh_fld (fun (i9 : Nat) (z : Int32) => hl_X4_awake_4 v i9 z) ((v 1 2).toNatClampNeg) 0 := hsL_4
        clear ih hsL_4
        refine lv_iload_n hx hb dX4_awake_33 rfl (lv_at hl 1 rfl) ?_
        exact hh_iret C0 hp dX4_awake_34 ⟨(by unfold hf_X4_awake; rw [hh_let_eq ea4_1]), rfl⟩
      · have hbc_9 : (v 1 2) = nI nm := hh_T_M hT
        rw [hbc_9] at c_9
        have hc_9 := (nI_leI (a := nm) (b := i) (by omega) (by omega))
        have hltc_9 : i < nm := by exact Nat.not_le.mp (fun z => c_9 (hc_9.mpr z))
        refine lv_aload_n hx hb dX4_awake_12 rfl (lv_at hl 2 rfl) ?_
        refine hh_get C0 hp (C := RX4) (T := TX4) (N := 3) (ci := 4) (by decide) hh_E_1 rfl hh_uX4 0 (by decide) hm_72 rfl rfl dX4_awake_13 ?_
        refine lv_iload_n hx hb dX4_awake_16 rfl (lv_at hl 0 rfl) ?_
        refine hh_aal C0 hp (t0 := 2) (f := hh_mI) (by decide) hh_E_2 rfl rfl (vp_in_nI (by omega) (by decide)) (nI_clamp (by omega)) dX4_awake_17 ?_
        refine hh_get C0 hp (C := RX3) (T := TX3) (N := 7) (ci := 3) (hh_b_m (by omega : i < 6)) (hh_E_m (by omega : i < 6)) rfl hh_uX3 6 (by decide) hm_85 rfl rfl dX4_awake_18 ?_
        refine lv_if_eq (tgt := 27) hx hb dX4_awake_21 (by decide) (fun c_21 => ?_) (fun c_21 => ?_)
        · refine lv_iinc (v := (nI (i + 1))) (lv' := [(2, .int (nI (i + 1))), (1, .int a4_1), (0, .ref (ad 1))]) hx hb dX4_awake_27 hl (k := 0) rfl (nI_1 i) (by decide) rfl (fun ls hl => ?_)
          refine lv_goto (tgt := 4) hx hb dX4_awake_30 (by decide) ?_
          exact ih (i + 1) a4_1 _ _ _ (by omega) (by omega) (by rw [hh_fld, ← hsL_4]; show _ = hl_X4_awake_4 v i a4_1; unfold hl_X4_awake_4; rw [if_pos c_21]) hp (lv_sub hl [0, 1, 2] rfl)
        · obtain ⟨x_24, ex_24⟩ : ∃ z : Int32, z = (a4_1 + 1) := ⟨_, rfl⟩
          refine lv_iinc (v := x_24) (lv' := [(1, .int x_24), (2, .int (nI i)), (0, .ref (ad 1))]) hx hb dX4_awake_24 hl (k := 1) rfl (by rw [ex_24]; rfl) (by decide) rfl (fun ls hl => ?_)
          refine lv_iinc (v := (nI (i + 1))) (lv' := [(2, .int (nI (i + 1))), (1, .int x_24), (0, .ref (ad 1))]) hx hb dX4_awake_27 hl (k := 1) rfl (nI_1 i) (by decide) rfl (fun ls hl => ?_)
          refine lv_goto (tgt := 4) hx hb dX4_awake_30 (by decide) ?_
          exact ih (i + 1) x_24 _ _ _ (by omega) (by omega) (by rw [hh_fld, ← hsL_4]; show _ = hl_X4_awake_4 v i a4_1; unfold hl_X4_awake_4; rw [if_neg c_21, hh_let_eq ex_24]) hp (lv_sub hl [0, 1, 2] rfl)
  exact hL_4 (nm + 1) 0 0 _ _ _ (Nat.zero_le _) (by omega) rfl hp (lv_sub hl [0, 1, 2] rfl)
def hl_X5_placesHeardWell_4 (v : hh_M) (r : Nat) (i : Nat) (a4_1 : Int32) : Int32 := (hh_let (hf_X5_bestHeardAt v r (nI i) : Int32) (fun (q_12 : Int32) => (if q_12 = (-1) then a4_1 else (hh_let (hf_X5_qualityAt v r q_12 (nI i) : Int32) (fun (q_24 : Int32) => (if q_24 < 5 then a4_1 else (hh_let ((a4_1 + 1) : Int32) (fun (x_31 : Int32) => x_31))))))))
def hf_X5_placesHeardWell (v : hh_M) (r : Nat) : Int32 := (hh_let (hh_fld (fun (i9 : Nat) (z : Int32) => hl_X5_placesHeardWell_4 v r i9 z) 100 0 : Int32) (fun (a4_1 : Int32) => a4_1))
set_option maxHeartbeats 4000000 in
set_option maxRecDepth 100000 in
theorem hk_X5_placesHeardWell (l : Launch) (D : va_G) (K : Nat → ClassId) (ad : Nat → Nat) {nm : Nat} {nh nc : Nat → Nat} {v : hh_M} (hT : hh_T nm nh nc v) (r : Nat) (hr : r < 2) : hh_Ki l D K ad yX5_placesHeardWell (hh_wm yX5_placesHeardWell cX5_placesHeardWell 4 (some .int)) { frames := 2, cells := 0, slots := 0, locals := 47 } [.ref (ad (hh_rI r))] v (fun (q : Int32) (v1 : hh_M) => q = hf_X5_placesHeardWell v r ∧ v1 = v) := by
  refine hh_Ki_of (by decide) (Nat.le_of_ble_eq_true rfl) ?_
  intro p e s m args below meth c ls A C0 hp hl
  obtain ⟨hx, hb, hr9, hml, hown, hts, hK, hlk, hA⟩ := id C0
  have hnm := hT.1
  have hnh := hT.2.1
  have hnc := hT.2.2.1
  have hbHr := hnh r
  have hbCr := hnc r
  have hl : lv_has ls 4 [(0, .ref (ad (hh_rI r)))] := hl
  refine lv_iconst (v := 0) hx hb dX5_placesHeardWell_0 (by decide) ?_
  refine lv_istore_n (lv' := [(1, .int 0), (0, .ref (ad (hh_rI r)))]) hx hb dX5_placesHeardWell_1 rfl hl (by decide) rfl (fun ls hl => ?_)
  refine lv_iconst (v := 0) hx hb dX5_placesHeardWell_2 (by decide) ?_
  refine lv_istore_n (lv' := [(2, .int 0), (1, .int 0), (0, .ref (ad (hh_rI r)))]) hx hb dX5_placesHeardWell_3 rfl hl (by decide) rfl (fun ls hl => ?_)
  have hL_4 : ∀ (n i : Nat) (a4_1 : Int32) (H : Heap) (locs : List Loc) (ls : Array Slot), i ≤ 100 → 100 - i < n → a4_1 = hh_fld (fun (i9 : Nat) (z : Int32) => hl_X5_placesHeardWell_4 v r i9 z) i 0 → hh_H D K ad A s.heap v H locs → lv_has ls 4 [(2, .int (nI i)), (1, .int a4_1), (0, .ref (ad (hh_rI r)))] → W p l e ({ frames := 2, cells := 0, slots := 0, locals := 47 } : Room) s m args below meth c H locs 0 0 (MQ below (va_Qi (fun (q : Int32) (v1 : hh_M) => q = hf_X5_placesHeardWell v r ∧ v1 = v) (hh_B D K ad A) A) args s 0 0 A) (F0 m 4 ls []) := by
    intro n
    induction n with
    | zero => intro i a4_1 H locs ls h1 h2; omega
    | succ n ih =>
      intro i a4_1 H locs ls hii hni hsL_4 hp hl
      refine lv_iload_n hx hb dX5_placesHeardWell_4 rfl (lv_at hl 0 rfl) ?_
      refine lv_bipush (v := 100) hx hb dX5_placesHeardWell_5 (by decide) ?_
      refine lv_icmp_ge (tgt := 40) hx hb dX5_placesHeardWell_7 (by decide) (fun c_7 => ?_) (fun c_7 => ?_)
      · have hbc_7 : 100 = nI 100 := rfl
        rw [hbc_7] at c_7
        have hc_7 := (nI_leI (a := 100) (b := i) (by omega) (by omega))
        have hltc_7 : 100 ≤ i := by exact hc_7.mp c_7
        have hNL_4 : i = 100 := by omega
        rw [hNL_4] at hsL_4
        have ea4_1 : a4_1 = hh_fld (fun (i9 : Nat) (z : Int32) => hl_X5_placesHeardWell_4 v r i9 z) 100 0 := hsL_4
        clear ih hsL_4
        refine lv_iload_n hx hb dX5_placesHeardWell_40 rfl (lv_at hl 1 rfl) ?_
        exact hh_iret C0 hp dX5_placesHeardWell_41 ⟨(by unfold hf_X5_placesHeardWell; rw [hh_let_eq ea4_1]), rfl⟩
      · have hbc_7 : 100 = nI 100 := rfl
        rw [hbc_7] at c_7
        have hc_7 := (nI_leI (a := 100) (b := i) (by omega) (by omega))
        have hltc_7 : i < 100 := by exact Nat.not_le.mp (fun z => c_7 (hc_7.mpr z))
        refine lv_aload_n hx hb dX5_placesHeardWell_10 rfl (lv_at hl 2 rfl) ?_
        refine lv_iload_n hx hb dX5_placesHeardWell_11 rfl (lv_at hl 0 rfl) ?_
        refine hh_cVi C0 hp (As := [.int (nI i)]) (rest := []) (C := RX5) (T := TX5) (N := 10) (ci := 5) (n := 1) (hk_X5_bestHeardAt l D K ad hT r (nI i) hr (vp_in_nI (by omega) (by decide))) rfl (hh_b_r hr) (hh_E_r r) (hh_gV hm_132 hm_133 hm_134 hm_128 hm_129) ⟨rfl, rfl⟩ (by decide +kernel) ⟨Nat.le_of_ble_eq_true rfl, Nat.le_of_ble_eq_true rfl⟩ ⟨Nat.zero_le _, Nat.zero_le _⟩ hl.1 rfl rfl (Nat.le_of_ble_eq_true rfl) dX5_placesHeardWell_12 (fun q_12 v_12 H locs hv_12 hp => ?_)
        obtain ⟨eq_12, hv9, hpq_12a⟩ := hv_12
        rw [hv9] at hp; clear hv9
        refine lv_istore_n (lv' := [(3, .int q_12), (2, .int (nI i)), (1, .int a4_1), (0, .ref (ad (hh_rI r)))]) hx hb dX5_placesHeardWell_15 rfl hl (by decide) rfl (fun ls hl => ?_)
        refine lv_iload_n hx hb dX5_placesHeardWell_16 rfl (lv_at hl 0 rfl) ?_
        refine lv_iconst (v := (-1)) hx hb dX5_placesHeardWell_17 (by decide) ?_
        refine lv_icmp_eq (tgt := 34) hx hb dX5_placesHeardWell_18 (by decide) (fun c_18 => ?_) (fun c_18 => ?_)
        · refine lv_iinc (v := (nI (i + 1))) (lv' := [(2, .int (nI (i + 1))), (3, .int q_12), (1, .int a4_1), (0, .ref (ad (hh_rI r)))]) hx hb dX5_placesHeardWell_34 hl (k := 1) rfl (nI_1 i) (by decide) rfl (fun ls hl => ?_)
          refine lv_goto (tgt := 4) hx hb dX5_placesHeardWell_37 (by decide) ?_
          exact ih (i + 1) a4_1 _ _ _ (by omega) (by omega) (by rw [hh_fld, ← hsL_4]; show _ = hl_X5_placesHeardWell_4 v r i a4_1; unfold hl_X5_placesHeardWell_4; rw [hh_let_eq eq_12, if_pos c_18]) hp (lv_sub hl [0, 2, 3] rfl)
        · refine lv_aload_n hx hb dX5_placesHeardWell_21 rfl (lv_at hl 3 rfl) ?_
          refine lv_iload_n hx hb dX5_placesHeardWell_22 rfl (lv_at hl 0 rfl) ?_
          refine lv_iload_n hx hb dX5_placesHeardWell_23 rfl (lv_at hl 1 rfl) ?_
          refine hh_cVi C0 hp (As := [.int q_12, .int (nI i)]) (rest := []) (C := RX5) (T := TX5) (N := 10) (ci := 5) (n := 2) (hk_X5_qualityAt l D K ad hT r q_12 (nI i) hr (hh_in (n := nm) (by assumption) (by assumption) (by omega) (by decide)) (vp_in_nI (by omega) (by decide))) rfl (hh_b_r hr) (hh_E_r r) (hh_gV hm_125 hm_126 hm_127 hm_128 hm_122) ⟨rfl, rfl⟩ (by decide +kernel) ⟨Nat.le_of_ble_eq_true rfl, Nat.le_of_ble_eq_true rfl⟩ ⟨Nat.zero_le _, Nat.zero_le _⟩ hl.1 rfl rfl (Nat.le_of_ble_eq_true rfl) dX5_placesHeardWell_24 (fun q_24 v_24 H locs hv_24 hp => ?_)
          obtain ⟨eq_24, hv9⟩ := hv_24
          rw [hv9] at hp; clear hv9
          refine lv_iconst (v := 5) hx hb dX5_placesHeardWell_27 (by decide) ?_
          refine lv_icmp_lt (tgt := 34) hx hb dX5_placesHeardWell_28 (by decide) (fun c_28 => ?_) (fun c_28 => ?_)
          · refine lv_iinc (v := (nI (i + 1))) (lv' := [(2, .int (nI (i + 1))), (3, .int q_12), (1, .int a4_1), (0, .ref (ad (hh_rI r)))]) hx hb dX5_placesHeardWell_34 hl (k := 1) rfl (nI_1 i) (by decide) rfl (fun ls hl => ?_)
            refine lv_goto (tgt := 4) hx hb dX5_placesHeardWell_37 (by decide) ?_
            exact ih (i + 1) a4_1 _ _ _ (by omega) (by omega) (by rw [hh_fld, ← hsL_4]; show _ = hl_X5_placesHeardWell_4 v r i a4_1; unfold hl_X5_placesHeardWell_4; rw [hh_let_eq eq_12, if_neg c_18, hh_let_eq eq_24, if_pos c_28]) hp (lv_sub hl [0, 2, 3] rfl)
          · obtain ⟨x_31, ex_31⟩ : ∃ z : Int32, z = (a4_1 + 1) := ⟨_, rfl⟩
            refine lv_iinc (v := x_31) (lv' := [(1, .int x_31), (3, .int q_12), (2, .int (nI i)), (0, .ref (ad (hh_rI r)))]) hx hb dX5_placesHeardWell_31 hl (k := 2) rfl (by rw [ex_31]; rfl) (by decide) rfl (fun ls hl => ?_)
            refine lv_iinc (v := (nI (i + 1))) (lv' := [(2, .int (nI (i + 1))), (1, .int x_31), (3, .int q_12), (0, .ref (ad (hh_rI r)))]) hx hb dX5_placesHeardWell_34 hl (k := 2) rfl (nI_1 i) (by decide) rfl (fun ls hl => ?_)
            refine lv_goto (tgt := 4) hx hb dX5_placesHeardWell_37 (by decide) ?_
            exact ih (i + 1) x_31 _ _ _ (by omega) (by omega) (by rw [hh_fld, ← hsL_4]; show _ = hl_X5_placesHeardWell_4 v r i a4_1; unfold hl_X5_placesHeardWell_4; rw [hh_let_eq eq_12, if_neg c_18, hh_let_eq eq_24, if_neg c_28, hh_let_eq ex_31]) hp (lv_sub hl [0, 1, 3] rfl)
  exact hL_4 (100 + 1) 0 0 _ _ _ (Nat.zero_le _) (by omega) rfl hp (lv_sub hl [0, 1, 2] rfl)
def hf_X5_hasFreeChannels (v : hh_M) (r : Nat) (mast : Int32) (needed : Int32) : Int32 := (if (v (hh_mI mast.toNatClampNeg) 3) < ((v (hh_lI r) mast.toNatClampNeg) + needed) then 0 else 1)
set_option maxHeartbeats 4000000 in
set_option maxRecDepth 100000 in
theorem hk_X5_hasFreeChannels (l : Launch) (D : va_G) (K : Nat → ClassId) (ad : Nat → Nat) {nm : Nat} {nh nc : Nat → Nat} {v : hh_M} (hT : hh_T nm nh nc v) (r : Nat) (mast : Int32) (needed : Int32) (hr : r < 2) (h1 : vp_in mast 6) : hh_Ki l D K ad yX5_hasFreeChannels (hh_wm yX5_hasFreeChannels cX5_hasFreeChannels 3 (some .boolean)) { frames := 0, cells := 0, slots := 0, locals := 0 } [.ref (ad (hh_rI r)), .int mast, .int needed] v (fun (q : Int32) (v1 : hh_M) => q = hf_X5_hasFreeChannels v r mast needed ∧ v1 = v) := by
  refine hh_Ki_of (by decide) (Nat.le_of_ble_eq_true rfl) ?_
  intro p e s m args below meth c ls A C0 hp hl
  obtain ⟨hx, hb, hr9, hml, hown, hts, hK, hlk, hA⟩ := id C0
  have hnm := hT.1
  have hnh := hT.2.1
  have hnc := hT.2.2.1
  have hbHr := hnh r
  have hbCr := hnc r
  have hl : lv_has ls 3 [(0, .ref (ad (hh_rI r))), (1, .int mast), (2, .int needed)] := hl
  refine lv_aload_n hx hb dX5_hasFreeChannels_0 rfl (lv_at hl 0 rfl) ?_
  refine hh_get C0 hp (C := RX5) (T := TX5) (N := 10) (ci := 5) (hh_b_r hr) (hh_E_r r) rfl hh_uX5 1 (by decide) hm_98 rfl rfl dX5_hasFreeChannels_1 ?_
  refine lv_iload_n hx hb dX5_hasFreeChannels_4 rfl (lv_at hl 1 rfl) ?_
  have hin_5 : vp_in mast 6 := by assumption
  refine hh_ial C0 hp (hh_b_l hr) (hh_E_l r) hin_5 rfl dX5_hasFreeChannels_5 ?_
  refine lv_iload_n hx hb dX5_hasFreeChannels_6 rfl (lv_at hl 2 rfl) ?_
  refine lv_iadd hx hb dX5_hasFreeChannels_7 ?_
  refine lv_aload_n hx hb dX5_hasFreeChannels_8 rfl (lv_at hl 0 rfl) ?_
  refine hh_get C0 hp (C := RX5) (T := TX5) (N := 10) (ci := 5) (hh_b_r hr) (hh_E_r r) rfl hh_uX5 0 (by decide) hm_97 rfl rfl dX5_hasFreeChannels_9 ?_
  refine hh_get C0 hp (C := RX4) (T := TX4) (N := 3) (ci := 4) (by decide) hh_E_1 rfl hh_uX4 0 (by decide) hm_136 rfl rfl dX5_hasFreeChannels_12 ?_
  refine lv_iload_n hx hb dX5_hasFreeChannels_15 rfl (lv_at hl 1 rfl) ?_
  have hin_16 : vp_in mast 6 := by assumption
  refine hh_aal C0 hp (t0 := 2) (f := hh_mI) (by decide) hh_E_2 rfl rfl hin_16 rfl dX5_hasFreeChannels_16 ?_
  refine hh_get C0 hp (C := RX3) (T := TX3) (N := 7) (ci := 3) (hh_b_m (hh_lt hin_16)) (hh_E_m (hh_lt hin_16)) rfl hh_uX3 3 (by decide) hm_137 rfl rfl dX5_hasFreeChannels_17 ?_
  refine lv_icmp_gt (tgt := 27) hx hb dX5_hasFreeChannels_20 (by decide) (fun c_20 => ?_) (fun c_20 => ?_)
  · refine lv_iconst (v := 0) hx hb dX5_hasFreeChannels_27 (by decide) ?_
    exact hh_zret C0 hp dX5_hasFreeChannels_28 (Or.inl rfl) ⟨(by unfold hf_X5_hasFreeChannels; rw [if_pos c_20]), rfl⟩
  · refine lv_iconst (v := 1) hx hb dX5_hasFreeChannels_23 (by decide) ?_
    refine lv_goto (tgt := 28) hx hb dX5_hasFreeChannels_24 (by decide) ?_
    exact hh_zret C0 hp dX5_hasFreeChannels_28 (Or.inr rfl) ⟨(by unfold hf_X5_hasFreeChannels; rw [if_neg c_20]), rfl⟩
def hf_X5_isInArea (v : hh_M) (r : Nat) (i : Nat) (area : Int32) : Int32 := (if (v (hh_hI r i) 5) = (-1) then 0 else (if (v (hh_mI ((v (hh_hI r i) 5).toNatClampNeg)) 4) = area then 1 else 0))
set_option maxHeartbeats 4000000 in
set_option maxRecDepth 100000 in
theorem hk_X5_isInArea (l : Launch) (D : va_G) (K : Nat → ClassId) (ad : Nat → Nat) {nm : Nat} {nh nc : Nat → Nat} {v : hh_M} (hT : hh_T nm nh nc v) (r : Nat) (i : Nat) (area : Int32) (hr : r < 2) (hi : i < 8) : hh_Ki l D K ad yX5_isInArea (hh_wm yX5_isInArea cX5_isInArea 3 (some .boolean)) { frames := 0, cells := 0, slots := 0, locals := 0 } [.ref (ad (hh_rI r)), .ref (ad (hh_hI r i)), .int area] v (fun (q : Int32) (v1 : hh_M) => q = hf_X5_isInArea v r i area ∧ v1 = v ∧ (q = 0 ∨ ¬ v (hh_hI r i) 5 = -1)) := by
  refine hh_Ki_of (by decide) (Nat.le_of_ble_eq_true rfl) ?_
  intro p e s m args below meth c ls A C0 hp hl
  obtain ⟨hx, hb, hr9, hml, hown, hts, hK, hlk, hA⟩ := id C0
  have hnm := hT.1
  have hnh := hT.2.1
  have hnc := hT.2.2.1
  have hbHr := hnh r
  have hbCr := hnc r
  have hl : lv_has ls 3 [(0, .ref (ad (hh_rI r))), (1, .ref (ad (hh_hI r i))), (2, .int area)] := hl
  refine lv_aload_n hx hb dX5_isInArea_0 rfl (lv_at hl 1 rfl) ?_
  refine hh_get C0 hp (C := RX1) (T := TX1) (N := 13) (ci := 1) (hh_b_h hr hi) (hh_E_h r hi) rfl hh_uX1 5 (by decide) hm_140 rfl rfl dX5_isInArea_1 ?_
  refine lv_iconst (v := (-1)) hx hb dX5_isInArea_4 (by decide) ?_
  refine lv_icmp_eq (tgt := 31) hx hb dX5_isInArea_5 (by decide) (fun c_5 => ?_) (fun c_5 => ?_)
  · refine lv_iconst (v := 0) hx hb dX5_isInArea_31 (by decide) ?_
    exact hh_zret C0 hp dX5_isInArea_32 (Or.inl rfl) ⟨(by unfold hf_X5_isInArea; rw [if_pos c_5]), rfl, (by first | exact Or.inl rfl | exact Or.inr (by assumption))⟩
  · refine lv_aload_n hx hb dX5_isInArea_8 rfl (lv_at hl 0 rfl) ?_
    refine hh_get C0 hp (C := RX5) (T := TX5) (N := 10) (ci := 5) (hh_b_r hr) (hh_E_r r) rfl hh_uX5 0 (by decide) hm_97 rfl rfl dX5_isInArea_9 ?_
    refine hh_get C0 hp (C := RX4) (T := TX4) (N := 3) (ci := 4) (by decide) hh_E_1 rfl hh_uX4 0 (by decide) hm_136 rfl rfl dX5_isInArea_12 ?_
    refine lv_aload_n hx hb dX5_isInArea_15 rfl (lv_at hl 1 rfl) ?_
    refine hh_get C0 hp (C := RX1) (T := TX1) (N := 13) (ci := 1) (hh_b_h hr hi) (hh_E_h r hi) rfl hh_uX1 5 (by decide) hm_140 rfl rfl dX5_isInArea_16 ?_
    have hin_19 : vp_in (v (hh_hI r i) 5) 6 := hh_in (hh_T_h5 hT r hi) (by assumption) (by omega) (by decide)
    refine hh_aal C0 hp (t0 := 2) (f := hh_mI) (by decide) hh_E_2 rfl rfl hin_19 rfl dX5_isInArea_19 ?_
    refine hh_get C0 hp (C := RX3) (T := TX3) (N := 7) (ci := 3) (hh_b_m (hh_lt hin_19)) (hh_E_m (hh_lt hin_19)) rfl hh_uX3 4 (by decide) hm_151 rfl rfl dX5_isInArea_20 ?_
    refine lv_iload_n hx hb dX5_isInArea_23 rfl (lv_at hl 2 rfl) ?_
    refine lv_icmp_ne (tgt := 31) hx hb dX5_isInArea_24 (by decide) (fun c_24 => ?_) (fun c_24 => ?_)
    · refine lv_iconst (v := 0) hx hb dX5_isInArea_31 (by decide) ?_
      exact hh_zret C0 hp dX5_isInArea_32 (Or.inl rfl) ⟨(by unfold hf_X5_isInArea; rw [if_neg c_5, if_neg c_24]), rfl, (by first | exact Or.inl rfl | exact Or.inr (by assumption))⟩
    · refine lv_iconst (v := 1) hx hb dX5_isInArea_27 (by decide) ?_
      refine lv_goto (tgt := 32) hx hb dX5_isInArea_28 (by decide) ?_
      exact hh_zret C0 hp dX5_isInArea_32 (Or.inr rfl) ⟨(by unfold hf_X5_isInArea; rw [if_neg c_5, if_pos c_24]), rfl, (by first | exact Or.inl rfl | exact Or.inr (by assumption))⟩
def hf_X5_wouldBeFound (v : hh_M) (r : Nat) (i : Nat) : Int32 := (hh_let ((v (hh_hI r i) 7) : Int32) (fun (x_4 : Int32) => (if x_4 = (-1) then (if (v (hh_hI r i) 5) = (-1) then 0 else 1) else (hh_let (hf_X5_isInArea v r i (x_4 - 1) : Int32) (fun (q_29 : Int32) => (if q_29 = 0 then (hh_let (hf_X5_isInArea v r i x_4 : Int32) (fun (q_38 : Int32) => (if q_38 = 0 then (hh_let (hf_X5_isInArea v r i (x_4 + 1) : Int32) (fun (q_49 : Int32) => (if q_49 = 0 then 0 else 1))) else 1))) else 1))))))
set_option maxHeartbeats 4000000 in
set_option maxRecDepth 100000 in
theorem hk_X5_wouldBeFound (l : Launch) (D : va_G) (K : Nat → ClassId) (ad : Nat → Nat) {nm : Nat} {nh nc : Nat → Nat} {v : hh_M} (hT : hh_T nm nh nc v) (r : Nat) (i : Nat) (hr : r < 2) (hi : i < 8) : hh_Ki l D K ad yX5_wouldBeFound (hh_wm yX5_wouldBeFound cX5_wouldBeFound 3 (some .boolean)) { frames := 1, cells := 0, slots := 0, locals := 22 } [.ref (ad (hh_rI r)), .ref (ad (hh_hI r i))] v (fun (q : Int32) (v1 : hh_M) => q = hf_X5_wouldBeFound v r i ∧ v1 = v) := by
  refine hh_Ki_of (by decide) (Nat.le_of_ble_eq_true rfl) ?_
  intro p e s m args below meth c ls A C0 hp hl
  obtain ⟨hx, hb, hr9, hml, hown, hts, hK, hlk, hA⟩ := id C0
  have hnm := hT.1
  have hnh := hT.2.1
  have hnc := hT.2.2.1
  have hbHr := hnh r
  have hbCr := hnc r
  have hl : lv_has ls 3 [(0, .ref (ad (hh_rI r))), (1, .ref (ad (hh_hI r i)))] := hl
  refine lv_aload_n hx hb dX5_wouldBeFound_0 rfl (lv_at hl 1 rfl) ?_
  refine hh_get C0 hp (C := RX1) (T := TX1) (N := 13) (ci := 1) (hh_b_h hr hi) (hh_E_h r hi) rfl hh_uX1 7 (by decide) hm_139 rfl rfl dX5_wouldBeFound_1 ?_
  refine lv_topi (fun x_4 ex_4 => ?_)
  refine lv_istore_n (lv' := [(2, .int x_4), (0, .ref (ad (hh_rI r))), (1, .ref (ad (hh_hI r i)))]) hx hb dX5_wouldBeFound_4 rfl hl (by decide) rfl (fun ls hl => ?_)
  refine lv_iload_n hx hb dX5_wouldBeFound_5 rfl (lv_at hl 0 rfl) ?_
  refine lv_iconst (v := (-1)) hx hb dX5_wouldBeFound_6 (by decide) ?_
  refine lv_icmp_ne (tgt := 24) hx hb dX5_wouldBeFound_7 (by decide) (fun c_7 => ?_) (fun c_7 => ?_)
  · refine lv_aload_n hx hb dX5_wouldBeFound_24 rfl (lv_at hl 1 rfl) ?_
    refine lv_aload_n hx hb dX5_wouldBeFound_25 rfl (lv_at hl 2 rfl) ?_
    refine lv_iload_n hx hb dX5_wouldBeFound_26 rfl (lv_at hl 0 rfl) ?_
    refine lv_iconst (v := 1) hx hb dX5_wouldBeFound_27 (by decide) ?_
    refine lv_isub hx hb dX5_wouldBeFound_28 ?_
    refine hh_cVi C0 hp (As := [.ref (ad (hh_hI r i)), .int (x_4 - 1)]) (rest := []) (C := RX5) (T := TX5) (N := 10) (ci := 5) (n := 2) (hk_X5_isInArea l D K ad hT r i (x_4 - 1) hr hi) rfl (hh_b_r hr) (hh_E_r r) (hh_gV hm_147 hm_148 hm_149 hm_128 hm_150) ⟨rfl, rfl⟩ (by decide +kernel) ⟨Nat.le_of_ble_eq_true rfl, Nat.le_of_ble_eq_true rfl⟩ ⟨Nat.zero_le _, Nat.zero_le _⟩ hl.1 rfl rfl (Nat.le_of_ble_eq_true rfl) dX5_wouldBeFound_29 (fun q_29 v_29 H locs hv_29 hp => ?_)
    obtain ⟨eq_29, hv9, hpq_29a⟩ := hv_29
    rw [hv9] at hp; clear hv9
    refine lv_if_ne (tgt := 55) hx hb dX5_wouldBeFound_32 (by decide) (fun c_32 => ?_) (fun c_32 => ?_)
    · refine lv_iconst (v := 1) hx hb dX5_wouldBeFound_55 (by decide) ?_
      refine lv_goto (tgt := 60) hx hb dX5_wouldBeFound_56 (by decide) ?_
      exact hh_zret C0 hp dX5_wouldBeFound_60 (Or.inr rfl) ⟨(by unfold hf_X5_wouldBeFound; rw [hh_let_eq ex_4, if_neg c_7, hh_let_eq eq_29, if_neg c_32]), rfl⟩
    · refine lv_aload_n hx hb dX5_wouldBeFound_35 rfl (lv_at hl 1 rfl) ?_
      refine lv_aload_n hx hb dX5_wouldBeFound_36 rfl (lv_at hl 2 rfl) ?_
      refine lv_iload_n hx hb dX5_wouldBeFound_37 rfl (lv_at hl 0 rfl) ?_
      refine hh_cVi C0 hp (As := [.ref (ad (hh_hI r i)), .int x_4]) (rest := []) (C := RX5) (T := TX5) (N := 10) (ci := 5) (n := 2) (hk_X5_isInArea l D K ad hT r i x_4 hr hi) rfl (hh_b_r hr) (hh_E_r r) (hh_gV hm_147 hm_148 hm_149 hm_128 hm_150) ⟨rfl, rfl⟩ (by decide +kernel) ⟨Nat.le_of_ble_eq_true rfl, Nat.le_of_ble_eq_true rfl⟩ ⟨Nat.zero_le _, Nat.zero_le _⟩ hl.1 rfl rfl (Nat.le_of_ble_eq_true rfl) dX5_wouldBeFound_38 (fun q_38 v_38 H locs hv_38 hp => ?_)
      obtain ⟨eq_38, hv9, hpq_38a⟩ := hv_38
      rw [hv9] at hp; clear hv9
      refine lv_if_ne (tgt := 55) hx hb dX5_wouldBeFound_41 (by decide) (fun c_41 => ?_) (fun c_41 => ?_)
      · refine lv_iconst (v := 1) hx hb dX5_wouldBeFound_55 (by decide) ?_
        refine lv_goto (tgt := 60) hx hb dX5_wouldBeFound_56 (by decide) ?_
        exact hh_zret C0 hp dX5_wouldBeFound_60 (Or.inr rfl) ⟨(by unfold hf_X5_wouldBeFound; rw [hh_let_eq ex_4, if_neg c_7, hh_let_eq eq_29, if_pos c_32, hh_let_eq eq_38, if_neg c_41]), rfl⟩
      · refine lv_aload_n hx hb dX5_wouldBeFound_44 rfl (lv_at hl 1 rfl) ?_
        refine lv_aload_n hx hb dX5_wouldBeFound_45 rfl (lv_at hl 2 rfl) ?_
        refine lv_iload_n hx hb dX5_wouldBeFound_46 rfl (lv_at hl 0 rfl) ?_
        refine lv_iconst (v := 1) hx hb dX5_wouldBeFound_47 (by decide) ?_
        refine lv_iadd hx hb dX5_wouldBeFound_48 ?_
        refine hh_cVi C0 hp (As := [.ref (ad (hh_hI r i)), .int (x_4 + 1)]) (rest := []) (C := RX5) (T := TX5) (N := 10) (ci := 5) (n := 2) (hk_X5_isInArea l D K ad hT r i (x_4 + 1) hr hi) rfl (hh_b_r hr) (hh_E_r r) (hh_gV hm_147 hm_148 hm_149 hm_128 hm_150) ⟨rfl, rfl⟩ (by decide +kernel) ⟨Nat.le_of_ble_eq_true rfl, Nat.le_of_ble_eq_true rfl⟩ ⟨Nat.zero_le _, Nat.zero_le _⟩ hl.1 rfl rfl (Nat.le_of_ble_eq_true rfl) dX5_wouldBeFound_49 (fun q_49 v_49 H locs hv_49 hp => ?_)
        obtain ⟨eq_49, hv9, hpq_49a⟩ := hv_49
        rw [hv9] at hp; clear hv9
        refine lv_if_eq (tgt := 59) hx hb dX5_wouldBeFound_52 (by decide) (fun c_52 => ?_) (fun c_52 => ?_)
        · refine lv_iconst (v := 0) hx hb dX5_wouldBeFound_59 (by decide) ?_
          exact hh_zret C0 hp dX5_wouldBeFound_60 (Or.inl rfl) ⟨(by unfold hf_X5_wouldBeFound; rw [hh_let_eq ex_4, if_neg c_7, hh_let_eq eq_29, if_pos c_32, hh_let_eq eq_38, if_pos c_41, hh_let_eq eq_49, if_pos c_52]), rfl⟩
        · refine lv_iconst (v := 1) hx hb dX5_wouldBeFound_55 (by decide) ?_
          refine lv_goto (tgt := 60) hx hb dX5_wouldBeFound_56 (by decide) ?_
          exact hh_zret C0 hp dX5_wouldBeFound_60 (Or.inr rfl) ⟨(by unfold hf_X5_wouldBeFound; rw [hh_let_eq ex_4, if_neg c_7, hh_let_eq eq_29, if_pos c_32, hh_let_eq eq_38, if_pos c_41, hh_let_eq eq_49, if_neg c_52]), rfl⟩
  · refine lv_aload_n hx hb dX5_wouldBeFound_10 rfl (lv_at hl 2 rfl) ?_
    refine hh_get C0 hp (C := RX1) (T := TX1) (N := 13) (ci := 1) (hh_b_h hr hi) (hh_E_h r hi) rfl hh_uX1 5 (by decide) hm_140 rfl rfl dX5_wouldBeFound_11 ?_
    refine lv_iconst (v := (-1)) hx hb dX5_wouldBeFound_14 (by decide) ?_
    refine lv_icmp_eq (tgt := 22) hx hb dX5_wouldBeFound_15 (by decide) (fun c_15 => ?_) (fun c_15 => ?_)
    · refine lv_iconst (v := 0) hx hb dX5_wouldBeFound_22 (by decide) ?_
      exact hh_zret C0 hp dX5_wouldBeFound_23 (Or.inl rfl) ⟨(by unfold hf_X5_wouldBeFound; rw [hh_let_eq ex_4, if_pos c_7, if_pos c_15]), rfl⟩
    · refine lv_iconst (v := 1) hx hb dX5_wouldBeFound_18 (by decide) ?_
      refine lv_goto (tgt := 23) hx hb dX5_wouldBeFound_19 (by decide) ?_
      exact hh_zret C0 hp dX5_wouldBeFound_23 (Or.inr rfl) ⟨(by unfold hf_X5_wouldBeFound; rw [hh_let_eq ex_4, if_pos c_7, if_neg c_15]), rfl⟩
def hl_X5_handsetsToBeFound_4 (v : hh_M) (r : Nat) (i : Nat) (a4_1 : Int32) : Int32 := (hh_let (hf_X5_wouldBeFound v r i : Int32) (fun (q_19 : Int32) => (if q_19 = 0 then a4_1 else (hh_let ((a4_1 + 1) : Int32) (fun (x_25 : Int32) => x_25)))))
def hf_X5_handsetsToBeFound (v : hh_M) (r : Nat) : Int32 := (hh_let (hh_fld (fun (i9 : Nat) (z : Int32) => hl_X5_handsetsToBeFound_4 v r i9 z) ((v (hh_rI r) 5).toNatClampNeg) 0 : Int32) (fun (a4_1 : Int32) => a4_1))
set_option maxHeartbeats 4000000 in
set_option maxRecDepth 100000 in
theorem hk_X5_handsetsToBeFound (l : Launch) (D : va_G) (K : Nat → ClassId) (ad : Nat → Nat) {nm : Nat} {nh nc : Nat → Nat} {v : hh_M} (hT : hh_T nm nh nc v) (r : Nat) (hr : r < 2) : hh_Ki l D K ad yX5_handsetsToBeFound (hh_wm yX5_handsetsToBeFound cX5_handsetsToBeFound 3 (some .int)) { frames := 2, cells := 0, slots := 0, locals := 44 } [.ref (ad (hh_rI r))] v (fun (q : Int32) (v1 : hh_M) => q = hf_X5_handsetsToBeFound v r ∧ v1 = v) := by
  refine hh_Ki_of (by decide) (Nat.le_of_ble_eq_true rfl) ?_
  intro p e s m args below meth c ls A C0 hp hl
  obtain ⟨hx, hb, hr9, hml, hown, hts, hK, hlk, hA⟩ := id C0
  have hnm := hT.1
  have hnh := hT.2.1
  have hnc := hT.2.2.1
  have hbHr := hnh r
  have hbCr := hnc r
  have hl : lv_has ls 3 [(0, .ref (ad (hh_rI r)))] := hl
  refine lv_iconst (v := 0) hx hb dX5_handsetsToBeFound_0 (by decide) ?_
  refine lv_istore_n (lv' := [(1, .int 0), (0, .ref (ad (hh_rI r)))]) hx hb dX5_handsetsToBeFound_1 rfl hl (by decide) rfl (fun ls hl => ?_)
  refine lv_iconst (v := 0) hx hb dX5_handsetsToBeFound_2 (by decide) ?_
  refine lv_istore_n (lv' := [(2, .int 0), (1, .int 0), (0, .ref (ad (hh_rI r)))]) hx hb dX5_handsetsToBeFound_3 rfl hl (by decide) rfl (fun ls hl => ?_)
  have hL_4 : ∀ (n i : Nat) (a4_1 : Int32) (H : Heap) (locs : List Loc) (ls : Array Slot), i ≤ nh r → nh r - i < n → a4_1 = hh_fld (fun (i9 : Nat) (z : Int32) => hl_X5_handsetsToBeFound_4 v r i9 z) i 0 → hh_H D K ad A s.heap v H locs → lv_has ls 3 [(2, .int (nI i)), (1, .int a4_1), (0, .ref (ad (hh_rI r)))] → W p l e ({ frames := 2, cells := 0, slots := 0, locals := 44 } : Room) s m args below meth c H locs 0 0 (MQ below (va_Qi (fun (q : Int32) (v1 : hh_M) => q = hf_X5_handsetsToBeFound v r ∧ v1 = v) (hh_B D K ad A) A) args s 0 0 A) (F0 m 4 ls []) := by
    intro n
    induction n with
    | zero => intro i a4_1 H locs ls h1 h2; omega
    | succ n ih =>
      intro i a4_1 H locs ls hii hni hsL_4 hp hl
      refine lv_iload_n hx hb dX5_handsetsToBeFound_4 rfl (lv_at hl 0 rfl) ?_
      refine lv_aload_n hx hb dX5_handsetsToBeFound_5 rfl (lv_at hl 2 rfl) ?_
      refine hh_get C0 hp (C := RX5) (T := TX5) (N := 10) (ci := 5) (hh_b_r hr) (hh_E_r r) rfl hh_uX5 5 (by decide) hm_111 rfl rfl dX5_handsetsToBeFound_6 ?_
      refine lv_icmp_ge (tgt := 34) hx hb dX5_handsetsToBeFound_9 (by decide) (fun c_9 => ?_) (fun c_9 => ?_)
      · have hbc_9 : (v (hh_rI r) 5) = nI (nh r) := hh_T_r5 hT r
        rw [hbc_9] at c_9
        have hc_9 := (nI_leI (a := nh r) (b := i) (by omega) (by omega))
        have hltc_9 : nh r ≤ i := by exact hc_9.mp c_9
        have hNL_4 : i = nh r := by omega
        rw [hNL_4] at hsL_4
        have hsL_4 : a4_1 = hh_fld (fun (i9 : Nat) (z : Int32) => hl_X5_handsetsToBeFound_4 v r i9 z) ((v (hh_rI r) 5).toNatClampNeg) 0 := by rw [hsL_4, show (v (hh_rI r) 5).toNatClampNeg = nh r from by rw [hh_T_r5 hT r]; exact nI_clamp (by have := hnh r; omega)]
        have ea4_1 : a4_1 = hh_fld (fun (i9 : Nat) (z : Int32) => hl_X5_handsetsToBeFound_4 v r i9 z) ((v (hh_rI r) 5).toNatClampNeg) 0 := hsL_4
        clear ih hsL_4
        refine lv_iload_n hx hb dX5_handsetsToBeFound_34 rfl (lv_at hl 1 rfl) ?_
        exact hh_iret C0 hp dX5_handsetsToBeFound_35 ⟨(by unfold hf_X5_handsetsToBeFound; rw [hh_let_eq ea4_1]), rfl⟩
      · have hbc_9 : (v (hh_rI r) 5) = nI (nh r) := hh_T_r5 hT r
        rw [hbc_9] at c_9
        have hc_9 := (nI_leI (a := nh r) (b := i) (by omega) (by omega))
        have hltc_9 : i < nh r := by exact Nat.not_le.mp (fun z => c_9 (hc_9.mpr z))
        have hbH := hnh r
        refine lv_aload_n hx hb dX5_handsetsToBeFound_12 rfl (lv_at hl 2 rfl) ?_
        refine lv_aload_n hx hb dX5_handsetsToBeFound_13 rfl (lv_at hl 2 rfl) ?_
        refine hh_get C0 hp (C := RX5) (T := TX5) (N := 10) (ci := 5) (hh_b_r hr) (hh_E_r r) rfl hh_uX5 3 (by decide) hm_101 rfl rfl dX5_handsetsToBeFound_14 ?_
        refine lv_iload_n hx hb dX5_handsetsToBeFound_17 rfl (lv_at hl 0 rfl) ?_
        refine hh_aal C0 hp (t0 := 3) (f := (hh_hI r)) (hh_b_H hr) (hh_E_H r) rfl rfl (vp_in_nI (by omega) (by decide)) (nI_clamp (by omega)) dX5_handsetsToBeFound_18 ?_
        refine hh_cVi C0 hp (As := [.ref (ad (hh_hI r i))]) (rest := []) (C := RX5) (T := TX5) (N := 10) (ci := 5) (n := 1) (hk_X5_wouldBeFound l D K ad hT r i hr (by omega : i < 8)) rfl (hh_b_r hr) (hh_E_r r) (hh_gV hm_154 hm_155 hm_156 hm_128 hm_152) ⟨rfl, rfl⟩ (by decide +kernel) ⟨Nat.le_of_ble_eq_true rfl, Nat.le_of_ble_eq_true rfl⟩ ⟨Nat.zero_le _, Nat.zero_le _⟩ hl.1 rfl rfl (Nat.le_of_ble_eq_true rfl) dX5_handsetsToBeFound_19 (fun q_19 v_19 H locs hv_19 hp => ?_)
        obtain ⟨eq_19, hv9⟩ := hv_19
        rw [hv9] at hp; clear hv9
        refine lv_if_eq (tgt := 28) hx hb dX5_handsetsToBeFound_22 (by decide) (fun c_22 => ?_) (fun c_22 => ?_)
        · refine lv_iinc (v := (nI (i + 1))) (lv' := [(2, .int (nI (i + 1))), (1, .int a4_1), (0, .ref (ad (hh_rI r)))]) hx hb dX5_handsetsToBeFound_28 hl (k := 0) rfl (nI_1 i) (by decide) rfl (fun ls hl => ?_)
          refine lv_goto (tgt := 4) hx hb dX5_handsetsToBeFound_31 (by decide) ?_
          exact ih (i + 1) a4_1 _ _ _ (by omega) (by omega) (by rw [hh_fld, ← hsL_4]; show _ = hl_X5_handsetsToBeFound_4 v r i a4_1; unfold hl_X5_handsetsToBeFound_4; rw [hh_let_eq eq_19, if_pos c_22]) hp (lv_sub hl [0, 1, 2] rfl)
        · obtain ⟨x_25, ex_25⟩ : ∃ z : Int32, z = (a4_1 + 1) := ⟨_, rfl⟩
          refine lv_iinc (v := x_25) (lv' := [(1, .int x_25), (2, .int (nI i)), (0, .ref (ad (hh_rI r)))]) hx hb dX5_handsetsToBeFound_25 hl (k := 1) rfl (by rw [ex_25]; rfl) (by decide) rfl (fun ls hl => ?_)
          refine lv_iinc (v := (nI (i + 1))) (lv' := [(2, .int (nI (i + 1))), (1, .int x_25), (0, .ref (ad (hh_rI r)))]) hx hb dX5_handsetsToBeFound_28 hl (k := 1) rfl (nI_1 i) (by decide) rfl (fun ls hl => ?_)
          refine lv_goto (tgt := 4) hx hb dX5_handsetsToBeFound_31 (by decide) ?_
          exact ih (i + 1) x_25 _ _ _ (by omega) (by omega) (by rw [hh_fld, ← hsL_4]; show _ = hl_X5_handsetsToBeFound_4 v r i a4_1; unfold hl_X5_handsetsToBeFound_4; rw [hh_let_eq eq_19, if_neg c_22, hh_let_eq ex_25]) hp (lv_sub hl [0, 1, 2] rfl)
  exact hL_4 (nh r + 1) 0 0 _ _ _ (Nat.zero_le _) (by omega) rfl hp (lv_sub hl [0, 1, 2] rfl)
def hf_X5_page (v : hh_M) (r : Nat) (i : Nat) : Int32 × hh_M := (hh_let ((v (hh_hI r i) 7) : Int32) (fun (x_4 : Int32) => (if x_4 = (-1) then (hh_let (hf_X4_awake v : Int32) (fun (q_19 : Int32) => (hh_let (hh_up v (hh_rI r) 9 ((v (hh_rI r) 9) + q_19) : hh_M) (fun (v_23 : hh_M) => (if (v_23 (hh_hI r i) 5) = (-1) then (0, v_23) else (1, v_23)))))) else (hh_let (hf_X4_awakeInArea v x_4 : Int32) (fun (q_50 : Int32) => (hh_let (hh_up v (hh_rI r) 9 ((v (hh_rI r) 9) + q_50) : hh_M) (fun (v_54 : hh_M) => (hh_let (hf_X5_isInArea v_54 r i x_4 : Int32) (fun (q_60 : Int32) => (if q_60 = 0 then (hh_let (hf_X4_awakeInArea v_54 (x_4 - 1) : Int32) (fun (q_80 : Int32) => (hh_let (hf_X4_awakeInArea v_54 (x_4 + 1) : Int32) (fun (q_90 : Int32) => (hh_let (hh_up v_54 (hh_rI r) 9 ((v_54 (hh_rI r) 9) + (q_80 + q_90)) : hh_M) (fun (v_95 : hh_M) => (hh_let (hf_X5_isInArea v_95 r i (x_4 - 1) : Int32) (fun (q_103 : Int32) => (if q_103 = 0 then (hh_let (hf_X5_isInArea v_95 r i (x_4 + 1) : Int32) (fun (q_114 : Int32) => (if q_114 = 0 then (0, v_95) else (1, v_95)))) else (1, v_95)))))))))) else (1, v_54)))))))))))
set_option maxHeartbeats 4000000 in
set_option maxRecDepth 100000 in
theorem hk_X5_page (l : Launch) (D : va_G) (K : Nat → ClassId) (ad : Nat → Nat) {nm : Nat} {nh nc : Nat → Nat} {v : hh_M} (hT : hh_T nm nh nc v) (r : Nat) (i : Nat) (hr : r < 2) (hi : i < 8) : hh_Ki l D K ad yX5_page (hh_wm yX5_page cX5_page 3 (some .boolean)) { frames := 1, cells := 0, slots := 0, locals := 23 } [.ref (ad (hh_rI r)), .ref (ad (hh_hI r i))] v (fun (q : Int32) (v1 : hh_M) => (q, v1) = hf_X5_page v r i ∧ hh_T nm nh nc v1 ∧ (q = 0 ∨ ¬ v1 (hh_hI r i) 5 = -1) ∧ (∀ a b, a ≠ hh_rI r → v1 a b = v a b)) := by
  refine hh_Ki_of (by decide) (Nat.le_of_ble_eq_true rfl) ?_
  intro p e s m args below meth c ls A C0 hp hl
  obtain ⟨hx, hb, hr9, hml, hown, hts, hK, hlk, hA⟩ := id C0
  have hnm := hT.1
  have hnh := hT.2.1
  have hnc := hT.2.2.1
  have hbHr := hnh r
  have hbCr := hnc r
  have hl : lv_has ls 3 [(0, .ref (ad (hh_rI r))), (1, .ref (ad (hh_hI r i)))] := hl
  refine lv_aload_n hx hb dX5_page_0 rfl (lv_at hl 1 rfl) ?_
  refine hh_get C0 hp (C := RX1) (T := TX1) (N := 13) (ci := 1) (hh_b_h hr hi) (hh_E_h r hi) rfl hh_uX1 7 (by decide) hm_139 rfl rfl dX5_page_1 ?_
  refine lv_topi (fun x_4 ex_4 => ?_)
  refine lv_istore_n (lv' := [(2, .int x_4), (0, .ref (ad (hh_rI r))), (1, .ref (ad (hh_hI r i)))]) hx hb dX5_page_4 rfl hl (by decide) rfl (fun ls hl => ?_)
  refine lv_iload_n hx hb dX5_page_5 rfl (lv_at hl 0 rfl) ?_
  refine lv_iconst (v := (-1)) hx hb dX5_page_6 (by decide) ?_
  refine lv_icmp_ne (tgt := 40) hx hb dX5_page_7 (by decide) (fun c_7 => ?_) (fun c_7 => ?_)
  · refine lv_aload_n hx hb dX5_page_40 rfl (lv_at hl 1 rfl) ?_
    refine lv_dup hx hb dX5_page_41 rfl ?_
    refine hh_get C0 hp (C := RX5) (T := TX5) (N := 10) (ci := 5) (hh_b_r hr) (hh_E_r r) rfl hh_uX5 9 (by decide) hm_115 rfl rfl dX5_page_42 ?_
    refine lv_aload_n hx hb dX5_page_45 rfl (lv_at hl 1 rfl) ?_
    refine hh_get C0 hp (C := RX5) (T := TX5) (N := 10) (ci := 5) (hh_b_r hr) (hh_E_r r) rfl hh_uX5 0 (by decide) hm_97 rfl rfl dX5_page_46 ?_
    refine lv_iload_n hx hb dX5_page_49 rfl (lv_at hl 0 rfl) ?_
    refine hh_cVi C0 hp (As := [.int x_4]) (rest := [.int (v (hh_rI r) 9), .ref (ad (hh_rI r))]) (C := RX4) (T := TX4) (N := 3) (ci := 4) (n := 1) (hk_X4_awakeInArea l D K ad hT x_4) rfl (by decide) hh_E_1 (hh_gV hm_144 hm_145 hm_146 hm_83 hm_92) ⟨rfl, rfl⟩ (by decide +kernel) ⟨Nat.le_of_ble_eq_true rfl, Nat.le_of_ble_eq_true rfl⟩ ⟨Nat.zero_le _, Nat.zero_le _⟩ hl.1 rfl rfl (Nat.le_of_ble_eq_true rfl) dX5_page_50 (fun q_50 v_50 H locs hv_50 hp => ?_)
    obtain ⟨eq_50, hv9⟩ := hv_50
    rw [hv9] at hp; clear hv9
    refine lv_iadd hx hb dX5_page_53 ?_
    refine hh_put C0 hp (C := RX5) (T := TX5) (N := 10) (ci := 5) (k := 9) (ty := .int) (hh_b_r hr) (hh_E_r r) (hh_pr9 r) rfl hh_uX5 tyX5_ok nmX5 (by decide) hm_115 rfl rfl (by decide +kernel) rfl rfl (Nat.le_of_ble_eq_true rfl) dX5_page_54 (fun H locs hp => ?_)
    obtain ⟨v_54, ev_54⟩ : ∃ z : hh_M, z = hh_up v (hh_rI r) 9 ((v (hh_rI r) 9) + q_50) := ⟨_, rfl⟩
    rw [← ev_54] at hp
    have hTv_54 : hh_T nm nh nc v_54 := by rw [ev_54]; exact hh_T_up hT (hh_Rt_r hr (by decide))
    refine lv_aload_n hx hb dX5_page_57 rfl (lv_at hl 1 rfl) ?_
    refine lv_aload_n hx hb dX5_page_58 rfl (lv_at hl 2 rfl) ?_
    refine lv_iload_n hx hb dX5_page_59 rfl (lv_at hl 0 rfl) ?_
    refine hh_cVi C0 hp (As := [.ref (ad (hh_hI r i)), .int x_4]) (rest := []) (C := RX5) (T := TX5) (N := 10) (ci := 5) (n := 2) (hk_X5_isInArea l D K ad hTv_54 r i x_4 hr hi) rfl (hh_b_r hr) (hh_E_r r) (hh_gV hm_147 hm_148 hm_149 hm_128 hm_150) ⟨rfl, rfl⟩ (by decide +kernel) ⟨Nat.le_of_ble_eq_true rfl, Nat.le_of_ble_eq_true rfl⟩ ⟨Nat.zero_le _, Nat.zero_le _⟩ hl.1 rfl rfl (Nat.le_of_ble_eq_true rfl) dX5_page_60 (fun q_60 v_60 H locs hv_60 hp => ?_)
    obtain ⟨eq_60, hv9, hpq_60a⟩ := hv_60
    rw [hv9] at hp; clear hv9
    refine lv_if_eq (tgt := 68) hx hb dX5_page_63 (by decide) (fun c_63 => ?_) (fun c_63 => ?_)
    · refine lv_aload_n hx hb dX5_page_68 rfl (lv_at hl 1 rfl) ?_
      refine lv_dup hx hb dX5_page_69 rfl ?_
      refine hh_get C0 hp (C := RX5) (T := TX5) (N := 10) (ci := 5) (hh_b_r hr) (hh_E_r r) rfl hh_uX5 9 (by decide) hm_115 rfl rfl dX5_page_70 ?_
      refine lv_aload_n hx hb dX5_page_73 rfl (lv_at hl 1 rfl) ?_
      refine hh_get C0 hp (C := RX5) (T := TX5) (N := 10) (ci := 5) (hh_b_r hr) (hh_E_r r) rfl hh_uX5 0 (by decide) hm_97 rfl rfl dX5_page_74 ?_
      refine lv_iload_n hx hb dX5_page_77 rfl (lv_at hl 0 rfl) ?_
      refine lv_iconst (v := 1) hx hb dX5_page_78 (by decide) ?_
      refine lv_isub hx hb dX5_page_79 ?_
      refine hh_cVi C0 hp (As := [.int (x_4 - 1)]) (rest := [.int (v_54 (hh_rI r) 9), .ref (ad (hh_rI r))]) (C := RX4) (T := TX4) (N := 3) (ci := 4) (n := 1) (hk_X4_awakeInArea l D K ad hTv_54 (x_4 - 1)) rfl (by decide) hh_E_1 (hh_gV hm_144 hm_145 hm_146 hm_83 hm_92) ⟨rfl, rfl⟩ (by decide +kernel) ⟨Nat.le_of_ble_eq_true rfl, Nat.le_of_ble_eq_true rfl⟩ ⟨Nat.zero_le _, Nat.zero_le _⟩ hl.1 rfl rfl (Nat.le_of_ble_eq_true rfl) dX5_page_80 (fun q_80 v_80 H locs hv_80 hp => ?_)
      obtain ⟨eq_80, hv9⟩ := hv_80
      rw [hv9] at hp; clear hv9
      refine lv_aload_n hx hb dX5_page_83 rfl (lv_at hl 1 rfl) ?_
      refine hh_get C0 hp (C := RX5) (T := TX5) (N := 10) (ci := 5) (hh_b_r hr) (hh_E_r r) rfl hh_uX5 0 (by decide) hm_97 rfl rfl dX5_page_84 ?_
      refine lv_iload_n hx hb dX5_page_87 rfl (lv_at hl 0 rfl) ?_
      refine lv_iconst (v := 1) hx hb dX5_page_88 (by decide) ?_
      refine lv_iadd hx hb dX5_page_89 ?_
      refine hh_cVi C0 hp (As := [.int (x_4 + 1)]) (rest := [.int q_80, .int (v_54 (hh_rI r) 9), .ref (ad (hh_rI r))]) (C := RX4) (T := TX4) (N := 3) (ci := 4) (n := 1) (hk_X4_awakeInArea l D K ad hTv_54 (x_4 + 1)) rfl (by decide) hh_E_1 (hh_gV hm_144 hm_145 hm_146 hm_83 hm_92) ⟨rfl, rfl⟩ (by decide +kernel) ⟨Nat.le_of_ble_eq_true rfl, Nat.le_of_ble_eq_true rfl⟩ ⟨Nat.zero_le _, Nat.zero_le _⟩ hl.1 rfl rfl (Nat.le_of_ble_eq_true rfl) dX5_page_90 (fun q_90 v_90 H locs hv_90 hp => ?_)
      obtain ⟨eq_90, hv9⟩ := hv_90
      rw [hv9] at hp; clear hv9
      refine lv_iadd hx hb dX5_page_93 ?_
      refine lv_iadd hx hb dX5_page_94 ?_
      refine hh_put C0 hp (C := RX5) (T := TX5) (N := 10) (ci := 5) (k := 9) (ty := .int) (hh_b_r hr) (hh_E_r r) (hh_pr9 r) rfl hh_uX5 tyX5_ok nmX5 (by decide) hm_115 rfl rfl (by decide +kernel) rfl rfl (Nat.le_of_ble_eq_true rfl) dX5_page_95 (fun H locs hp => ?_)
      obtain ⟨v_95, ev_95⟩ : ∃ z : hh_M, z = hh_up v_54 (hh_rI r) 9 ((v_54 (hh_rI r) 9) + (q_80 + q_90)) := ⟨_, rfl⟩
      rw [← ev_95] at hp
      have hTv_95 : hh_T nm nh nc v_95 := by rw [ev_95]; exact hh_T_up hTv_54 (hh_Rt_r hr (by decide))
      refine lv_aload_n hx hb dX5_page_98 rfl (lv_at hl 1 rfl) ?_
      refine lv_aload_n hx hb dX5_page_99 rfl (lv_at hl 2 rfl) ?_
      refine lv_iload_n hx hb dX5_page_100 rfl (lv_at hl 0 rfl) ?_
      refine lv_iconst (v := 1) hx hb dX5_page_101 (by decide) ?_
      refine lv_isub hx hb dX5_page_102 ?_
      refine hh_cVi C0 hp (As := [.ref (ad (hh_hI r i)), .int (x_4 - 1)]) (rest := []) (C := RX5) (T := TX5) (N := 10) (ci := 5) (n := 2) (hk_X5_isInArea l D K ad hTv_95 r i (x_4 - 1) hr hi) rfl (hh_b_r hr) (hh_E_r r) (hh_gV hm_147 hm_148 hm_149 hm_128 hm_150) ⟨rfl, rfl⟩ (by decide +kernel) ⟨Nat.le_of_ble_eq_true rfl, Nat.le_of_ble_eq_true rfl⟩ ⟨Nat.zero_le _, Nat.zero_le _⟩ hl.1 rfl rfl (Nat.le_of_ble_eq_true rfl) dX5_page_103 (fun q_103 v_103 H locs hv_103 hp => ?_)
      obtain ⟨eq_103, hv9, hpq_103a⟩ := hv_103
      rw [hv9] at hp; clear hv9
      refine lv_if_ne (tgt := 120) hx hb dX5_page_106 (by decide) (fun c_106 => ?_) (fun c_106 => ?_)
      · refine lv_iconst (v := 1) hx hb dX5_page_120 (by decide) ?_
        refine lv_goto (tgt := 125) hx hb dX5_page_121 (by decide) ?_
        exact hh_zret C0 hp dX5_page_125 (Or.inr rfl) ⟨(by show (_, _) = _; unfold hf_X5_page; rw [hh_let_eq ex_4, if_neg c_7, hh_let_eq eq_50, hh_let_eq ev_54, hh_let_eq eq_60, if_pos c_63, hh_let_eq eq_80, hh_let_eq eq_90, hh_let_eq ev_95, hh_let_eq eq_103, if_neg c_106]), hTv_95, (by first | exact Or.inl rfl | exact Or.inr (by assumption) | exact Or.inr (hpq_60a.resolve_left c_63) | exact Or.inr (hpq_103a.resolve_left c_106) | exact Or.inr (hpq_114a.resolve_left c_117)), (by intro a b h9; simp only [ev_95, ev_54, hh_upj h9])⟩
      · refine lv_aload_n hx hb dX5_page_109 rfl (lv_at hl 1 rfl) ?_
        refine lv_aload_n hx hb dX5_page_110 rfl (lv_at hl 2 rfl) ?_
        refine lv_iload_n hx hb dX5_page_111 rfl (lv_at hl 0 rfl) ?_
        refine lv_iconst (v := 1) hx hb dX5_page_112 (by decide) ?_
        refine lv_iadd hx hb dX5_page_113 ?_
        refine hh_cVi C0 hp (As := [.ref (ad (hh_hI r i)), .int (x_4 + 1)]) (rest := []) (C := RX5) (T := TX5) (N := 10) (ci := 5) (n := 2) (hk_X5_isInArea l D K ad hTv_95 r i (x_4 + 1) hr hi) rfl (hh_b_r hr) (hh_E_r r) (hh_gV hm_147 hm_148 hm_149 hm_128 hm_150) ⟨rfl, rfl⟩ (by decide +kernel) ⟨Nat.le_of_ble_eq_true rfl, Nat.le_of_ble_eq_true rfl⟩ ⟨Nat.zero_le _, Nat.zero_le _⟩ hl.1 rfl rfl (Nat.le_of_ble_eq_true rfl) dX5_page_114 (fun q_114 v_114 H locs hv_114 hp => ?_)
        obtain ⟨eq_114, hv9, hpq_114a⟩ := hv_114
        rw [hv9] at hp; clear hv9
        refine lv_if_eq (tgt := 124) hx hb dX5_page_117 (by decide) (fun c_117 => ?_) (fun c_117 => ?_)
        · refine lv_iconst (v := 0) hx hb dX5_page_124 (by decide) ?_
          exact hh_zret C0 hp dX5_page_125 (Or.inl rfl) ⟨(by show (_, _) = _; unfold hf_X5_page; rw [hh_let_eq ex_4, if_neg c_7, hh_let_eq eq_50, hh_let_eq ev_54, hh_let_eq eq_60, if_pos c_63, hh_let_eq eq_80, hh_let_eq eq_90, hh_let_eq ev_95, hh_let_eq eq_103, if_pos c_106, hh_let_eq eq_114, if_pos c_117]), hTv_95, (by first | exact Or.inl rfl | exact Or.inr (by assumption) | exact Or.inr (hpq_60a.resolve_left c_63) | exact Or.inr (hpq_103a.resolve_left c_106) | exact Or.inr (hpq_114a.resolve_left c_117)), (by intro a b h9; simp only [ev_95, ev_54, hh_upj h9])⟩
        · refine lv_iconst (v := 1) hx hb dX5_page_120 (by decide) ?_
          refine lv_goto (tgt := 125) hx hb dX5_page_121 (by decide) ?_
          exact hh_zret C0 hp dX5_page_125 (Or.inr rfl) ⟨(by show (_, _) = _; unfold hf_X5_page; rw [hh_let_eq ex_4, if_neg c_7, hh_let_eq eq_50, hh_let_eq ev_54, hh_let_eq eq_60, if_pos c_63, hh_let_eq eq_80, hh_let_eq eq_90, hh_let_eq ev_95, hh_let_eq eq_103, if_pos c_106, hh_let_eq eq_114, if_neg c_117]), hTv_95, (by first | exact Or.inl rfl | exact Or.inr (by assumption) | exact Or.inr (hpq_60a.resolve_left c_63) | exact Or.inr (hpq_103a.resolve_left c_106) | exact Or.inr (hpq_114a.resolve_left c_117)), (by intro a b h9; simp only [ev_95, ev_54, hh_upj h9])⟩
    · refine lv_iconst (v := 1) hx hb dX5_page_66 (by decide) ?_
      exact hh_zret C0 hp dX5_page_67 (Or.inr rfl) ⟨(by show (_, _) = _; unfold hf_X5_page; rw [hh_let_eq ex_4, if_neg c_7, hh_let_eq eq_50, hh_let_eq ev_54, hh_let_eq eq_60, if_neg c_63]), hTv_54, (by first | exact Or.inl rfl | exact Or.inr (by assumption) | exact Or.inr (hpq_60a.resolve_left c_63) | exact Or.inr (hpq_103a.resolve_left c_106) | exact Or.inr (hpq_114a.resolve_left c_117)), (by intro a b h9; simp only [ev_54, hh_upj h9])⟩
  · refine lv_aload_n hx hb dX5_page_10 rfl (lv_at hl 1 rfl) ?_
    refine lv_dup hx hb dX5_page_11 rfl ?_
    refine hh_get C0 hp (C := RX5) (T := TX5) (N := 10) (ci := 5) (hh_b_r hr) (hh_E_r r) rfl hh_uX5 9 (by decide) hm_115 rfl rfl dX5_page_12 ?_
    refine lv_aload_n hx hb dX5_page_15 rfl (lv_at hl 1 rfl) ?_
    refine hh_get C0 hp (C := RX5) (T := TX5) (N := 10) (ci := 5) (hh_b_r hr) (hh_E_r r) rfl hh_uX5 0 (by decide) hm_97 rfl rfl dX5_page_16 ?_
    refine hh_cVi C0 hp (As := []) (rest := [.int (v (hh_rI r) 9), .ref (ad (hh_rI r))]) (C := RX4) (T := TX4) (N := 3) (ci := 4) (n := 0) (hk_X4_awake l D K ad hT ) rfl (by decide) hh_E_1 (hh_gV hm_141 hm_142 hm_143 hm_83 hm_94) ⟨rfl, rfl⟩ (by decide +kernel) ⟨Nat.le_of_ble_eq_true rfl, Nat.le_of_ble_eq_true rfl⟩ ⟨Nat.zero_le _, Nat.zero_le _⟩ hl.1 rfl rfl (Nat.le_of_ble_eq_true rfl) dX5_page_19 (fun q_19 v_19 H locs hv_19 hp => ?_)
    obtain ⟨eq_19, hv9⟩ := hv_19
    rw [hv9] at hp; clear hv9
    refine lv_iadd hx hb dX5_page_22 ?_
    refine hh_put C0 hp (C := RX5) (T := TX5) (N := 10) (ci := 5) (k := 9) (ty := .int) (hh_b_r hr) (hh_E_r r) (hh_pr9 r) rfl hh_uX5 tyX5_ok nmX5 (by decide) hm_115 rfl rfl (by decide +kernel) rfl rfl (Nat.le_of_ble_eq_true rfl) dX5_page_23 (fun H locs hp => ?_)
    obtain ⟨v_23, ev_23⟩ : ∃ z : hh_M, z = hh_up v (hh_rI r) 9 ((v (hh_rI r) 9) + q_19) := ⟨_, rfl⟩
    rw [← ev_23] at hp
    have hTv_23 : hh_T nm nh nc v_23 := by rw [ev_23]; exact hh_T_up hT (hh_Rt_r hr (by decide))
    refine lv_aload_n hx hb dX5_page_26 rfl (lv_at hl 2 rfl) ?_
    refine hh_get C0 hp (C := RX1) (T := TX1) (N := 13) (ci := 1) (hh_b_h hr hi) (hh_E_h r hi) rfl hh_uX1 5 (by decide) hm_140 rfl rfl dX5_page_27 ?_
    refine lv_iconst (v := (-1)) hx hb dX5_page_30 (by decide) ?_
    refine lv_icmp_eq (tgt := 38) hx hb dX5_page_31 (by decide) (fun c_31 => ?_) (fun c_31 => ?_)
    · refine lv_iconst (v := 0) hx hb dX5_page_38 (by decide) ?_
      exact hh_zret C0 hp dX5_page_39 (Or.inl rfl) ⟨(by show (_, _) = _; unfold hf_X5_page; rw [hh_let_eq ex_4, if_pos c_7, hh_let_eq eq_19, hh_let_eq ev_23, if_pos c_31]), hTv_23, (by first | exact Or.inl rfl | exact Or.inr (by assumption) | exact Or.inr (hpq_60a.resolve_left c_63) | exact Or.inr (hpq_103a.resolve_left c_106) | exact Or.inr (hpq_114a.resolve_left c_117)), (by intro a b h9; simp only [ev_23, hh_upj h9])⟩
    · refine lv_iconst (v := 1) hx hb dX5_page_34 (by decide) ?_
      refine lv_goto (tgt := 39) hx hb dX5_page_35 (by decide) ?_
      exact hh_zret C0 hp dX5_page_39 (Or.inr rfl) ⟨(by show (_, _) = _; unfold hf_X5_page; rw [hh_let_eq ex_4, if_pos c_7, hh_let_eq eq_19, hh_let_eq ev_23, if_neg c_31]), hTv_23, (by first | exact Or.inl rfl | exact Or.inr (by assumption) | exact Or.inr (hpq_60a.resolve_left c_63) | exact Or.inr (hpq_103a.resolve_left c_106) | exact Or.inr (hpq_114a.resolve_left c_117)), (by intro a b h9; simp only [ev_23, hh_upj h9])⟩
def hf_X5_isMuchBetter (v : hh_M) (r : Nat) (candidate : Int32) (own_ : Int32) (place : Int32) : Int32 := (if candidate = (-1) then 0 else (hh_let (hf_X5_qualityAt v r candidate place : Int32) (fun (q_8 : Int32) => (hh_let (hf_X5_qualityAt v r own_ place : Int32) (fun (q_14 : Int32) => (if (q_8 - q_14) < 4 then 0 else 1))))))
set_option maxHeartbeats 4000000 in
set_option maxRecDepth 100000 in
theorem hk_X5_isMuchBetter (l : Launch) (D : va_G) (K : Nat → ClassId) (ad : Nat → Nat) {nm : Nat} {nh nc : Nat → Nat} {v : hh_M} (hT : hh_T nm nh nc v) (r : Nat) (candidate : Int32) (own_ : Int32) (place : Int32) (hr : r < 2) (h0 : -1 ≤ candidate ∧ candidate < nI nm) (h1 : vp_in own_ 6) (h2 : vp_in place 100) : hh_Ki l D K ad yX5_isMuchBetter (hh_wm yX5_isMuchBetter cX5_isMuchBetter 4 (some .boolean)) { frames := 1, cells := 0, slots := 0, locals := 22 } [.ref (ad (hh_rI r)), .int candidate, .int own_, .int place] v (fun (q : Int32) (v1 : hh_M) => q = hf_X5_isMuchBetter v r candidate own_ place ∧ v1 = v) := by
  refine hh_Ki_of (by decide) (Nat.le_of_ble_eq_true rfl) ?_
  intro p e s m args below meth c ls A C0 hp hl
  obtain ⟨hx, hb, hr9, hml, hown, hts, hK, hlk, hA⟩ := id C0
  have hnm := hT.1
  have hnh := hT.2.1
  have hnc := hT.2.2.1
  have hbHr := hnh r
  have hbCr := hnc r
  have hl : lv_has ls 4 [(0, .ref (ad (hh_rI r))), (1, .int candidate), (2, .int own_), (3, .int place)] := hl
  refine lv_iload_n hx hb dX5_isMuchBetter_0 rfl (lv_at hl 1 rfl) ?_
  refine lv_iconst (v := (-1)) hx hb dX5_isMuchBetter_1 (by decide) ?_
  refine lv_icmp_eq (tgt := 26) hx hb dX5_isMuchBetter_2 (by decide) (fun c_2 => ?_) (fun c_2 => ?_)
  · refine lv_iconst (v := 0) hx hb dX5_isMuchBetter_26 (by decide) ?_
    exact hh_zret C0 hp dX5_isMuchBetter_27 (Or.inl rfl) ⟨(by unfold hf_X5_isMuchBetter; rw [if_pos c_2]), rfl⟩
  · refine lv_aload_n hx hb dX5_isMuchBetter_5 rfl (lv_at hl 0 rfl) ?_
    refine lv_iload_n hx hb dX5_isMuchBetter_6 rfl (lv_at hl 1 rfl) ?_
    refine lv_iload_n hx hb dX5_isMuchBetter_7 rfl (lv_at hl 3 rfl) ?_
    refine hh_cVi C0 hp (As := [.int candidate, .int place]) (rest := []) (C := RX5) (T := TX5) (N := 10) (ci := 5) (n := 2) (hk_X5_qualityAt l D K ad hT r candidate place hr (hh_in h0 (by assumption) (by omega) (by decide)) (by assumption)) rfl (hh_b_r hr) (hh_E_r r) (hh_gV hm_125 hm_126 hm_127 hm_128 hm_122) ⟨rfl, rfl⟩ (by decide +kernel) ⟨Nat.le_of_ble_eq_true rfl, Nat.le_of_ble_eq_true rfl⟩ ⟨Nat.zero_le _, Nat.zero_le _⟩ hl.1 rfl rfl (Nat.le_of_ble_eq_true rfl) dX5_isMuchBetter_8 (fun q_8 v_8 H locs hv_8 hp => ?_)
    obtain ⟨eq_8, hv9⟩ := hv_8
    rw [hv9] at hp; clear hv9
    refine lv_aload_n hx hb dX5_isMuchBetter_11 rfl (lv_at hl 0 rfl) ?_
    refine lv_iload_n hx hb dX5_isMuchBetter_12 rfl (lv_at hl 2 rfl) ?_
    refine lv_iload_n hx hb dX5_isMuchBetter_13 rfl (lv_at hl 3 rfl) ?_
    refine hh_cVi C0 hp (As := [.int own_, .int place]) (rest := [.int q_8]) (C := RX5) (T := TX5) (N := 10) (ci := 5) (n := 2) (hk_X5_qualityAt l D K ad hT r own_ place hr (by assumption) (by assumption)) rfl (hh_b_r hr) (hh_E_r r) (hh_gV hm_125 hm_126 hm_127 hm_128 hm_122) ⟨rfl, rfl⟩ (by decide +kernel) ⟨Nat.le_of_ble_eq_true rfl, Nat.le_of_ble_eq_true rfl⟩ ⟨Nat.zero_le _, Nat.zero_le _⟩ hl.1 rfl rfl (Nat.le_of_ble_eq_true rfl) dX5_isMuchBetter_14 (fun q_14 v_14 H locs hv_14 hp => ?_)
    obtain ⟨eq_14, hv9⟩ := hv_14
    rw [hv9] at hp; clear hv9
    refine lv_isub hx hb dX5_isMuchBetter_17 ?_
    refine lv_iconst (v := 4) hx hb dX5_isMuchBetter_18 (by decide) ?_
    refine lv_icmp_lt (tgt := 26) hx hb dX5_isMuchBetter_19 (by decide) (fun c_19 => ?_) (fun c_19 => ?_)
    · refine lv_iconst (v := 0) hx hb dX5_isMuchBetter_26 (by decide) ?_
      exact hh_zret C0 hp dX5_isMuchBetter_27 (Or.inl rfl) ⟨(by unfold hf_X5_isMuchBetter; rw [if_neg c_2, hh_let_eq eq_8, hh_let_eq eq_14, if_pos c_19]), rfl⟩
    · refine lv_iconst (v := 1) hx hb dX5_isMuchBetter_22 (by decide) ?_
      refine lv_goto (tgt := 27) hx hb dX5_isMuchBetter_23 (by decide) ?_
      exact hh_zret C0 hp dX5_isMuchBetter_27 (Or.inr rfl) ⟨(by unfold hf_X5_isMuchBetter; rw [if_neg c_2, hh_let_eq eq_8, hh_let_eq eq_14, if_neg c_19]), rfl⟩
def hl_X5_candidateFor_10 (v : hh_M) (r : Nat) (own_ : Int32) (place : Int32) (i : Nat) (a10_3 : Int32) (a10_4 : Int32) : Int32 × Int32 := (if (nI i) = own_ then (a10_3, a10_4) else (if (v (hh_mI i) 6) = 0 then (a10_3, a10_4) else (hh_let (hf_X5_hasFreeChannels v r (nI i) 1 : Int32) (fun (q_48 : Int32) => (if q_48 = 0 then (a10_3, a10_4) else (hh_let (hf_X5_qualityAt v r (nI i) place : Int32) (fun (q_61 : Int32) => (if q_61 ≤ a10_4 then (a10_3, a10_4) else ((nI i), q_61)))))))))
def hf_X5_candidateFor (v : hh_M) (r : Nat) (own_ : Int32) (place : Int32) : Int32 := (hh_let ((hh_fld (fun (i9 : Nat) (z : Int32 × Int32) => hl_X5_candidateFor_10 v r own_ place i9 z.1 z.2) ((v 1 2).toNatClampNeg) ((-1), (-1000))).1 : Int32) (fun (a10_3 : Int32) => (hh_let ((hh_fld (fun (i9 : Nat) (z : Int32 × Int32) => hl_X5_candidateFor_10 v r own_ place i9 z.1 z.2) ((v 1 2).toNatClampNeg) ((-1), (-1000))).2 : Int32) (fun (a10_4 : Int32) => a10_3))))
set_option maxHeartbeats 4000000 in
set_option maxRecDepth 100000 in
theorem hk_X5_candidateFor (l : Launch) (D : va_G) (K : Nat → ClassId) (ad : Nat → Nat) {nm : Nat} {nh nc : Nat → Nat} {v : hh_M} (hT : hh_T nm nh nc v) (r : Nat) (own_ : Int32) (place : Int32) (hr : r < 2) (h2 : vp_in place 100) : hh_Ki l D K ad yX5_candidateFor (hh_wm yX5_candidateFor cX5_candidateFor 7 (some .int)) { frames := 1, cells := 0, slots := 0, locals := 22 } [.ref (ad (hh_rI r)), .int own_, .int place] v (fun (q : Int32) (v1 : hh_M) => q = hf_X5_candidateFor v r own_ place ∧ v1 = v ∧ (-1 ≤ q ∧ q < nI nm)) := by
  refine hh_Ki_of (by decide) (Nat.le_of_ble_eq_true rfl) ?_
  intro p e s m args below meth c ls A C0 hp hl
  obtain ⟨hx, hb, hr9, hml, hown, hts, hK, hlk, hA⟩ := id C0
  have hnm := hT.1
  have hnh := hT.2.1
  have hnc := hT.2.2.1
  have hbHr := hnh r
  have hbCr := hnc r
  have hl : lv_has ls 7 [(0, .ref (ad (hh_rI r))), (1, .int own_), (2, .int place)] := hl
  refine lv_iconst (v := (-1)) hx hb dX5_candidateFor_0 (by decide) ?_
  refine lv_istore_n (lv' := [(3, .int (-1)), (0, .ref (ad (hh_rI r))), (1, .int own_), (2, .int place)]) hx hb dX5_candidateFor_1 rfl hl (by decide) rfl (fun ls hl => ?_)
  refine lv_sipush (v := (-1000)) hx hb dX5_candidateFor_2 (by decide) ?_
  refine lv_istore (lv' := [(4, .int (-1000)), (3, .int (-1)), (0, .ref (ad (hh_rI r))), (1, .int own_), (2, .int place)]) hx hb dX5_candidateFor_5 hl (by decide) rfl (fun ls hl => ?_)
  refine lv_iconst (v := 0) hx hb dX5_candidateFor_7 (by decide) ?_
  refine lv_istore (lv' := [(5, .int 0), (4, .int (-1000)), (3, .int (-1)), (0, .ref (ad (hh_rI r))), (1, .int own_), (2, .int place)]) hx hb dX5_candidateFor_8 hl (by decide) rfl (fun ls hl => ?_)
  have hL_10 : ∀ (n i : Nat) (a10_3 : Int32) (a10_4 : Int32) (H : Heap) (locs : List Loc) (ls : Array Slot), i ≤ nm → nm - i < n → (a10_3, a10_4) = hh_fld (fun (i9 : Nat) (z : Int32 × Int32) => hl_X5_candidateFor_10 v r own_ place i9 z.1 z.2) i ((-1), (-1000)) → hh_H D K ad A s.heap v H locs → lv_has ls 7 [(5, .int (nI i)), (4, .int a10_4), (3, .int a10_3), (0, .ref (ad (hh_rI r))), (1, .int own_), (2, .int place)] → -1 ≤ a10_3 ∧ a10_3 < nI nm → W p l e ({ frames := 1, cells := 0, slots := 0, locals := 22 } : Room) s m args below meth c H locs 0 0 (MQ below (va_Qi (fun (q : Int32) (v1 : hh_M) => q = hf_X5_candidateFor v r own_ place ∧ v1 = v ∧ (-1 ≤ q ∧ q < nI nm)) (hh_B D K ad A) A) args s 0 0 A) (F0 m 10 ls []) := by
    intro n
    induction n with
    | zero => intro i a10_3 a10_4 H locs ls h1 h2; omega
    | succ n ih =>
      intro i a10_3 a10_4 H locs ls hii hni hsL_10 hp hl hf1
      refine lv_iload hx hb dX5_candidateFor_10 (lv_at hl 0 rfl) ?_
      refine lv_aload_n hx hb dX5_candidateFor_12 rfl (lv_at hl 3 rfl) ?_
      refine hh_get C0 hp (C := RX5) (T := TX5) (N := 10) (ci := 5) (hh_b_r hr) (hh_E_r r) rfl hh_uX5 0 (by decide) hm_97 rfl rfl dX5_candidateFor_13 ?_
      refine hh_get C0 hp (C := RX4) (T := TX4) (N := 3) (ci := 4) (by decide) hh_E_1 rfl hh_uX4 2 (by decide) hm_130 rfl rfl dX5_candidateFor_16 ?_
      refine lv_icmp_ge (tgt := 86) hx hb dX5_candidateFor_19 (by decide) (fun c_19 => ?_) (fun c_19 => ?_)
      · have hbc_19 : (v 1 2) = nI nm := hh_T_M hT
        rw [hbc_19] at c_19
        have hc_19 := (nI_leI (a := nm) (b := i) (by omega) (by omega))
        have hltc_19 : nm ≤ i := by exact hc_19.mp c_19
        have hNL_10 : i = nm := by omega
        rw [hNL_10] at hsL_10
        have hsL_10 : (a10_3, a10_4) = hh_fld (fun (i9 : Nat) (z : Int32 × Int32) => hl_X5_candidateFor_10 v r own_ place i9 z.1 z.2) ((v 1 2).toNatClampNeg) ((-1), (-1000)) := by rw [hsL_10, show (v 1 2).toNatClampNeg = nm from by rw [hh_T_M hT]; exact nI_clamp (by omega)]
        have ea10_3 : a10_3 = (hh_fld (fun (i9 : Nat) (z : Int32 × Int32) => hl_X5_candidateFor_10 v r own_ place i9 z.1 z.2) ((v 1 2).toNatClampNeg) ((-1), (-1000))).1 := congrArg (fun z => z.1) hsL_10
        have ea10_4 : a10_4 = (hh_fld (fun (i9 : Nat) (z : Int32 × Int32) => hl_X5_candidateFor_10 v r own_ place i9 z.1 z.2) ((v 1 2).toNatClampNeg) ((-1), (-1000))).2 := congrArg (fun z => z.2) hsL_10
        clear ih hsL_10
        refine lv_iload_n hx hb dX5_candidateFor_86 rfl (lv_at hl 2 rfl) ?_
        exact hh_iret C0 hp dX5_candidateFor_87 ⟨(by unfold hf_X5_candidateFor; rw [hh_let_eq ea10_3, hh_let_eq ea10_4]), rfl, (by assumption)⟩
      · have hbc_19 : (v 1 2) = nI nm := hh_T_M hT
        rw [hbc_19] at c_19
        have hc_19 := (nI_leI (a := nm) (b := i) (by omega) (by omega))
        have hltc_19 : i < nm := by exact Nat.not_le.mp (fun z => c_19 (hc_19.mpr z))
        refine lv_iload hx hb dX5_candidateFor_22 (lv_at hl 0 rfl) ?_
        refine lv_iload_n hx hb dX5_candidateFor_24 rfl (lv_at hl 4 rfl) ?_
        refine lv_icmp_eq (tgt := 80) hx hb dX5_candidateFor_25 (by decide) (fun c_25 => ?_) (fun c_25 => ?_)
        · refine lv_iinc (v := (nI (i + 1))) (lv' := [(5, .int (nI (i + 1))), (4, .int a10_4), (3, .int a10_3), (0, .ref (ad (hh_rI r))), (1, .int own_), (2, .int place)]) hx hb dX5_candidateFor_80 hl (k := 0) rfl (nI_1 i) (by decide) rfl (fun ls hl => ?_)
          refine lv_goto (tgt := 10) hx hb dX5_candidateFor_83 (by decide) ?_
          exact ih (i + 1) a10_3 a10_4 _ _ _ (by omega) (by omega) (by rw [hh_fld, ← hsL_10]; show _ = hl_X5_candidateFor_10 v r own_ place i a10_3 a10_4; unfold hl_X5_candidateFor_10; rw [if_pos c_25]) hp (lv_sub hl [0, 1, 2, 3, 4, 5] rfl) (by first | assumption | exact hh_rg (by omega) (by omega))
        · refine lv_aload_n hx hb dX5_candidateFor_28 rfl (lv_at hl 3 rfl) ?_
          refine hh_get C0 hp (C := RX5) (T := TX5) (N := 10) (ci := 5) (hh_b_r hr) (hh_E_r r) rfl hh_uX5 0 (by decide) hm_97 rfl rfl dX5_candidateFor_29 ?_
          refine hh_get C0 hp (C := RX4) (T := TX4) (N := 3) (ci := 4) (by decide) hh_E_1 rfl hh_uX4 0 (by decide) hm_136 rfl rfl dX5_candidateFor_32 ?_
          refine lv_iload hx hb dX5_candidateFor_35 (lv_at hl 0 rfl) ?_
          refine hh_aal C0 hp (t0 := 2) (f := hh_mI) (by decide) hh_E_2 rfl rfl (vp_in_nI (by omega) (by decide)) (nI_clamp (by omega)) dX5_candidateFor_37 ?_
          refine hh_get C0 hp (C := RX3) (T := TX3) (N := 7) (ci := 3) (hh_b_m (by omega : i < 6)) (hh_E_m (by omega : i < 6)) rfl hh_uX3 6 (by decide) hm_197 rfl rfl dX5_candidateFor_38 ?_
          refine lv_if_eq (tgt := 80) hx hb dX5_candidateFor_41 (by decide) (fun c_41 => ?_) (fun c_41 => ?_)
          · refine lv_iinc (v := (nI (i + 1))) (lv' := [(5, .int (nI (i + 1))), (4, .int a10_4), (3, .int a10_3), (0, .ref (ad (hh_rI r))), (1, .int own_), (2, .int place)]) hx hb dX5_candidateFor_80 hl (k := 0) rfl (nI_1 i) (by decide) rfl (fun ls hl => ?_)
            refine lv_goto (tgt := 10) hx hb dX5_candidateFor_83 (by decide) ?_
            exact ih (i + 1) a10_3 a10_4 _ _ _ (by omega) (by omega) (by rw [hh_fld, ← hsL_10]; show _ = hl_X5_candidateFor_10 v r own_ place i a10_3 a10_4; unfold hl_X5_candidateFor_10; rw [if_neg c_25, if_pos c_41]) hp (lv_sub hl [0, 1, 2, 3, 4, 5] rfl) (by first | assumption | exact hh_rg (by omega) (by omega))
          · refine lv_aload_n hx hb dX5_candidateFor_44 rfl (lv_at hl 3 rfl) ?_
            refine lv_iload hx hb dX5_candidateFor_45 (lv_at hl 0 rfl) ?_
            refine lv_iconst (v := 1) hx hb dX5_candidateFor_47 (by decide) ?_
            refine hh_cVi C0 hp (As := [.int (nI i), .int 1]) (rest := []) (C := RX5) (T := TX5) (N := 10) (ci := 5) (n := 2) (hk_X5_hasFreeChannels l D K ad hT r (nI i) 1 hr (vp_in_nI (by omega) (by decide))) rfl (hh_b_r hr) (hh_E_r r) (hh_gV hm_198 hm_199 hm_200 hm_128 hm_135) ⟨rfl, rfl⟩ (by decide +kernel) ⟨Nat.le_of_ble_eq_true rfl, Nat.le_of_ble_eq_true rfl⟩ ⟨Nat.zero_le _, Nat.zero_le _⟩ hl.1 rfl rfl (Nat.le_of_ble_eq_true rfl) dX5_candidateFor_48 (fun q_48 v_48 H locs hv_48 hp => ?_)
            obtain ⟨eq_48, hv9⟩ := hv_48
            rw [hv9] at hp; clear hv9
            refine lv_if_ne (tgt := 57) hx hb dX5_candidateFor_51 (by decide) (fun c_51 => ?_) (fun c_51 => ?_)
            · refine lv_aload_n hx hb dX5_candidateFor_57 rfl (lv_at hl 3 rfl) ?_
              refine lv_iload hx hb dX5_candidateFor_58 (lv_at hl 0 rfl) ?_
              refine lv_iload_n hx hb dX5_candidateFor_60 rfl (lv_at hl 5 rfl) ?_
              refine hh_cVi C0 hp (As := [.int (nI i), .int place]) (rest := []) (C := RX5) (T := TX5) (N := 10) (ci := 5) (n := 2) (hk_X5_qualityAt l D K ad hT r (nI i) place hr (vp_in_nI (by omega) (by decide)) (by assumption)) rfl (hh_b_r hr) (hh_E_r r) (hh_gV hm_125 hm_126 hm_127 hm_128 hm_122) ⟨rfl, rfl⟩ (by decide +kernel) ⟨Nat.le_of_ble_eq_true rfl, Nat.le_of_ble_eq_true rfl⟩ ⟨Nat.zero_le _, Nat.zero_le _⟩ hl.1 rfl rfl (Nat.le_of_ble_eq_true rfl) dX5_candidateFor_61 (fun q_61 v_61 H locs hv_61 hp => ?_)
              obtain ⟨eq_61, hv9⟩ := hv_61
              rw [hv9] at hp; clear hv9
              refine lv_istore (lv' := [(6, .int q_61), (5, .int (nI i)), (4, .int a10_4), (3, .int a10_3), (0, .ref (ad (hh_rI r))), (1, .int own_), (2, .int place)]) hx hb dX5_candidateFor_64 hl (by decide) rfl (fun ls hl => ?_)
              refine lv_iload hx hb dX5_candidateFor_66 (lv_at hl 0 rfl) ?_
              refine lv_iload hx hb dX5_candidateFor_68 (lv_at hl 2 rfl) ?_
              refine lv_icmp_le (tgt := 80) hx hb dX5_candidateFor_70 (by decide) (fun c_70 => ?_) (fun c_70 => ?_)
              · refine lv_iinc (v := (nI (i + 1))) (lv' := [(5, .int (nI (i + 1))), (6, .int q_61), (4, .int a10_4), (3, .int a10_3), (0, .ref (ad (hh_rI r))), (1, .int own_), (2, .int place)]) hx hb dX5_candidateFor_80 hl (k := 1) rfl (nI_1 i) (by decide) rfl (fun ls hl => ?_)
                refine lv_goto (tgt := 10) hx hb dX5_candidateFor_83 (by decide) ?_
                exact ih (i + 1) a10_3 a10_4 _ _ _ (by omega) (by omega) (by rw [hh_fld, ← hsL_10]; show _ = hl_X5_candidateFor_10 v r own_ place i a10_3 a10_4; unfold hl_X5_candidateFor_10; rw [if_neg c_25, if_neg c_41, hh_let_eq eq_48, if_neg c_51, hh_let_eq eq_61, if_pos c_70]) hp (lv_sub hl [0, 2, 3, 4, 5, 6] rfl) (by first | assumption | exact hh_rg (by omega) (by omega))
              · refine lv_iload hx hb dX5_candidateFor_73 (lv_at hl 1 rfl) ?_
                refine lv_istore_n (lv' := [(3, .int (nI i)), (6, .int q_61), (5, .int (nI i)), (4, .int a10_4), (0, .ref (ad (hh_rI r))), (1, .int own_), (2, .int place)]) hx hb dX5_candidateFor_75 rfl hl (by decide) rfl (fun ls hl => ?_)
                refine lv_iload hx hb dX5_candidateFor_76 (lv_at hl 1 rfl) ?_
                refine lv_istore (lv' := [(4, .int q_61), (3, .int (nI i)), (6, .int q_61), (5, .int (nI i)), (0, .ref (ad (hh_rI r))), (1, .int own_), (2, .int place)]) hx hb dX5_candidateFor_78 hl (by decide) rfl (fun ls hl => ?_)
                refine lv_iinc (v := (nI (i + 1))) (lv' := [(5, .int (nI (i + 1))), (4, .int q_61), (3, .int (nI i)), (6, .int q_61), (0, .ref (ad (hh_rI r))), (1, .int own_), (2, .int place)]) hx hb dX5_candidateFor_80 hl (k := 3) rfl (nI_1 i) (by decide) rfl (fun ls hl => ?_)
                refine lv_goto (tgt := 10) hx hb dX5_candidateFor_83 (by decide) ?_
                exact ih (i + 1) (nI i) q_61 _ _ _ (by omega) (by omega) (by rw [hh_fld, ← hsL_10]; show _ = hl_X5_candidateFor_10 v r own_ place i a10_3 a10_4; unfold hl_X5_candidateFor_10; rw [if_neg c_25, if_neg c_41, hh_let_eq eq_48, if_neg c_51, hh_let_eq eq_61, if_neg c_70]) hp (lv_sub hl [0, 1, 2, 4, 5, 6] rfl) (by first | assumption | exact hh_rg (by omega) (by omega))
            · refine lv_goto (tgt := 80) hx hb dX5_candidateFor_54 (by decide) ?_
              refine lv_iinc (v := (nI (i + 1))) (lv' := [(5, .int (nI (i + 1))), (4, .int a10_4), (3, .int a10_3), (0, .ref (ad (hh_rI r))), (1, .int own_), (2, .int place)]) hx hb dX5_candidateFor_80 hl (k := 0) rfl (nI_1 i) (by decide) rfl (fun ls hl => ?_)
              refine lv_goto (tgt := 10) hx hb dX5_candidateFor_83 (by decide) ?_
              exact ih (i + 1) a10_3 a10_4 _ _ _ (by omega) (by omega) (by rw [hh_fld, ← hsL_10]; show _ = hl_X5_candidateFor_10 v r own_ place i a10_3 a10_4; unfold hl_X5_candidateFor_10; rw [if_neg c_25, if_neg c_41, hh_let_eq eq_48, if_pos c_51]) hp (lv_sub hl [0, 1, 2, 3, 4, 5] rfl) (by first | assumption | exact hh_rg (by omega) (by omega))
  exact hL_10 (nm + 1) 0 (-1) (-1000) _ _ _ (Nat.zero_le _) (by omega) rfl hp (lv_sub hl [0, 1, 2, 3, 4, 5] rfl) (by exact hh_rg0 (by omega))
def hf_X5_chooseMast (v : hh_M) (r : Nat) (i : Nat) : hh_M := (hh_let (hf_X5_bestHeardAt v r (v (hh_hI r i) 1) : Int32) (fun (q_5 : Int32) => (if q_5 = (-1) then (hh_let (hh_up v (hh_hI r i) 5 q_5 : hh_M) (fun (v_24 : hh_M) => v_24)) else (if (v (hh_hI r i) 5) = (-1) then (hh_let (hh_up v (hh_hI r i) 5 q_5 : hh_M) (fun (v_24 : hh_M) => v_24)) else (hh_let (hf_X5_qualityAt v r (v (hh_hI r i) 5) (v (hh_hI r i) 1) : Int32) (fun (q_37 : Int32) => (if q_37 < 1 then (hh_let (hh_up v (hh_hI r i) 5 q_5 : hh_M) (fun (v_75 : hh_M) => v_75)) else (hh_let (hf_X5_qualityAt v r q_5 (v (hh_hI r i) 1) : Int32) (fun (q_52 : Int32) => (if 3 ≤ (q_52 - q_37) then (hh_let (hh_up v (hh_hI r i) 5 q_5 : hh_M) (fun (v_75 : hh_M) => v_75)) else v))))))))))
set_option maxHeartbeats 4000000 in
set_option maxRecDepth 100000 in
theorem hk_X5_chooseMast (l : Launch) (D : va_G) (K : Nat → ClassId) (ad : Nat → Nat) {nm : Nat} {nh nc : Nat → Nat} {v : hh_M} (hT : hh_T nm nh nc v) (r : Nat) (i : Nat) (hr : r < 2) (hi : i < 8) : hh_Kv l D K ad yX5_chooseMast (hh_wm yX5_chooseMast cX5_chooseMast 5 none) { frames := 2, cells := 0, slots := 0, locals := 47 } [.ref (ad (hh_rI r)), .ref (ad (hh_hI r i))] v (fun (v1 : hh_M) => v1 = hf_X5_chooseMast v r i ∧ (hh_T nm nh nc v1) ∧ hh_F (fun j k => j = hh_hI r i ∧ k < 13) v v1) := by
  refine hh_Kv_of (by decide) (Nat.le_of_ble_eq_true rfl) ?_
  intro p e s m args below meth c ls A C0 hp hl
  obtain ⟨hx, hb, hr9, hml, hown, hts, hK, hlk, hA⟩ := id C0
  have hnm := hT.1
  have hnh := hT.2.1
  have hnc := hT.2.2.1
  have hbHr := hnh r
  have hbCr := hnc r
  have hl : lv_has ls 5 [(0, .ref (ad (hh_rI r))), (1, .ref (ad (hh_hI r i)))] := hl
  refine lv_aload_n hx hb dX5_chooseMast_0 rfl (lv_at hl 0 rfl) ?_
  refine lv_aload_n hx hb dX5_chooseMast_1 rfl (lv_at hl 1 rfl) ?_
  refine hh_get C0 hp (C := RX1) (T := TX1) (N := 13) (ci := 1) (hh_b_h hr hi) (hh_E_h r hi) rfl hh_uX1 1 (by decide) hm_171 rfl rfl dX5_chooseMast_2 ?_
  refine hh_cVi C0 hp (As := [.int (v (hh_hI r i) 1)]) (rest := []) (C := RX5) (T := TX5) (N := 10) (ci := 5) (n := 1) (hk_X5_bestHeardAt l D K ad hT r (v (hh_hI r i) 1) hr (hh_in99 (hh_T_h1 hT r hi))) rfl (hh_b_r hr) (hh_E_r r) (hh_gV hm_132 hm_133 hm_134 hm_128 hm_129) ⟨rfl, rfl⟩ (by decide +kernel) ⟨Nat.le_of_ble_eq_true rfl, Nat.le_of_ble_eq_true rfl⟩ ⟨Nat.zero_le _, Nat.zero_le _⟩ hl.1 rfl rfl (Nat.le_of_ble_eq_true rfl) dX5_chooseMast_5 (fun q_5 v_5 H locs hv_5 hp => ?_)
  obtain ⟨eq_5, hv9, hpq_5a⟩ := hv_5
  rw [hv9] at hp; clear hv9
  refine lv_istore_n (lv' := [(2, .int q_5), (0, .ref (ad (hh_rI r))), (1, .ref (ad (hh_hI r i)))]) hx hb dX5_chooseMast_8 rfl hl (by decide) rfl (fun ls hl => ?_)
  refine lv_iload_n hx hb dX5_chooseMast_9 rfl (lv_at hl 0 rfl) ?_
  refine lv_iconst (v := (-1)) hx hb dX5_chooseMast_10 (by decide) ?_
  refine lv_icmp_eq (tgt := 22) hx hb dX5_chooseMast_11 (by decide) (fun c_11 => ?_) (fun c_11 => ?_)
  · refine lv_aload_n hx hb dX5_chooseMast_22 rfl (lv_at hl 2 rfl) ?_
    refine lv_iload_n hx hb dX5_chooseMast_23 rfl (lv_at hl 0 rfl) ?_
    refine hh_put C0 hp (C := RX1) (T := TX1) (N := 13) (ci := 1) (k := 5) (ty := .int) (hh_b_h hr hi) (hh_E_h r hi) (hh_ph5 r hi) rfl hh_uX1 tyX1_ok nmX1 (by decide) hm_140 rfl rfl (by decide +kernel) rfl rfl (Nat.le_of_ble_eq_true rfl) dX5_chooseMast_24 (fun H locs hp => ?_)
    obtain ⟨v_24, ev_24⟩ : ∃ z : hh_M, z = hh_up v (hh_hI r i) 5 q_5 := ⟨_, rfl⟩
    rw [← ev_24] at hp
    have hTv_24 : hh_T nm nh nc v_24 := by rw [ev_24]; exact hh_T_up hT (hh_R_h5 hr hi (by assumption))
    have hFv_24 : hh_F (fun j k => j = hh_hI r i ∧ k < 13) v v_24 := by rw [ev_24]; exact hh_F_up hh_F_rf (by first | exact ⟨rfl, (by decide)⟩ | exact Or.inl ⟨rfl, by decide⟩ | exact Or.inr (Or.inl ⟨rfl, by decide⟩) | exact Or.inr (Or.inr ⟨rfl, by decide⟩))
    exact hh_vret C0 hp dX5_chooseMast_27 ⟨(by show _ = _; unfold hf_X5_chooseMast; rw [hh_let_eq eq_5, if_pos c_11, hh_let_eq ev_24]), hTv_24, hFv_24⟩
  · refine lv_aload_n hx hb dX5_chooseMast_14 rfl (lv_at hl 2 rfl) ?_
    refine hh_get C0 hp (C := RX1) (T := TX1) (N := 13) (ci := 1) (hh_b_h hr hi) (hh_E_h r hi) rfl hh_uX1 5 (by decide) hm_140 rfl rfl dX5_chooseMast_15 ?_
    refine lv_iconst (v := (-1)) hx hb dX5_chooseMast_18 (by decide) ?_
    refine lv_icmp_ne (tgt := 28) hx hb dX5_chooseMast_19 (by decide) (fun c_19 => ?_) (fun c_19 => ?_)
    · refine lv_aload_n hx hb dX5_chooseMast_28 rfl (lv_at hl 1 rfl) ?_
      refine lv_aload_n hx hb dX5_chooseMast_29 rfl (lv_at hl 2 rfl) ?_
      refine hh_get C0 hp (C := RX1) (T := TX1) (N := 13) (ci := 1) (hh_b_h hr hi) (hh_E_h r hi) rfl hh_uX1 5 (by decide) hm_140 rfl rfl dX5_chooseMast_30 ?_
      refine lv_aload_n hx hb dX5_chooseMast_33 rfl (lv_at hl 2 rfl) ?_
      refine hh_get C0 hp (C := RX1) (T := TX1) (N := 13) (ci := 1) (hh_b_h hr hi) (hh_E_h r hi) rfl hh_uX1 1 (by decide) hm_171 rfl rfl dX5_chooseMast_34 ?_
      refine hh_cVi C0 hp (As := [.int (v (hh_hI r i) 5), .int (v (hh_hI r i) 1)]) (rest := []) (C := RX5) (T := TX5) (N := 10) (ci := 5) (n := 2) (hk_X5_qualityAt l D K ad hT r (v (hh_hI r i) 5) (v (hh_hI r i) 1) hr (hh_in (hh_T_h5 hT r hi) (by assumption) (by omega) (by decide)) (hh_in99 (hh_T_h1 hT r hi))) rfl (hh_b_r hr) (hh_E_r r) (hh_gV hm_125 hm_126 hm_127 hm_128 hm_122) ⟨rfl, rfl⟩ (by decide +kernel) ⟨Nat.le_of_ble_eq_true rfl, Nat.le_of_ble_eq_true rfl⟩ ⟨Nat.zero_le _, Nat.zero_le _⟩ hl.1 rfl rfl (Nat.le_of_ble_eq_true rfl) dX5_chooseMast_37 (fun q_37 v_37 H locs hv_37 hp => ?_)
      obtain ⟨eq_37, hv9⟩ := hv_37
      rw [hv9] at hp; clear hv9
      refine lv_istore_n (lv' := [(3, .int q_37), (2, .int q_5), (0, .ref (ad (hh_rI r))), (1, .ref (ad (hh_hI r i)))]) hx hb dX5_chooseMast_40 rfl hl (by decide) rfl (fun ls hl => ?_)
      refine lv_iload_n hx hb dX5_chooseMast_41 rfl (lv_at hl 0 rfl) ?_
      refine lv_iconst (v := 1) hx hb dX5_chooseMast_42 (by decide) ?_
      refine lv_icmp_lt (tgt := 65) hx hb dX5_chooseMast_43 (by decide) (fun c_43 => ?_) (fun c_43 => ?_)
      · refine lv_iconst (v := 0) hx hb dX5_chooseMast_65 (by decide) ?_
        refine lv_istore (lv' := [(4, .int 0), (3, .int q_37), (2, .int q_5), (0, .ref (ad (hh_rI r))), (1, .ref (ad (hh_hI r i)))]) hx hb dX5_chooseMast_66 hl (by decide) rfl (fun ls hl => ?_)
        refine lv_iload hx hb dX5_chooseMast_68 (lv_at hl 0 rfl) ?_
        refine lv_if_ne (tgt := 78) hx hb dX5_chooseMast_70 (by decide) (fun c_70 => ?_) (fun c_70 => ?_)
        · exact absurd c_70 (by decide)
        · refine lv_aload_n hx hb dX5_chooseMast_73 rfl (lv_at hl 4 rfl) ?_
          refine lv_iload_n hx hb dX5_chooseMast_74 rfl (lv_at hl 2 rfl) ?_
          refine hh_put C0 hp (C := RX1) (T := TX1) (N := 13) (ci := 1) (k := 5) (ty := .int) (hh_b_h hr hi) (hh_E_h r hi) (hh_ph5 r hi) rfl hh_uX1 tyX1_ok nmX1 (by decide) hm_140 rfl rfl (by decide +kernel) rfl rfl (Nat.le_of_ble_eq_true rfl) dX5_chooseMast_75 (fun H locs hp => ?_)
          obtain ⟨v_75, ev_75⟩ : ∃ z : hh_M, z = hh_up v (hh_hI r i) 5 q_5 := ⟨_, rfl⟩
          rw [← ev_75] at hp
          have hTv_75 : hh_T nm nh nc v_75 := by rw [ev_75]; exact hh_T_up hT (hh_R_h5 hr hi (by assumption))
          have hFv_75 : hh_F (fun j k => j = hh_hI r i ∧ k < 13) v v_75 := by rw [ev_75]; exact hh_F_up hh_F_rf (by first | exact ⟨rfl, (by decide)⟩ | exact Or.inl ⟨rfl, by decide⟩ | exact Or.inr (Or.inl ⟨rfl, by decide⟩) | exact Or.inr (Or.inr ⟨rfl, by decide⟩))
          exact hh_vret C0 hp dX5_chooseMast_78 ⟨(by show _ = _; unfold hf_X5_chooseMast; rw [hh_let_eq eq_5, if_neg c_11, if_neg c_19, hh_let_eq eq_37, if_pos c_43, hh_let_eq ev_75]), hTv_75, hFv_75⟩
      · refine lv_aload_n hx hb dX5_chooseMast_46 rfl (lv_at hl 2 rfl) ?_
        refine lv_iload_n hx hb dX5_chooseMast_47 rfl (lv_at hl 1 rfl) ?_
        refine lv_aload_n hx hb dX5_chooseMast_48 rfl (lv_at hl 3 rfl) ?_
        refine hh_get C0 hp (C := RX1) (T := TX1) (N := 13) (ci := 1) (hh_b_h hr hi) (hh_E_h r hi) rfl hh_uX1 1 (by decide) hm_171 rfl rfl dX5_chooseMast_49 ?_
        refine hh_cVi C0 hp (As := [.int q_5, .int (v (hh_hI r i) 1)]) (rest := []) (C := RX5) (T := TX5) (N := 10) (ci := 5) (n := 2) (hk_X5_qualityAt l D K ad hT r q_5 (v (hh_hI r i) 1) hr (hh_in hpq_5a (by assumption) (by omega) (by decide)) (hh_in99 (hh_T_h1 hT r hi))) rfl (hh_b_r hr) (hh_E_r r) (hh_gV hm_125 hm_126 hm_127 hm_128 hm_122) ⟨rfl, rfl⟩ (by decide +kernel) ⟨Nat.le_of_ble_eq_true rfl, Nat.le_of_ble_eq_true rfl⟩ ⟨Nat.zero_le _, Nat.zero_le _⟩ hl.1 rfl rfl (Nat.le_of_ble_eq_true rfl) dX5_chooseMast_52 (fun q_52 v_52 H locs hv_52 hp => ?_)
        obtain ⟨eq_52, hv9⟩ := hv_52
        rw [hv9] at hp; clear hv9
        refine lv_iload_n hx hb dX5_chooseMast_55 rfl (lv_at hl 0 rfl) ?_
        refine lv_isub hx hb dX5_chooseMast_56 ?_
        refine lv_iconst (v := 3) hx hb dX5_chooseMast_57 (by decide) ?_
        refine lv_icmp_ge (tgt := 65) hx hb dX5_chooseMast_58 (by decide) (fun c_58 => ?_) (fun c_58 => ?_)
        · refine lv_iconst (v := 0) hx hb dX5_chooseMast_65 (by decide) ?_
          refine lv_istore (lv' := [(4, .int 0), (3, .int q_37), (2, .int q_5), (0, .ref (ad (hh_rI r))), (1, .ref (ad (hh_hI r i)))]) hx hb dX5_chooseMast_66 hl (by decide) rfl (fun ls hl => ?_)
          refine lv_iload hx hb dX5_chooseMast_68 (lv_at hl 0 rfl) ?_
          refine lv_if_ne (tgt := 78) hx hb dX5_chooseMast_70 (by decide) (fun c_70 => ?_) (fun c_70 => ?_)
          · exact absurd c_70 (by decide)
          · refine lv_aload_n hx hb dX5_chooseMast_73 rfl (lv_at hl 4 rfl) ?_
            refine lv_iload_n hx hb dX5_chooseMast_74 rfl (lv_at hl 2 rfl) ?_
            refine hh_put C0 hp (C := RX1) (T := TX1) (N := 13) (ci := 1) (k := 5) (ty := .int) (hh_b_h hr hi) (hh_E_h r hi) (hh_ph5 r hi) rfl hh_uX1 tyX1_ok nmX1 (by decide) hm_140 rfl rfl (by decide +kernel) rfl rfl (Nat.le_of_ble_eq_true rfl) dX5_chooseMast_75 (fun H locs hp => ?_)
            obtain ⟨v_75, ev_75⟩ : ∃ z : hh_M, z = hh_up v (hh_hI r i) 5 q_5 := ⟨_, rfl⟩
            rw [← ev_75] at hp
            have hTv_75 : hh_T nm nh nc v_75 := by rw [ev_75]; exact hh_T_up hT (hh_R_h5 hr hi (by assumption))
            have hFv_75 : hh_F (fun j k => j = hh_hI r i ∧ k < 13) v v_75 := by rw [ev_75]; exact hh_F_up hh_F_rf (by first | exact ⟨rfl, (by decide)⟩ | exact Or.inl ⟨rfl, by decide⟩ | exact Or.inr (Or.inl ⟨rfl, by decide⟩) | exact Or.inr (Or.inr ⟨rfl, by decide⟩))
            exact hh_vret C0 hp dX5_chooseMast_78 ⟨(by show _ = _; unfold hf_X5_chooseMast; rw [hh_let_eq eq_5, if_neg c_11, if_neg c_19, hh_let_eq eq_37, if_neg c_43, hh_let_eq eq_52, if_pos c_58, hh_let_eq ev_75]), hTv_75, hFv_75⟩
        · refine lv_iconst (v := 1) hx hb dX5_chooseMast_61 (by decide) ?_
          refine lv_goto (tgt := 66) hx hb dX5_chooseMast_62 (by decide) ?_
          refine lv_istore (lv' := [(4, .int 1), (3, .int q_37), (2, .int q_5), (0, .ref (ad (hh_rI r))), (1, .ref (ad (hh_hI r i)))]) hx hb dX5_chooseMast_66 hl (by decide) rfl (fun ls hl => ?_)
          refine lv_iload hx hb dX5_chooseMast_68 (lv_at hl 0 rfl) ?_
          refine lv_if_ne (tgt := 78) hx hb dX5_chooseMast_70 (by decide) (fun c_70 => ?_) (fun c_70 => ?_)
          · exact hh_vret C0 hp dX5_chooseMast_78 ⟨(by show _ = _; unfold hf_X5_chooseMast; rw [hh_let_eq eq_5, if_neg c_11, if_neg c_19, hh_let_eq eq_37, if_neg c_43, hh_let_eq eq_52, if_neg c_58]), hT, hh_F_rf⟩
          · exact absurd c_70 (by decide)
    · refine lv_aload_n hx hb dX5_chooseMast_22 rfl (lv_at hl 2 rfl) ?_
      refine lv_iload_n hx hb dX5_chooseMast_23 rfl (lv_at hl 0 rfl) ?_
      refine hh_put C0 hp (C := RX1) (T := TX1) (N := 13) (ci := 1) (k := 5) (ty := .int) (hh_b_h hr hi) (hh_E_h r hi) (hh_ph5 r hi) rfl hh_uX1 tyX1_ok nmX1 (by decide) hm_140 rfl rfl (by decide +kernel) rfl rfl (Nat.le_of_ble_eq_true rfl) dX5_chooseMast_24 (fun H locs hp => ?_)
      obtain ⟨v_24, ev_24⟩ : ∃ z : hh_M, z = hh_up v (hh_hI r i) 5 q_5 := ⟨_, rfl⟩
      rw [← ev_24] at hp
      have hTv_24 : hh_T nm nh nc v_24 := by rw [ev_24]; exact hh_T_up hT (hh_R_h5 hr hi (by assumption))
      have hFv_24 : hh_F (fun j k => j = hh_hI r i ∧ k < 13) v v_24 := by rw [ev_24]; exact hh_F_up hh_F_rf (by first | exact ⟨rfl, (by decide)⟩ | exact Or.inl ⟨rfl, by decide⟩ | exact Or.inr (Or.inl ⟨rfl, by decide⟩) | exact Or.inr (Or.inr ⟨rfl, by decide⟩))
      exact hh_vret C0 hp dX5_chooseMast_27 ⟨(by show _ = _; unfold hf_X5_chooseMast; rw [hh_let_eq eq_5, if_neg c_11, if_pos c_19, hh_let_eq ev_24]), hTv_24, hFv_24⟩
def hf_X5_tellArea (v : hh_M) (r : Nat) (i : Nat) : hh_M := (if (v (hh_hI r i) 5) = (-1) then v else (hh_let ((v (hh_mI ((v (hh_hI r i) 5).toNatClampNeg)) 4) : Int32) (fun (x_24 : Int32) => (if x_24 = (v (hh_hI r i) 8) then (if ((v (hh_rI r) 8) - (v (hh_hI r i) 9)) < 20 then v else (hh_let (hf_X1_tell v r i x_24 (v (hh_rI r) 8) : hh_M) (fun (v_53 : hh_M) => v_53))) else (hh_let (hf_X1_tell v r i x_24 (v (hh_rI r) 8) : hh_M) (fun (v_53 : hh_M) => v_53))))))
set_option maxHeartbeats 4000000 in
set_option maxRecDepth 100000 in
theorem hk_X5_tellArea (l : Launch) (D : va_G) (K : Nat → ClassId) (ad : Nat → Nat) {nm : Nat} {nh nc : Nat → Nat} {v : hh_M} (hT : hh_T nm nh nc v) (r : Nat) (i : Nat) (hr : r < 2) (hi : i < 8) : hh_Kv l D K ad yX5_tellArea (hh_wm yX5_tellArea cX5_tellArea 3 none) { frames := 1, cells := 0, slots := 0, locals := 22 } [.ref (ad (hh_rI r)), .ref (ad (hh_hI r i))] v (fun (v1 : hh_M) => v1 = hf_X5_tellArea v r i ∧ (hh_T nm nh nc v1) ∧ hh_F (fun j k => j = hh_hI r i ∧ k < 13) v v1) := by
  refine hh_Kv_of (by decide) (Nat.le_of_ble_eq_true rfl) ?_
  intro p e s m args below meth c ls A C0 hp hl
  obtain ⟨hx, hb, hr9, hml, hown, hts, hK, hlk, hA⟩ := id C0
  have hnm := hT.1
  have hnh := hT.2.1
  have hnc := hT.2.2.1
  have hbHr := hnh r
  have hbCr := hnc r
  have hl : lv_has ls 3 [(0, .ref (ad (hh_rI r))), (1, .ref (ad (hh_hI r i)))] := hl
  refine lv_aload_n hx hb dX5_tellArea_0 rfl (lv_at hl 1 rfl) ?_
  refine hh_get C0 hp (C := RX1) (T := TX1) (N := 13) (ci := 1) (hh_b_h hr hi) (hh_E_h r hi) rfl hh_uX1 5 (by decide) hm_140 rfl rfl dX5_tellArea_1 ?_
  refine lv_iconst (v := (-1)) hx hb dX5_tellArea_4 (by decide) ?_
  refine lv_icmp_ne (tgt := 9) hx hb dX5_tellArea_5 (by decide) (fun c_5 => ?_) (fun c_5 => ?_)
  · refine lv_aload_n hx hb dX5_tellArea_9 rfl (lv_at hl 0 rfl) ?_
    refine hh_get C0 hp (C := RX5) (T := TX5) (N := 10) (ci := 5) (hh_b_r hr) (hh_E_r r) rfl hh_uX5 0 (by decide) hm_97 rfl rfl dX5_tellArea_10 ?_
    refine hh_get C0 hp (C := RX4) (T := TX4) (N := 3) (ci := 4) (by decide) hh_E_1 rfl hh_uX4 0 (by decide) hm_136 rfl rfl dX5_tellArea_13 ?_
    refine lv_aload_n hx hb dX5_tellArea_16 rfl (lv_at hl 1 rfl) ?_
    refine hh_get C0 hp (C := RX1) (T := TX1) (N := 13) (ci := 1) (hh_b_h hr hi) (hh_E_h r hi) rfl hh_uX1 5 (by decide) hm_140 rfl rfl dX5_tellArea_17 ?_
    have hin_20 : vp_in (v (hh_hI r i) 5) 6 := hh_in (hh_T_h5 hT r hi) (by assumption) (by omega) (by decide)
    refine hh_aal C0 hp (t0 := 2) (f := hh_mI) (by decide) hh_E_2 rfl rfl hin_20 rfl dX5_tellArea_20 ?_
    refine hh_get C0 hp (C := RX3) (T := TX3) (N := 7) (ci := 3) (hh_b_m (hh_lt hin_20)) (hh_E_m (hh_lt hin_20)) rfl hh_uX3 4 (by decide) hm_151 rfl rfl dX5_tellArea_21 ?_
    refine lv_topi (fun x_24 ex_24 => ?_)
    refine lv_istore_n (lv' := [(2, .int x_24), (0, .ref (ad (hh_rI r))), (1, .ref (ad (hh_hI r i)))]) hx hb dX5_tellArea_24 rfl hl (by decide) rfl (fun ls hl => ?_)
    refine lv_iload_n hx hb dX5_tellArea_25 rfl (lv_at hl 0 rfl) ?_
    refine lv_aload_n hx hb dX5_tellArea_26 rfl (lv_at hl 2 rfl) ?_
    refine hh_get C0 hp (C := RX1) (T := TX1) (N := 13) (ci := 1) (hh_b_h hr hi) (hh_E_h r hi) rfl hh_uX1 8 (by decide) hm_176 rfl rfl dX5_tellArea_27 ?_
    refine lv_icmp_ne (tgt := 47) hx hb dX5_tellArea_30 (by decide) (fun c_30 => ?_) (fun c_30 => ?_)
    · refine lv_aload_n hx hb dX5_tellArea_47 rfl (lv_at hl 2 rfl) ?_
      refine lv_iload_n hx hb dX5_tellArea_48 rfl (lv_at hl 0 rfl) ?_
      refine lv_aload_n hx hb dX5_tellArea_49 rfl (lv_at hl 1 rfl) ?_
      refine hh_get C0 hp (C := RX5) (T := TX5) (N := 10) (ci := 5) (hh_b_r hr) (hh_E_r r) rfl hh_uX5 8 (by decide) hm_114 rfl rfl dX5_tellArea_50 ?_
      refine hh_cVv C0 hp (As := [.int x_24, .int (v (hh_rI r) 8)]) (rest := []) (C := RX1) (T := TX1) (N := 13) (ci := 1) (n := 2) (hk_X1_tell l D K ad hT r i x_24 (v (hh_rI r) 8) hr hi) rfl (hh_b_h hr hi) (hh_E_h r hi) (hh_gV hm_178 hm_179 hm_180 hm_103 hm_43) ⟨rfl, rfl⟩ (by decide +kernel) ⟨Nat.le_of_ble_eq_true rfl, Nat.le_of_ble_eq_true rfl⟩ ⟨Nat.zero_le _, Nat.zero_le _⟩ hl.1 rfl rfl (Nat.le_of_ble_eq_true rfl) dX5_tellArea_53 (fun v_53 H locs hv_53 hp => ?_)
      obtain ⟨ev_53, hTv_53, hF9⟩ := hv_53
      have hFv_53 : hh_F (fun j k => j = hh_hI r i ∧ k < 13) v v_53 := hh_F.tr hh_F_rf (hh_F.mo hF9 (fun j k hj => by first | exact hj | (obtain ⟨rfl, hj⟩ := hj; (first | exact ⟨rfl, hj⟩ | exact Or.inl ⟨rfl, hj⟩ | exact Or.inr (Or.inl ⟨rfl, hj⟩) | exact Or.inr (Or.inr ⟨rfl, hj⟩) | exact hh_Pn_k hj | exact hh_Pn_h (by first | assumption | omega) hj | exact hh_Pn_c (by first | assumption | omega) hj | exact hh_Pn_g (by first | assumption | omega) (by decide) hj); done) | (rcases hj with ⟨rfl, hj⟩ | ⟨rfl, hj⟩ | ⟨rfl, hj⟩ <;> first | exact hh_Pn_c (by first | assumption | omega) hj | exact hh_Pn_g (by first | assumption | omega) (by decide) hj) | (have hj := hj; simp only [hh_fu_s] at hj; first | exact hj | exact Or.inl hj) | exact Or.inr hj | exact Or.inl hj | (rw [(rfl : True = True), (rfl : True = True)] at hj; exact hj)))
      clear hF9
      exact hh_vret C0 hp dX5_tellArea_56 ⟨(by show _ = _; unfold hf_X5_tellArea; rw [if_neg c_5, hh_let_eq ex_24, if_neg c_30, hh_let_eq ev_53]), hTv_53, hFv_53⟩
    · refine lv_aload_n hx hb dX5_tellArea_33 rfl (lv_at hl 1 rfl) ?_
      refine hh_get C0 hp (C := RX5) (T := TX5) (N := 10) (ci := 5) (hh_b_r hr) (hh_E_r r) rfl hh_uX5 8 (by decide) hm_114 rfl rfl dX5_tellArea_34 ?_
      refine lv_aload_n hx hb dX5_tellArea_37 rfl (lv_at hl 2 rfl) ?_
      refine hh_get C0 hp (C := RX1) (T := TX1) (N := 13) (ci := 1) (hh_b_h hr hi) (hh_E_h r hi) rfl hh_uX1 9 (by decide) hm_177 rfl rfl dX5_tellArea_38 ?_
      refine lv_isub hx hb dX5_tellArea_41 ?_
      refine lv_bipush (v := 20) hx hb dX5_tellArea_42 (by decide) ?_
      refine lv_icmp_lt (tgt := 56) hx hb dX5_tellArea_44 (by decide) (fun c_44 => ?_) (fun c_44 => ?_)
      · exact hh_vret C0 hp dX5_tellArea_56 ⟨(by show _ = _; unfold hf_X5_tellArea; rw [if_neg c_5, hh_let_eq ex_24, if_pos c_30, if_pos c_44]), hT, hh_F_rf⟩
      · refine lv_aload_n hx hb dX5_tellArea_47 rfl (lv_at hl 2 rfl) ?_
        refine lv_iload_n hx hb dX5_tellArea_48 rfl (lv_at hl 0 rfl) ?_
        refine lv_aload_n hx hb dX5_tellArea_49 rfl (lv_at hl 1 rfl) ?_
        refine hh_get C0 hp (C := RX5) (T := TX5) (N := 10) (ci := 5) (hh_b_r hr) (hh_E_r r) rfl hh_uX5 8 (by decide) hm_114 rfl rfl dX5_tellArea_50 ?_
        refine hh_cVv C0 hp (As := [.int x_24, .int (v (hh_rI r) 8)]) (rest := []) (C := RX1) (T := TX1) (N := 13) (ci := 1) (n := 2) (hk_X1_tell l D K ad hT r i x_24 (v (hh_rI r) 8) hr hi) rfl (hh_b_h hr hi) (hh_E_h r hi) (hh_gV hm_178 hm_179 hm_180 hm_103 hm_43) ⟨rfl, rfl⟩ (by decide +kernel) ⟨Nat.le_of_ble_eq_true rfl, Nat.le_of_ble_eq_true rfl⟩ ⟨Nat.zero_le _, Nat.zero_le _⟩ hl.1 rfl rfl (Nat.le_of_ble_eq_true rfl) dX5_tellArea_53 (fun v_53 H locs hv_53 hp => ?_)
        obtain ⟨ev_53, hTv_53, hF9⟩ := hv_53
        have hFv_53 : hh_F (fun j k => j = hh_hI r i ∧ k < 13) v v_53 := hh_F.tr hh_F_rf (hh_F.mo hF9 (fun j k hj => by first | exact hj | (obtain ⟨rfl, hj⟩ := hj; (first | exact ⟨rfl, hj⟩ | exact Or.inl ⟨rfl, hj⟩ | exact Or.inr (Or.inl ⟨rfl, hj⟩) | exact Or.inr (Or.inr ⟨rfl, hj⟩) | exact hh_Pn_k hj | exact hh_Pn_h (by first | assumption | omega) hj | exact hh_Pn_c (by first | assumption | omega) hj | exact hh_Pn_g (by first | assumption | omega) (by decide) hj); done) | (rcases hj with ⟨rfl, hj⟩ | ⟨rfl, hj⟩ | ⟨rfl, hj⟩ <;> first | exact hh_Pn_c (by first | assumption | omega) hj | exact hh_Pn_g (by first | assumption | omega) (by decide) hj) | (have hj := hj; simp only [hh_fu_s] at hj; first | exact hj | exact Or.inl hj) | exact Or.inr hj | exact Or.inl hj | (rw [(rfl : True = True), (rfl : True = True)] at hj; exact hj)))
        clear hF9
        exact hh_vret C0 hp dX5_tellArea_56 ⟨(by show _ = _; unfold hf_X5_tellArea; rw [if_neg c_5, hh_let_eq ex_24, if_pos c_30, if_neg c_44, hh_let_eq ev_53]), hTv_53, hFv_53⟩
  · exact hh_vret C0 hp dX5_tellArea_8 ⟨(by show _ = _; unfold hf_X5_tellArea; rw [if_pos c_5]), hT, hh_F_rf⟩
