/-! 14.tryCall: laid by program (wip/gen/mk10.py) -/
def hf_X5_join (v : hh_M) (r : Nat) (i : Nat) (g : Nat) (handset : Int32) : hh_M := (hh_let (hh_up v (hh_gI r i g) 0 handset : hh_M) (fun (v_2 : hh_M) => (hh_let (hh_up v_2 (hh_gI r i g) 1 (v_2 (hh_hI r handset.toNatClampNeg) 5) : hh_M) (fun (v_15 : hh_M) => (hh_let (hh_up v_15 (hh_lI r) ((v_15 (hh_gI r i g) 1).toNatClampNeg) ((v_15 (hh_lI r) ((v_15 (hh_gI r i g) 1).toNatClampNeg)) + 1) : hh_M) (fun (v_30 : hh_M) => (hh_let (hh_up v_30 (hh_hI r handset.toNatClampNeg) 6 (v_30 (hh_rI r) 6) : hh_M) (fun (v_41 : hh_M) => v_41))))))))
set_option maxHeartbeats 4000000 in
set_option maxRecDepth 100000 in
theorem hk_X5_join (l : Launch) (D : va_G) (K : Nat → ClassId) (ad : Nat → Nat) {nm : Nat} {nh nc : Nat → Nat} {v : hh_M} (hT : hh_T nm nh nc v) (r : Nat) (i : Nat) (g : Nat) (handset : Int32) (hr : r < 2) (hi : i < 24) (hg : g < 2) (hh8 : vp_in handset 8) (hhn : -1 ≤ handset ∧ handset < nI (nh r)) (hmu : ¬ v (hh_hI r handset.toNatClampNeg) 5 = -1) (hc24 : nc r < 24) : hh_Kv l D K ad yX5_join (hh_wm yX5_join cX5_join 3 none) { frames := 0, cells := 0, slots := 0, locals := 0 } [.ref (ad (hh_rI r)), .ref (ad (hh_gI r i g)), .int handset] v (fun (v1 : hh_M) => v1 = hf_X5_join v r i g handset ∧ hh_T nm nh nc v1 ∧ (∀ h, h < 8 → v1 (hh_hI r h) 5 = v (hh_hI r h) 5)) := by
  refine hh_Kv_of (by decide) (Nat.le_of_ble_eq_true rfl) ?_
  intro p e s m args below meth c ls A C0 hp hl
  obtain ⟨hx, hb, hr9, hml, hown, hts, hK, hlk, hA⟩ := id C0
  have hnm := hT.1
  have hnh := hT.2.1
  have hnc := hT.2.2.1
  have hbHr := hnh r
  have hbCr := hnc r
  have hl : lv_has ls 3 [(0, .ref (ad (hh_rI r))), (1, .ref (ad (hh_gI r i g))), (2, .int handset)] := hl
  refine lv_aload_n hx hb dX5_join_0 rfl (lv_at hl 1 rfl) ?_
  refine lv_iload_n hx hb dX5_join_1 rfl (lv_at hl 2 rfl) ?_
  refine hh_put C0 hp (C := RX2) (T := TX2) (N := 6) (ci := 2) (k := 0) (ty := .int) (hh_b_g hr hi hg) (hh_E_g r hi hg) (hh_pg0 r hi hg) rfl hh_uX2 tyX2_ok nmX2 (by decide) hm_186 rfl rfl (by decide +kernel) rfl rfl (Nat.le_of_ble_eq_true rfl) dX5_join_2 (fun H locs hp => ?_)
  obtain ⟨v_2, ev_2⟩ : ∃ z : hh_M, z = hh_up v (hh_gI r i g) 0 handset := ⟨_, rfl⟩
  rw [← ev_2] at hp
  have hTv_2 : hh_T nm nh nc v_2 := by rw [ev_2]; exact hh_T_up hT (hh_R_g0 hr hi hg hhn)
  refine lv_aload_n hx hb dX5_join_5 rfl (lv_at hl 1 rfl) ?_
  refine lv_aload_n hx hb dX5_join_6 rfl (lv_at hl 0 rfl) ?_
  refine hh_get C0 hp (C := RX5) (T := TX5) (N := 10) (ci := 5) (hh_b_r hr) (hh_E_r r) rfl hh_uX5 3 (by decide) hm_101 rfl rfl dX5_join_7 ?_
  refine lv_iload_n hx hb dX5_join_10 rfl (lv_at hl 2 rfl) ?_
  have hin_11 : vp_in handset 8 := by assumption
  refine hh_aal C0 hp (t0 := 3) (f := (hh_hI r)) (hh_b_H hr) (hh_E_H r) rfl rfl hin_11 rfl dX5_join_11 ?_
  refine hh_get C0 hp (C := RX1) (T := TX1) (N := 13) (ci := 1) (hh_b_h hr (hh_lt hin_11)) (hh_E_h r (hh_lt hin_11)) rfl hh_uX1 5 (by decide) hm_140 rfl rfl dX5_join_12 ?_
  refine hh_put C0 hp (C := RX2) (T := TX2) (N := 6) (ci := 2) (k := 1) (ty := .int) (hh_b_g hr hi hg) (hh_E_g r hi hg) (hh_pg1 r hi hg) rfl hh_uX2 tyX2_ok nmX2 (by decide) hm_187 rfl rfl (by decide +kernel) rfl rfl (Nat.le_of_ble_eq_true rfl) dX5_join_15 (fun H locs hp => ?_)
  obtain ⟨v_15, ev_15⟩ : ∃ z : hh_M, z = hh_up v_2 (hh_gI r i g) 1 (v_2 (hh_hI r handset.toNatClampNeg) 5) := ⟨_, rfl⟩
  rw [← ev_15] at hp
  have hTv_15 : hh_T nm nh nc v_15 := by rw [ev_15]; exact hh_T_up hTv_2 (hh_R_g1 hr hi hg (hh_T_h5 hTv_2 r (hh_lt hin_11)))
  have hin15 : vp_in (v_15 (hh_gI r i g) 1) 6 := by rw [ev_15, hh_ups, ev_2, hh_upx (by decide : (5 : Nat) ≠ 0)]; exact hh_in (hh_T_h5 hT r (hh_lt hh8)) hmu (by omega) (by decide)
  refine lv_aload_n hx hb dX5_join_18 rfl (lv_at hl 0 rfl) ?_
  refine hh_get C0 hp (C := RX5) (T := TX5) (N := 10) (ci := 5) (hh_b_r hr) (hh_E_r r) rfl hh_uX5 1 (by decide) hm_98 rfl rfl dX5_join_19 ?_
  refine lv_aload_n hx hb dX5_join_22 rfl (lv_at hl 1 rfl) ?_
  refine hh_get C0 hp (C := RX2) (T := TX2) (N := 6) (ci := 2) (hh_b_g hr hi hg) (hh_E_g r hi hg) rfl hh_uX2 1 (by decide) hm_187 rfl rfl dX5_join_23 ?_
  refine lv_dup2_11 hx hb dX5_join_26 rfl rfl ?_
  have hin_27 : vp_in (v_15 (hh_gI r i g) 1) 6 := by assumption
  refine hh_ial C0 hp (hh_b_l hr) (hh_E_l r) hin_27 rfl dX5_join_27 ?_
  refine lv_iconst (v := 1) hx hb dX5_join_28 (by decide) ?_
  refine lv_iadd hx hb dX5_join_29 ?_
  have hin_30 : vp_in (v_15 (hh_gI r i g) 1) 6 := by assumption
  refine hh_ias C0 hp (hh_b_l hr) (fun _ => (hh_E_l r)) hin_30 rfl dX5_join_30 (fun H locs hp => ?_)
  obtain ⟨v_30, ev_30⟩ : ∃ z : hh_M, z = hh_up v_15 (hh_lI r) ((v_15 (hh_gI r i g) 1).toNatClampNeg) ((v_15 (hh_lI r) ((v_15 (hh_gI r i g) 1).toNatClampNeg)) + 1) := ⟨_, rfl⟩
  rw [← ev_30] at hp
  have hTv_30 : hh_T nm nh nc v_30 := by rw [ev_30]; exact hh_T_up hTv_15 (hh_Rt_l hr)
  refine lv_aload_n hx hb dX5_join_31 rfl (lv_at hl 0 rfl) ?_
  refine hh_get C0 hp (C := RX5) (T := TX5) (N := 10) (ci := 5) (hh_b_r hr) (hh_E_r r) rfl hh_uX5 3 (by decide) hm_101 rfl rfl dX5_join_32 ?_
  refine lv_iload_n hx hb dX5_join_35 rfl (lv_at hl 2 rfl) ?_
  have hin_36 : vp_in handset 8 := by assumption
  refine hh_aal C0 hp (t0 := 3) (f := (hh_hI r)) (hh_b_H hr) (hh_E_H r) rfl rfl hin_36 rfl dX5_join_36 ?_
  refine lv_aload_n hx hb dX5_join_37 rfl (lv_at hl 0 rfl) ?_
  refine hh_get C0 hp (C := RX5) (T := TX5) (N := 10) (ci := 5) (hh_b_r hr) (hh_E_r r) rfl hh_uX5 6 (by decide) hm_112 rfl rfl dX5_join_38 ?_
  refine hh_put C0 hp (C := RX1) (T := TX1) (N := 13) (ci := 1) (k := 6) (ty := .int) (hh_b_h hr (hh_lt hin_36)) (hh_E_h r (hh_lt hin_36)) (hh_ph6 r (hh_lt hin_36)) rfl hh_uX1 tyX1_ok nmX1 (by decide) hm_224 rfl rfl (by decide +kernel) rfl rfl (Nat.le_of_ble_eq_true rfl) dX5_join_41 (fun H locs hp => ?_)
  obtain ⟨v_41, ev_41⟩ : ∃ z : hh_M, z = hh_up v_30 (hh_hI r handset.toNatClampNeg) 6 (v_30 (hh_rI r) 6) := ⟨_, rfl⟩
  rw [← ev_41] at hp
  have hTv_41 : hh_T nm nh nc v_41 := by rw [ev_41]; exact hh_T_up hTv_30 (hh_R_h6 hr (hh_lt hin_36) (by rw [hh_T_r6 hTv_30 r]; exact hh_rg hc24 (by decide)))
  exact hh_vret C0 hp dX5_join_44 ⟨(by show _ = _; unfold hf_X5_join; rw [hh_let_eq ev_2, hh_let_eq ev_15, hh_let_eq ev_30, hh_let_eq ev_41]), hTv_41, (by intro h h8; rw [ev_41, hh_upx (by decide : (5 : Nat) ≠ 6), ev_30, hh_upj (hh_ne_hl hr hr h8), ev_15, hh_upx (by decide : (5 : Nat) ≠ 1), ev_2, hh_upx (by decide : (5 : Nat) ≠ 0)])⟩
def hf_X5_tryCall (v : hh_M) (r : Nat) (from_ : Int32) (to_ : Int32) : Int32 × hh_M := (hh_let (hf_X1_isIdle v r from_.toNatClampNeg : Int32) (fun (q_16 : Int32) => (if q_16 = 0 then ((-2), v) else (if (v (hh_hI r from_.toNatClampNeg) 5) = (-1) then ((-2), v) else (hh_let ((hf_X5_page v r to_.toNatClampNeg).1 : Int32) (fun (q_36 : Int32) => (hh_let ((hf_X5_page v r to_.toNatClampNeg).2 : hh_M) (fun (v_36 : hh_M) => (if q_36 = 0 then ((-3), v_36) else (hh_let (hf_X1_isIdle v_36 r to_.toNatClampNeg : Int32) (fun (q_47 : Int32) => (if q_47 = 0 then ((-4), v_36) else (hh_let ((if (v_36 (hh_hI r from_.toNatClampNeg) 5) = (v_36 (hh_hI r to_.toNatClampNeg) 5) then (hh_let (hf_X5_hasFreeChannels v_36 r (v_36 (hh_hI r from_.toNatClampNeg) 5) 2 : Int32) (fun (q_74 : Int32) => q_74)) else (hh_let (hf_X5_hasFreeChannels v_36 r (v_36 (hh_hI r from_.toNatClampNeg) 5) 1 : Int32) (fun (q_86 : Int32) => (if q_86 = 0 then 0 else (hh_let (hf_X5_hasFreeChannels v_36 r (v_36 (hh_hI r to_.toNatClampNeg) 5) 1 : Int32) (fun (q_99 : Int32) => (if q_99 = 0 then 0 else 1))))))) : Int32) (fun (j110_0 : Int32) => (if j110_0 = 0 then ((-5), v_36) else (if 3 ≤ (v_36 (hh_hI r from_.toNatClampNeg) 3) then (hh_let (hf_X5_join v_36 r ((v_36 (hh_rI r) 6).toNatClampNeg) 0 from_ : hh_M) (fun (v_145 : hh_M) => (hh_let (hf_X5_join v_145 r ((v_145 (hh_rI r) 6).toNatClampNeg) 1 to_ : hh_M) (fun (v_162 : hh_M) => (hh_let (hh_up v_162 (hh_rI r) 6 ((v_162 (hh_rI r) 6) + 1) : hh_M) (fun (v_172 : hh_M) => (((v_172 (hh_rI r) 6) - 1), v_172))))))) else ((-6), v_36)))))))))))))))))
set_option maxHeartbeats 4000000 in
set_option maxRecDepth 100000 in
theorem hk_X5_tryCall (l : Launch) (D : va_G) (K : Nat → ClassId) (ad : Nat → Nat) {nm : Nat} {nh nc : Nat → Nat} {v : hh_M} (hT : hh_T nm nh nc v) (r : Nat) (from_ : Int32) (to_ : Int32) (hr : r < 2) (hf0 : 0 ≤ from_) (hf1 : from_ < nI (nh r)) (ht0 : 0 ≤ to_) (ht1 : to_ < nI (nh r)) (hc24 : nc r < 24) : hh_Ki l D K ad yX5_tryCall (hh_wm yX5_tryCall cX5_tryCall 6 (some .int)) { frames := 2, cells := 0, slots := 0, locals := 45 } [.ref (ad (hh_rI r)), .int from_, .int to_] v (fun (q : Int32) (v1 : hh_M) => (q, v1) = hf_X5_tryCall v r from_ to_ ∧ ∃ nc1, hh_T nm nh nc1 v1) := by
  refine hh_Ki_of (by decide) (Nat.le_of_ble_eq_true rfl) ?_
  intro p e s m args below meth c ls A C0 hp hl
  obtain ⟨hx, hb, hr9, hml, hown, hts, hK, hlk, hA⟩ := id C0
  have hnm := hT.1
  have hnh := hT.2.1
  have hnc := hT.2.2.1
  have hbHr := hnh r
  have hbCr := hnc r
  have hl : lv_has ls 6 [(0, .ref (ad (hh_rI r))), (1, .int from_), (2, .int to_)] := hl
  have hf8 : vp_in from_ 8 := hh_inZ hf0 hf1 (by omega) (by decide)
  have ht8 : vp_in to_ 8 := hh_inZ ht0 ht1 (by omega) (by decide)
  refine lv_aload_n hx hb dX5_tryCall_0 rfl (lv_at hl 0 rfl) ?_
  refine hh_get C0 hp (C := RX5) (T := TX5) (N := 10) (ci := 5) (hh_b_r hr) (hh_E_r r) rfl hh_uX5 3 (by decide) hm_101 rfl rfl dX5_tryCall_1 ?_
  refine lv_iload_n hx hb dX5_tryCall_4 rfl (lv_at hl 1 rfl) ?_
  have hin_5 : vp_in from_ 8 := by assumption
  refine hh_aal C0 hp (t0 := 3) (f := (hh_hI r)) (hh_b_H hr) (hh_E_H r) rfl rfl hin_5 rfl dX5_tryCall_5 ?_
  refine lv_astore_n (lv' := [(3, .ref (ad (hh_hI r from_.toNatClampNeg))), (0, .ref (ad (hh_rI r))), (1, .int from_), (2, .int to_)]) hx hb dX5_tryCall_6 rfl hl (by decide) rfl (fun ls hl => ?_)
  refine lv_aload_n hx hb dX5_tryCall_7 rfl (lv_at hl 1 rfl) ?_
  refine hh_get C0 hp (C := RX5) (T := TX5) (N := 10) (ci := 5) (hh_b_r hr) (hh_E_r r) rfl hh_uX5 3 (by decide) hm_101 rfl rfl dX5_tryCall_8 ?_
  refine lv_iload_n hx hb dX5_tryCall_11 rfl (lv_at hl 3 rfl) ?_
  have hin_12 : vp_in to_ 8 := by assumption
  refine hh_aal C0 hp (t0 := 3) (f := (hh_hI r)) (hh_b_H hr) (hh_E_H r) rfl rfl hin_12 rfl dX5_tryCall_12 ?_
  refine lv_astore (lv' := [(4, .ref (ad (hh_hI r to_.toNatClampNeg))), (3, .ref (ad (hh_hI r from_.toNatClampNeg))), (0, .ref (ad (hh_rI r))), (1, .int from_), (2, .int to_)]) hx hb dX5_tryCall_13 hl (by decide) rfl (fun ls hl => ?_)
  refine lv_aload_n hx hb dX5_tryCall_15 rfl (lv_at hl 1 rfl) ?_
  refine hh_cVi C0 hp (As := []) (rest := []) (C := RX1) (T := TX1) (N := 13) (ci := 1) (n := 0) (hk_X1_isIdle l D K ad hT r from_.toNatClampNeg hr (hh_lt hin_5)) rfl (hh_b_h hr (hh_lt hin_5)) (hh_E_h r (hh_lt hin_5)) (hh_gV hm_164 hm_165 hm_166 hm_103 hm_38) ⟨rfl, rfl⟩ (by decide +kernel) ⟨Nat.le_of_ble_eq_true rfl, Nat.le_of_ble_eq_true rfl⟩ ⟨Nat.zero_le _, Nat.zero_le _⟩ hl.1 rfl rfl (Nat.le_of_ble_eq_true rfl) dX5_tryCall_16 (fun q_16 v_16 H locs hv_16 hp => ?_)
  obtain ⟨eq_16, hv9⟩ := hv_16
  rw [hv9] at hp; clear hv9
  refine lv_if_eq (tgt := 30) hx hb dX5_tryCall_19 (by decide) (fun c_19 => ?_) (fun c_19 => ?_)
  · refine lv_bipush (v := (-2)) hx hb dX5_tryCall_30 (by decide) ?_
    exact hh_iret C0 hp dX5_tryCall_32 ⟨(by show (_, _) = _; unfold hf_X5_tryCall; rw [hh_let_eq eq_16, if_pos c_19]), ⟨_, hT⟩⟩
  · refine lv_aload_n hx hb dX5_tryCall_22 rfl (lv_at hl 1 rfl) ?_
    refine hh_get C0 hp (C := RX1) (T := TX1) (N := 13) (ci := 1) (hh_b_h hr (hh_lt hin_5)) (hh_E_h r (hh_lt hin_5)) rfl hh_uX1 5 (by decide) hm_140 rfl rfl dX5_tryCall_23 ?_
    refine lv_iconst (v := (-1)) hx hb dX5_tryCall_26 (by decide) ?_
    refine lv_icmp_ne (tgt := 33) hx hb dX5_tryCall_27 (by decide) (fun c_27 => ?_) (fun c_27 => ?_)
    · refine lv_aload_n hx hb dX5_tryCall_33 rfl (lv_at hl 2 rfl) ?_
      refine lv_aload hx hb dX5_tryCall_34 (lv_at hl 0 rfl) ?_
      refine hh_cVi C0 hp (As := [.ref (ad (hh_hI r to_.toNatClampNeg))]) (rest := []) (C := RX5) (T := TX5) (N := 10) (ci := 5) (n := 1) (hk_X5_page l D K ad hT r to_.toNatClampNeg hr (hh_lt hin_12)) rfl (hh_b_r hr) (hh_E_r r) (hh_gV hm_249 hm_250 hm_251 hm_128 hm_138) ⟨rfl, rfl⟩ (by decide +kernel) ⟨Nat.le_of_ble_eq_true rfl, Nat.le_of_ble_eq_true rfl⟩ ⟨Nat.zero_le _, Nat.zero_le _⟩ hl.1 rfl rfl (Nat.le_of_ble_eq_true rfl) dX5_tryCall_36 (fun q_36 v_36 H locs hv_36 hp => ?_)
      obtain ⟨h9, hTv_36, hpq_36a, hpq_36b⟩ := hv_36
      have eq_36 : q_36 = (hf_X5_page v r to_.toNatClampNeg).1 := congrArg Prod.fst h9
      have ev_36 : v_36 = (hf_X5_page v r to_.toNatClampNeg).2 := congrArg Prod.snd h9
      clear h9
      refine lv_if_ne (tgt := 45) hx hb dX5_tryCall_39 (by decide) (fun c_39 => ?_) (fun c_39 => ?_)
      · have hto : ¬ v_36 (hh_hI r to_.toNatClampNeg) 5 = -1 := hpq_36a.resolve_left c_39
        have hfr : ¬ v_36 (hh_hI r from_.toNatClampNeg) 5 = -1 := by rw [hpq_36b _ _ (hh_ne_hr hr hr (hh_lt hin_5))]; assumption
        refine lv_aload hx hb dX5_tryCall_45 (lv_at hl 0 rfl) ?_
        refine hh_cVi C0 hp (As := []) (rest := []) (C := RX1) (T := TX1) (N := 13) (ci := 1) (n := 0) (hk_X1_isIdle l D K ad hTv_36 r to_.toNatClampNeg hr (hh_lt hin_12)) rfl (hh_b_h hr (hh_lt hin_12)) (hh_E_h r (hh_lt hin_12)) (hh_gV hm_164 hm_165 hm_166 hm_103 hm_38) ⟨rfl, rfl⟩ (by decide +kernel) ⟨Nat.le_of_ble_eq_true rfl, Nat.le_of_ble_eq_true rfl⟩ ⟨Nat.zero_le _, Nat.zero_le _⟩ hl.1 rfl rfl (Nat.le_of_ble_eq_true rfl) dX5_tryCall_47 (fun q_47 v_47 H locs hv_47 hp => ?_)
        obtain ⟨eq_47, hv9⟩ := hv_47
        rw [hv9] at hp; clear hv9
        refine lv_if_ne (tgt := 56) hx hb dX5_tryCall_50 (by decide) (fun c_50 => ?_) (fun c_50 => ?_)
        · have hJ_110 : ∀ (j110_0 : Int32) (H : Heap) (locs : List Loc) (ls : Array Slot), j110_0 = (if (v_36 (hh_hI r from_.toNatClampNeg) 5) = (v_36 (hh_hI r to_.toNatClampNeg) 5) then (hh_let (hf_X5_hasFreeChannels v_36 r (v_36 (hh_hI r from_.toNatClampNeg) 5) 2 : Int32) (fun (q_74 : Int32) => q_74)) else (hh_let (hf_X5_hasFreeChannels v_36 r (v_36 (hh_hI r from_.toNatClampNeg) 5) 1 : Int32) (fun (q_86 : Int32) => (if q_86 = 0 then 0 else (hh_let (hf_X5_hasFreeChannels v_36 r (v_36 (hh_hI r to_.toNatClampNeg) 5) 1 : Int32) (fun (q_99 : Int32) => (if q_99 = 0 then 0 else 1))))))) → hh_H D K ad A s.heap v_36 H locs → lv_has ls 6 [(4, .ref (ad (hh_hI r to_.toNatClampNeg))), (3, .ref (ad (hh_hI r from_.toNatClampNeg))), (0, .ref (ad (hh_rI r))), (1, .int from_), (2, .int to_)] → W p l e ({ frames := 2, cells := 0, slots := 0, locals := 45 } : Room) s m args below meth c H locs 0 0 (MQ below (va_Qi (fun (q : Int32) (v1 : hh_M) => (q, v1) = hf_X5_tryCall v r from_ to_ ∧ ∃ nc1, hh_T nm nh nc1 v1) (hh_B D K ad A) A) args s 0 0 A) (F0 m 110 ls [.int j110_0]) := by
            intro j110_0 H locs ls eJ_110 hp hl
            have ej110_0 : j110_0 = (if (v_36 (hh_hI r from_.toNatClampNeg) 5) = (v_36 (hh_hI r to_.toNatClampNeg) 5) then (hh_let (hf_X5_hasFreeChannels v_36 r (v_36 (hh_hI r from_.toNatClampNeg) 5) 2 : Int32) (fun (q_74 : Int32) => q_74)) else (hh_let (hf_X5_hasFreeChannels v_36 r (v_36 (hh_hI r from_.toNatClampNeg) 5) 1 : Int32) (fun (q_86 : Int32) => (if q_86 = 0 then 0 else (hh_let (hf_X5_hasFreeChannels v_36 r (v_36 (hh_hI r to_.toNatClampNeg) 5) 1 : Int32) (fun (q_99 : Int32) => (if q_99 = 0 then 0 else 1))))))) := eJ_110
            clear eJ_110
            refine lv_istore (lv' := [(5, .int j110_0), (4, .ref (ad (hh_hI r to_.toNatClampNeg))), (3, .ref (ad (hh_hI r from_.toNatClampNeg))), (0, .ref (ad (hh_rI r))), (1, .int from_), (2, .int to_)]) hx hb dX5_tryCall_110 hl (by decide) rfl (fun ls hl => ?_)
            refine lv_iload hx hb dX5_tryCall_112 (lv_at hl 0 rfl) ?_
            refine lv_if_ne (tgt := 120) hx hb dX5_tryCall_114 (by decide) (fun c_114 => ?_) (fun c_114 => ?_)
            · refine lv_aload_n hx hb dX5_tryCall_120 rfl (lv_at hl 2 rfl) ?_
              refine hh_get C0 hp (C := RX1) (T := TX1) (N := 13) (ci := 1) (hh_b_h hr (hh_lt hin_5)) (hh_E_h r (hh_lt hin_5)) rfl hh_uX1 3 (by decide) hm_229 rfl rfl dX5_tryCall_121 ?_
              refine lv_iconst (v := 3) hx hb dX5_tryCall_124 (by decide) ?_
              refine lv_icmp_ge (tgt := 131) hx hb dX5_tryCall_125 (by decide) (fun c_125 => ?_) (fun c_125 => ?_)
              · refine lv_aload_n hx hb dX5_tryCall_131 rfl (lv_at hl 3 rfl) ?_
                refine lv_aload_n hx hb dX5_tryCall_132 rfl (lv_at hl 3 rfl) ?_
                refine hh_get C0 hp (C := RX5) (T := TX5) (N := 10) (ci := 5) (hh_b_r hr) (hh_E_r r) rfl hh_uX5 4 (by decide) hm_105 rfl rfl dX5_tryCall_133 ?_
                refine lv_aload_n hx hb dX5_tryCall_136 rfl (lv_at hl 3 rfl) ?_
                refine hh_get C0 hp (C := RX5) (T := TX5) (N := 10) (ci := 5) (hh_b_r hr) (hh_E_r r) rfl hh_uX5 6 (by decide) hm_112 rfl rfl dX5_tryCall_137 ?_
                have hin_140 : vp_in (v_36 (hh_rI r) 6) 24 := by rw [hh_T_r6 hTv_36 r]; exact vp_in_nI hc24 (by decide)
                refine hh_aal C0 hp (t0 := 4) (f := (hh_cI r)) (hh_b_C hr) (hh_E_C r) rfl rfl hin_140 rfl dX5_tryCall_140 ?_
                refine hh_get C0 hp (C := RX0) (T := TX0) (N := 7) (ci := 0) (hh_b_c hr (hh_lt hin_140)) (hh_E_c r (hh_lt hin_140)) rfl hh_uX0 0 (by decide) hm_159 rfl rfl dX5_tryCall_141 ?_
                refine lv_iload_n hx hb dX5_tryCall_144 rfl (lv_at hl 4 rfl) ?_
                refine hh_cVv C0 hp (As := [.ref (ad (hh_gI r ((v_36 (hh_rI r) 6).toNatClampNeg) 0)), .int from_]) (rest := []) (C := RX5) (T := TX5) (N := 10) (ci := 5) (n := 2) (hk_X5_join l D K ad hTv_36 r ((v_36 (hh_rI r) 6).toNatClampNeg) 0 from_ hr (hh_lt hin_140) (by decide : 0 < 2) (by assumption) (⟨Int32.le_trans (by decide) hf0, hf1⟩) hfr (by assumption)) rfl (hh_b_r hr) (hh_E_r r) (hh_gV hm_252 hm_253 hm_254 hm_128 hm_255) ⟨rfl, rfl⟩ (by decide +kernel) ⟨Nat.le_of_ble_eq_true rfl, Nat.le_of_ble_eq_true rfl⟩ ⟨Nat.zero_le _, Nat.zero_le _⟩ hl.1 rfl rfl (Nat.le_of_ble_eq_true rfl) dX5_tryCall_145 (fun v_145 H locs hv_145 hp => ?_)
                obtain ⟨ev_145, hTv_145, hpv_1450⟩ := hv_145
                refine lv_aload_n hx hb dX5_tryCall_148 rfl (lv_at hl 3 rfl) ?_
                refine lv_aload_n hx hb dX5_tryCall_149 rfl (lv_at hl 3 rfl) ?_
                refine hh_get C0 hp (C := RX5) (T := TX5) (N := 10) (ci := 5) (hh_b_r hr) (hh_E_r r) rfl hh_uX5 4 (by decide) hm_105 rfl rfl dX5_tryCall_150 ?_
                refine lv_aload_n hx hb dX5_tryCall_153 rfl (lv_at hl 3 rfl) ?_
                refine hh_get C0 hp (C := RX5) (T := TX5) (N := 10) (ci := 5) (hh_b_r hr) (hh_E_r r) rfl hh_uX5 6 (by decide) hm_112 rfl rfl dX5_tryCall_154 ?_
                have hin_157 : vp_in (v_145 (hh_rI r) 6) 24 := by rw [hh_T_r6 hTv_145 r]; exact vp_in_nI hc24 (by decide)
                refine hh_aal C0 hp (t0 := 4) (f := (hh_cI r)) (hh_b_C hr) (hh_E_C r) rfl rfl hin_157 rfl dX5_tryCall_157 ?_
                refine hh_get C0 hp (C := RX0) (T := TX0) (N := 7) (ci := 0) (hh_b_c hr (hh_lt hin_157)) (hh_E_c r (hh_lt hin_157)) rfl hh_uX0 1 (by decide) hm_160 rfl rfl dX5_tryCall_158 ?_
                refine lv_iload_n hx hb dX5_tryCall_161 rfl (lv_at hl 5 rfl) ?_
                refine hh_cVv C0 hp (As := [.ref (ad (hh_gI r ((v_145 (hh_rI r) 6).toNatClampNeg) 1)), .int to_]) (rest := []) (C := RX5) (T := TX5) (N := 10) (ci := 5) (n := 2) (hk_X5_join l D K ad hTv_145 r ((v_145 (hh_rI r) 6).toNatClampNeg) 1 to_ hr (hh_lt hin_157) (by decide : 1 < 2) (by assumption) (⟨Int32.le_trans (by decide) ht0, ht1⟩) (by rw [hpv_1450 _ (hh_lt hin_12)]; exact hto) (by assumption)) rfl (hh_b_r hr) (hh_E_r r) (hh_gV hm_252 hm_253 hm_254 hm_128 hm_255) ⟨rfl, rfl⟩ (by decide +kernel) ⟨Nat.le_of_ble_eq_true rfl, Nat.le_of_ble_eq_true rfl⟩ ⟨Nat.zero_le _, Nat.zero_le _⟩ hl.1 rfl rfl (Nat.le_of_ble_eq_true rfl) dX5_tryCall_162 (fun v_162 H locs hv_162 hp => ?_)
                obtain ⟨ev_162, hTv_162, hpv_1620⟩ := hv_162
                refine lv_aload_n hx hb dX5_tryCall_165 rfl (lv_at hl 3 rfl) ?_
                refine lv_dup hx hb dX5_tryCall_166 rfl ?_
                refine hh_get C0 hp (C := RX5) (T := TX5) (N := 10) (ci := 5) (hh_b_r hr) (hh_E_r r) rfl hh_uX5 6 (by decide) hm_112 rfl rfl dX5_tryCall_167 ?_
                refine lv_iconst (v := 1) hx hb dX5_tryCall_170 (by decide) ?_
                refine lv_iadd hx hb dX5_tryCall_171 ?_
                refine hh_put C0 hp (C := RX5) (T := TX5) (N := 10) (ci := 5) (k := 6) (ty := .int) (hh_b_r hr) (hh_E_r r) (hh_pr6 r) rfl hh_uX5 tyX5_ok nmX5 (by decide) hm_112 rfl rfl (by decide +kernel) rfl rfl (Nat.le_of_ble_eq_true rfl) dX5_tryCall_172 (fun H locs hp => ?_)
                obtain ⟨v_172, ev_172⟩ : ∃ z : hh_M, z = hh_up v_162 (hh_rI r) 6 ((v_162 (hh_rI r) 6) + 1) := ⟨_, rfl⟩
                rw [← ev_172] at hp
                have hTv_172 : hh_T nm nh (hh_fu nc r (nc r + 1)) v_172 := by rw [ev_172]; exact hh_T_nc hTv_162 hr (by omega) (by rw [hh_T_r6 hTv_162 r]; exact nI_1 _)
                refine lv_aload_n hx hb dX5_tryCall_175 rfl (lv_at hl 3 rfl) ?_
                refine hh_get C0 hp (C := RX5) (T := TX5) (N := 10) (ci := 5) (hh_b_r hr) (hh_E_r r) rfl hh_uX5 6 (by decide) hm_112 rfl rfl dX5_tryCall_176 ?_
                refine lv_iconst (v := 1) hx hb dX5_tryCall_179 (by decide) ?_
                refine lv_isub hx hb dX5_tryCall_180 ?_
                exact hh_iret C0 hp dX5_tryCall_181 ⟨(by show (_, _) = _; unfold hf_X5_tryCall; rw [hh_let_eq eq_16, if_neg c_19, if_neg c_27, hh_let_eq eq_36, hh_let_eq ev_36, if_neg c_39, hh_let_eq eq_47, if_neg c_50, hh_let_eq ej110_0, if_neg c_114, if_pos c_125, hh_let_eq ev_145, hh_let_eq ev_162, hh_let_eq ev_172]), ⟨_, hTv_172⟩⟩
              · refine lv_bipush (v := (-6)) hx hb dX5_tryCall_128 (by decide) ?_
                exact hh_iret C0 hp dX5_tryCall_130 ⟨(by show (_, _) = _; unfold hf_X5_tryCall; rw [hh_let_eq eq_16, if_neg c_19, if_neg c_27, hh_let_eq eq_36, hh_let_eq ev_36, if_neg c_39, hh_let_eq eq_47, if_neg c_50, hh_let_eq ej110_0, if_neg c_114, if_neg c_125]), ⟨_, hTv_36⟩⟩
            · refine lv_bipush (v := (-5)) hx hb dX5_tryCall_117 (by decide) ?_
              exact hh_iret C0 hp dX5_tryCall_119 ⟨(by show (_, _) = _; unfold hf_X5_tryCall; rw [hh_let_eq eq_16, if_neg c_19, if_neg c_27, hh_let_eq eq_36, hh_let_eq ev_36, if_neg c_39, hh_let_eq eq_47, if_neg c_50, hh_let_eq ej110_0, if_pos c_114]), ⟨_, hTv_36⟩⟩
          refine lv_aload_n hx hb dX5_tryCall_56 rfl (lv_at hl 1 rfl) ?_
          refine hh_get C0 hp (C := RX1) (T := TX1) (N := 13) (ci := 1) (hh_b_h hr (hh_lt hin_5)) (hh_E_h r (hh_lt hin_5)) rfl hh_uX1 5 (by decide) hm_140 rfl rfl dX5_tryCall_57 ?_
          refine lv_aload hx hb dX5_tryCall_60 (lv_at hl 0 rfl) ?_
          refine hh_get C0 hp (C := RX1) (T := TX1) (N := 13) (ci := 1) (hh_b_h hr (hh_lt hin_12)) (hh_E_h r (hh_lt hin_12)) rfl hh_uX1 5 (by decide) hm_140 rfl rfl dX5_tryCall_62 ?_
          refine lv_icmp_ne (tgt := 80) hx hb dX5_tryCall_65 (by decide) (fun c_65 => ?_) (fun c_65 => ?_)
          · refine lv_aload_n hx hb dX5_tryCall_80 rfl (lv_at hl 2 rfl) ?_
            refine lv_aload_n hx hb dX5_tryCall_81 rfl (lv_at hl 1 rfl) ?_
            refine hh_get C0 hp (C := RX1) (T := TX1) (N := 13) (ci := 1) (hh_b_h hr (hh_lt hin_5)) (hh_E_h r (hh_lt hin_5)) rfl hh_uX1 5 (by decide) hm_140 rfl rfl dX5_tryCall_82 ?_
            refine lv_iconst (v := 1) hx hb dX5_tryCall_85 (by decide) ?_
            refine hh_cVi C0 hp (As := [.int (v_36 (hh_hI r from_.toNatClampNeg) 5), .int 1]) (rest := []) (C := RX5) (T := TX5) (N := 10) (ci := 5) (n := 2) (hk_X5_hasFreeChannels l D K ad hTv_36 r (v_36 (hh_hI r from_.toNatClampNeg) 5) 1 hr (hh_in (hh_T_h5 hTv_36 r (hh_lt hin_5)) hfr (by omega) (by decide))) rfl (hh_b_r hr) (hh_E_r r) (hh_gV hm_198 hm_199 hm_200 hm_128 hm_135) ⟨rfl, rfl⟩ (by decide +kernel) ⟨Nat.le_of_ble_eq_true rfl, Nat.le_of_ble_eq_true rfl⟩ ⟨Nat.zero_le _, Nat.zero_le _⟩ hl.1 rfl rfl (Nat.le_of_ble_eq_true rfl) dX5_tryCall_86 (fun q_86 v_86 H locs hv_86 hp => ?_)
            obtain ⟨eq_86, hv9⟩ := hv_86
            rw [hv9] at hp; clear hv9
            refine lv_if_eq (tgt := 109) hx hb dX5_tryCall_89 (by decide) (fun c_89 => ?_) (fun c_89 => ?_)
            · refine lv_iconst (v := 0) hx hb dX5_tryCall_109 (by decide) ?_
              exact hJ_110 0 _ _ _ (by rw [if_neg c_65, hh_let_eq eq_86, if_pos c_89]) hp (lv_sub hl [0, 1, 2, 3, 4] rfl)
            · refine lv_aload_n hx hb dX5_tryCall_92 rfl (lv_at hl 2 rfl) ?_
              refine lv_aload hx hb dX5_tryCall_93 (lv_at hl 0 rfl) ?_
              refine hh_get C0 hp (C := RX1) (T := TX1) (N := 13) (ci := 1) (hh_b_h hr (hh_lt hin_12)) (hh_E_h r (hh_lt hin_12)) rfl hh_uX1 5 (by decide) hm_140 rfl rfl dX5_tryCall_95 ?_
              refine lv_iconst (v := 1) hx hb dX5_tryCall_98 (by decide) ?_
              refine hh_cVi C0 hp (As := [.int (v_36 (hh_hI r to_.toNatClampNeg) 5), .int 1]) (rest := []) (C := RX5) (T := TX5) (N := 10) (ci := 5) (n := 2) (hk_X5_hasFreeChannels l D K ad hTv_36 r (v_36 (hh_hI r to_.toNatClampNeg) 5) 1 hr (hh_in (hh_T_h5 hTv_36 r (hh_lt hin_12)) hto (by omega) (by decide))) rfl (hh_b_r hr) (hh_E_r r) (hh_gV hm_198 hm_199 hm_200 hm_128 hm_135) ⟨rfl, rfl⟩ (by decide +kernel) ⟨Nat.le_of_ble_eq_true rfl, Nat.le_of_ble_eq_true rfl⟩ ⟨Nat.zero_le _, Nat.zero_le _⟩ hl.1 rfl rfl (Nat.le_of_ble_eq_true rfl) dX5_tryCall_99 (fun q_99 v_99 H locs hv_99 hp => ?_)
              obtain ⟨eq_99, hv9⟩ := hv_99
              rw [hv9] at hp; clear hv9
              refine lv_if_eq (tgt := 109) hx hb dX5_tryCall_102 (by decide) (fun c_102 => ?_) (fun c_102 => ?_)
              · refine lv_iconst (v := 0) hx hb dX5_tryCall_109 (by decide) ?_
                exact hJ_110 0 _ _ _ (by rw [if_neg c_65, hh_let_eq eq_86, if_neg c_89, hh_let_eq eq_99, if_pos c_102]) hp (lv_sub hl [0, 1, 2, 3, 4] rfl)
              · refine lv_iconst (v := 1) hx hb dX5_tryCall_105 (by decide) ?_
                refine lv_goto (tgt := 110) hx hb dX5_tryCall_106 (by decide) ?_
                exact hJ_110 1 _ _ _ (by rw [if_neg c_65, hh_let_eq eq_86, if_neg c_89, hh_let_eq eq_99, if_neg c_102]) hp (lv_sub hl [0, 1, 2, 3, 4] rfl)
          · refine lv_aload_n hx hb dX5_tryCall_68 rfl (lv_at hl 2 rfl) ?_
            refine lv_aload_n hx hb dX5_tryCall_69 rfl (lv_at hl 1 rfl) ?_
            refine hh_get C0 hp (C := RX1) (T := TX1) (N := 13) (ci := 1) (hh_b_h hr (hh_lt hin_5)) (hh_E_h r (hh_lt hin_5)) rfl hh_uX1 5 (by decide) hm_140 rfl rfl dX5_tryCall_70 ?_
            refine lv_iconst (v := 2) hx hb dX5_tryCall_73 (by decide) ?_
            refine hh_cVi C0 hp (As := [.int (v_36 (hh_hI r from_.toNatClampNeg) 5), .int 2]) (rest := []) (C := RX5) (T := TX5) (N := 10) (ci := 5) (n := 2) (hk_X5_hasFreeChannels l D K ad hTv_36 r (v_36 (hh_hI r from_.toNatClampNeg) 5) 2 hr (hh_in (hh_T_h5 hTv_36 r (hh_lt hin_5)) hfr (by omega) (by decide))) rfl (hh_b_r hr) (hh_E_r r) (hh_gV hm_198 hm_199 hm_200 hm_128 hm_135) ⟨rfl, rfl⟩ (by decide +kernel) ⟨Nat.le_of_ble_eq_true rfl, Nat.le_of_ble_eq_true rfl⟩ ⟨Nat.zero_le _, Nat.zero_le _⟩ hl.1 rfl rfl (Nat.le_of_ble_eq_true rfl) dX5_tryCall_74 (fun q_74 v_74 H locs hv_74 hp => ?_)
            obtain ⟨eq_74, hv9⟩ := hv_74
            rw [hv9] at hp; clear hv9
            refine lv_goto (tgt := 110) hx hb dX5_tryCall_77 (by decide) ?_
            exact hJ_110 q_74 _ _ _ (by rw [if_pos c_65, hh_let_eq eq_74]) hp (lv_sub hl [0, 1, 2, 3, 4] rfl)
        · refine lv_bipush (v := (-4)) hx hb dX5_tryCall_53 (by decide) ?_
          exact hh_iret C0 hp dX5_tryCall_55 ⟨(by show (_, _) = _; unfold hf_X5_tryCall; rw [hh_let_eq eq_16, if_neg c_19, if_neg c_27, hh_let_eq eq_36, hh_let_eq ev_36, if_neg c_39, hh_let_eq eq_47, if_pos c_50]), ⟨_, hTv_36⟩⟩
      · refine lv_bipush (v := (-3)) hx hb dX5_tryCall_42 (by decide) ?_
        exact hh_iret C0 hp dX5_tryCall_44 ⟨(by show (_, _) = _; unfold hf_X5_tryCall; rw [hh_let_eq eq_16, if_neg c_19, if_neg c_27, hh_let_eq eq_36, hh_let_eq ev_36, if_pos c_39]), ⟨_, hTv_36⟩⟩
    · refine lv_bipush (v := (-2)) hx hb dX5_tryCall_30 (by decide) ?_
      exact hh_iret C0 hp dX5_tryCall_32 ⟨(by show (_, _) = _; unfold hf_X5_tryCall; rw [hh_let_eq eq_16, if_neg c_19, if_pos c_27]), ⟨_, hT⟩⟩
