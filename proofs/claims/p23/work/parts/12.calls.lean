/-! 12.calls: laid by program (wip/gen/mk10.py) -/
def hf_X5_release (v : hh_M) (r : Nat) (i : Nat) (g : Nat) : hh_M := (hh_let (hh_up v (hh_lI r) ((v (hh_gI r i g) 1).toNatClampNeg) ((v (hh_lI r) ((v (hh_gI r i g) 1).toNatClampNeg)) - 1) : hh_M) (fun (v_12 : hh_M) => (hh_let (hh_up v_12 (hh_hI r ((v_12 (hh_gI r i g) 0).toNatClampNeg)) 6 (-1) : hh_M) (fun (v_23 : hh_M) => v_23))))
set_option maxHeartbeats 4000000 in
set_option maxRecDepth 100000 in
theorem hk_X5_release (l : Launch) (D : va_G) (K : Nat → ClassId) (ad : Nat → Nat) {nm : Nat} {nh nc : Nat → Nat} {v : hh_M} (hT : hh_T nm nh nc v) (r : Nat) (i : Nat) (g : Nat) (hr : r < 2) (hi : i < 24) (hg : g < 2) (hu0 : ¬ v (hh_gI r i g) 0 = -1) (hu1 : ¬ v (hh_gI r i g) 1 = -1) : hh_Kv l D K ad yX5_release (hh_wm yX5_release cX5_release 2 none) { frames := 0, cells := 0, slots := 0, locals := 0 } [.ref (ad (hh_rI r)), .ref (ad (hh_gI r i g))] v (fun (v1 : hh_M) => v1 = hf_X5_release v r i g ∧ (hh_T nm nh nc v1) ∧ hh_F (hh_Pn r (nh r) (nc r)) v v1) := by
  refine hh_Kv_of (by decide) (Nat.le_of_ble_eq_true rfl) ?_
  intro p e s m args below meth c ls A C0 hp hl
  obtain ⟨hx, hb, hr9, hml, hown, hts, hK, hlk, hA⟩ := id C0
  have hnm := hT.1
  have hnh := hT.2.1
  have hnc := hT.2.2.1
  have hbHr := hnh r
  have hbCr := hnc r
  have hl : lv_has ls 2 [(0, .ref (ad (hh_rI r))), (1, .ref (ad (hh_gI r i g)))] := hl
  refine lv_aload_n hx hb dX5_release_0 rfl (lv_at hl 0 rfl) ?_
  refine hh_get C0 hp (C := RX5) (T := TX5) (N := 10) (ci := 5) (hh_b_r hr) (hh_E_r r) rfl hh_uX5 1 (by decide) hm_98 rfl rfl dX5_release_1 ?_
  refine lv_aload_n hx hb dX5_release_4 rfl (lv_at hl 1 rfl) ?_
  refine hh_get C0 hp (C := RX2) (T := TX2) (N := 6) (ci := 2) (hh_b_g hr hi hg) (hh_E_g r hi hg) rfl hh_uX2 1 (by decide) hm_187 rfl rfl dX5_release_5 ?_
  refine lv_dup2_11 hx hb dX5_release_8 rfl rfl ?_
  have hin_9 : vp_in (v (hh_gI r i g) 1) 6 := hh_in (hh_T_g1 hT r hi hg) hu1 (by omega) (by decide)
  refine hh_ial C0 hp (hh_b_l hr) (hh_E_l r) hin_9 rfl dX5_release_9 ?_
  refine lv_iconst (v := 1) hx hb dX5_release_10 (by decide) ?_
  refine lv_isub hx hb dX5_release_11 ?_
  have hin_12 : vp_in (v (hh_gI r i g) 1) 6 := by assumption
  refine hh_ias C0 hp (hh_b_l hr) (fun _ => (hh_E_l r)) hin_12 rfl dX5_release_12 (fun H locs hp => ?_)
  obtain ⟨v_12, ev_12⟩ : ∃ z : hh_M, z = hh_up v (hh_lI r) ((v (hh_gI r i g) 1).toNatClampNeg) ((v (hh_lI r) ((v (hh_gI r i g) 1).toNatClampNeg)) - 1) := ⟨_, rfl⟩
  rw [← ev_12] at hp
  have hTv_12 : hh_T nm nh nc v_12 := by rw [ev_12]; exact hh_T_up hT (hh_Rt_l hr)
  have hFv_12 : hh_F (hh_Pn r (nh r) (nc r)) v v_12 := by rw [ev_12]; exact hh_F_up hh_F_rf (hh_Pn_l (hh_lt hin_12))
  refine lv_aload_n hx hb dX5_release_13 rfl (lv_at hl 0 rfl) ?_
  refine hh_get C0 hp (C := RX5) (T := TX5) (N := 10) (ci := 5) (hh_b_r hr) (hh_E_r r) rfl hh_uX5 3 (by decide) hm_101 rfl rfl dX5_release_14 ?_
  refine lv_aload_n hx hb dX5_release_17 rfl (lv_at hl 1 rfl) ?_
  refine hh_get C0 hp (C := RX2) (T := TX2) (N := 6) (ci := 2) (hh_b_g hr hi hg) (hh_E_g r hi hg) rfl hh_uX2 0 (by decide) hm_186 rfl rfl dX5_release_18 ?_
  have hin_21 : vp_in (v_12 (hh_gI r i g) 0) 8 := hh_in (hh_T_g0 hTv_12 r hi hg) (by rw [ev_12, hh_upj (hh_ne_gl hr hr hi hg)]; exact hu0) (by omega) (by decide)
  refine hh_aal C0 hp (t0 := 3) (f := (hh_hI r)) (hh_b_H hr) (hh_E_H r) rfl rfl hin_21 rfl dX5_release_21 ?_
  refine lv_iconst (v := (-1)) hx hb dX5_release_22 (by decide) ?_
  refine hh_put C0 hp (C := RX1) (T := TX1) (N := 13) (ci := 1) (k := 6) (ty := .int) (hh_b_h hr (hh_lt hin_21)) (hh_E_h r (hh_lt hin_21)) (hh_ph6 r (hh_lt hin_21)) rfl hh_uX1 tyX1_ok nmX1 (by decide) hm_224 rfl rfl (by decide +kernel) rfl rfl (Nat.le_of_ble_eq_true rfl) dX5_release_23 (fun H locs hp => ?_)
  obtain ⟨v_23, ev_23⟩ : ∃ z : hh_M, z = hh_up v_12 (hh_hI r ((v_12 (hh_gI r i g) 0).toNatClampNeg)) 6 (-1) := ⟨_, rfl⟩
  rw [← ev_23] at hp
  have hTv_23 : hh_T nm nh nc v_23 := by rw [ev_23]; exact hh_T_up hTv_12 (hh_R_h6 hr (hh_lt hin_21) (hh_rg0 (by decide)))
  have hFv_23 : hh_F (hh_Pn r (nh r) (nc r)) v v_23 := by rw [ev_23]; exact hh_F_up hFv_12 (hh_Pn_h (by rw [show v_12 (hh_gI r i g) 0 = v (hh_gI r i g) 0 by rw [ev_12, hh_upj (hh_ne_gl hr hr hi hg)]]; exact hh_ltn (hh_T_g0 hT r hi hg) hu0 (by omega)) (by decide))
  exact hh_vret C0 hp dX5_release_26 ⟨(by show _ = _; unfold hf_X5_release; rw [hh_let_eq ev_12, hh_let_eq ev_23]), hTv_23, hFv_23⟩
def hf_X5_end (v : hh_M) (r : Nat) (i : Nat) (how : Int32) : hh_M := (hh_let (hh_up v (hh_cI r i) 6 how : hh_M) (fun (v_2 : hh_M) => (hh_let (hf_X2_isUsed v_2 r i 0 : Int32) (fun (q_9 : Int32) => (if q_9 = 0 then (hh_let (hf_X2_isUsed v_2 r i 1 : Int32) (fun (q_27 : Int32) => (if q_27 = 0 then v_2 else (hh_let (hf_X5_release v_2 r i 1 : hh_M) (fun (v_38 : hh_M) => v_38))))) else (hh_let (hf_X5_release v_2 r i 0 : hh_M) (fun (v_20 : hh_M) => (hh_let (hf_X2_isUsed v_20 r i 1 : Int32) (fun (q_27 : Int32) => (if q_27 = 0 then v_20 else (hh_let (hf_X5_release v_20 r i 1 : hh_M) (fun (v_38 : hh_M) => v_38))))))))))))
set_option maxHeartbeats 4000000 in
set_option maxRecDepth 100000 in
theorem hk_X5_end (l : Launch) (D : va_G) (K : Nat → ClassId) (ad : Nat → Nat) {nm : Nat} {nh nc : Nat → Nat} {v : hh_M} (hT : hh_T nm nh nc v) (r : Nat) (i : Nat) (how : Int32) (hr : r < 2) (hi : i < 24) (hic : i < nc r) : hh_Kv l D K ad yX5_end (hh_wm yX5_end cX5_end 3 none) { frames := 1, cells := 0, slots := 0, locals := 21 } [.ref (ad (hh_rI r)), .ref (ad (hh_cI r i)), .int how] v (fun (v1 : hh_M) => v1 = hf_X5_end v r i how ∧ (hh_T nm nh nc v1) ∧ hh_F (hh_Pn r (nh r) (nc r)) v v1) := by
  refine hh_Kv_of (by decide) (Nat.le_of_ble_eq_true rfl) ?_
  intro p e s m args below meth c ls A C0 hp hl
  obtain ⟨hx, hb, hr9, hml, hown, hts, hK, hlk, hA⟩ := id C0
  have hnm := hT.1
  have hnh := hT.2.1
  have hnc := hT.2.2.1
  have hbHr := hnh r
  have hbCr := hnc r
  have hl : lv_has ls 3 [(0, .ref (ad (hh_rI r))), (1, .ref (ad (hh_cI r i))), (2, .int how)] := hl
  refine lv_aload_n hx hb dX5_end_0 rfl (lv_at hl 1 rfl) ?_
  refine lv_iload_n hx hb dX5_end_1 rfl (lv_at hl 2 rfl) ?_
  refine hh_put C0 hp (C := RX0) (T := TX0) (N := 7) (ci := 0) (k := 6) (ty := .int) (hh_b_c hr hi) (hh_E_c r hi) (hh_pc6 r hi) rfl hh_uX0 tyX0_ok nmX0 (by decide) hm_185 rfl rfl (by decide +kernel) rfl rfl (Nat.le_of_ble_eq_true rfl) dX5_end_2 (fun H locs hp => ?_)
  obtain ⟨v_2, ev_2⟩ : ∃ z : hh_M, z = hh_up v (hh_cI r i) 6 how := ⟨_, rfl⟩
  rw [← ev_2] at hp
  have hTv_2 : hh_T nm nh nc v_2 := by rw [ev_2]; exact hh_T_up hT (hh_Rt_c hr hi (by decide))
  have hFv_2 : hh_F (hh_Pn r (nh r) (nc r)) v v_2 := by rw [ev_2]; exact hh_F_up hh_F_rf (hh_Pn_c (by first | assumption | omega) (by decide))
  refine lv_aload_n hx hb dX5_end_5 rfl (lv_at hl 1 rfl) ?_
  refine hh_get C0 hp (C := RX0) (T := TX0) (N := 7) (ci := 0) (hh_b_c hr hi) (hh_E_c r hi) rfl hh_uX0 0 (by decide) hm_159 rfl rfl dX5_end_6 ?_
  refine hh_cVi C0 hp (As := []) (rest := []) (C := RX2) (T := TX2) (N := 6) (ci := 2) (n := 0) (hk_X2_isUsed l D K ad hTv_2 r i 0 hr hi (by decide : 0 < 2)) rfl (hh_b_g hr hi (by decide : 0 < 2)) (hh_E_g r hi (by decide : 0 < 2)) (hh_gV hm_190 hm_191 hm_192 hm_6 hm_52) ⟨rfl, rfl⟩ (by decide +kernel) ⟨Nat.le_of_ble_eq_true rfl, Nat.le_of_ble_eq_true rfl⟩ ⟨Nat.zero_le _, Nat.zero_le _⟩ hl.1 rfl rfl (Nat.le_of_ble_eq_true rfl) dX5_end_9 (fun q_9 v_9 H locs hv_9 hp => ?_)
  obtain ⟨eq_9, hv9, hpq_9a⟩ := hv_9
  rw [hv9] at hp; clear hv9
  refine lv_if_eq (tgt := 23) hx hb dX5_end_12 (by decide) (fun c_12 => ?_) (fun c_12 => ?_)
  · refine lv_aload_n hx hb dX5_end_23 rfl (lv_at hl 1 rfl) ?_
    refine hh_get C0 hp (C := RX0) (T := TX0) (N := 7) (ci := 0) (hh_b_c hr hi) (hh_E_c r hi) rfl hh_uX0 1 (by decide) hm_160 rfl rfl dX5_end_24 ?_
    refine hh_cVi C0 hp (As := []) (rest := []) (C := RX2) (T := TX2) (N := 6) (ci := 2) (n := 0) (hk_X2_isUsed l D K ad hTv_2 r i 1 hr hi (by decide : 1 < 2)) rfl (hh_b_g hr hi (by decide : 1 < 2)) (hh_E_g r hi (by decide : 1 < 2)) (hh_gV hm_190 hm_191 hm_192 hm_6 hm_52) ⟨rfl, rfl⟩ (by decide +kernel) ⟨Nat.le_of_ble_eq_true rfl, Nat.le_of_ble_eq_true rfl⟩ ⟨Nat.zero_le _, Nat.zero_le _⟩ hl.1 rfl rfl (Nat.le_of_ble_eq_true rfl) dX5_end_27 (fun q_27 v_27 H locs hv_27 hp => ?_)
    obtain ⟨eq_27, hv9, hpq_27a⟩ := hv_27
    rw [hv9] at hp; clear hv9
    refine lv_if_eq (tgt := 41) hx hb dX5_end_30 (by decide) (fun c_30 => ?_) (fun c_30 => ?_)
    · exact hh_vret C0 hp dX5_end_41 ⟨(by show _ = _; unfold hf_X5_end; rw [hh_let_eq ev_2, hh_let_eq eq_9, if_pos c_12, hh_let_eq eq_27, if_pos c_30]), hTv_2, hFv_2⟩
    · refine lv_aload_n hx hb dX5_end_33 rfl (lv_at hl 0 rfl) ?_
      refine lv_aload_n hx hb dX5_end_34 rfl (lv_at hl 1 rfl) ?_
      refine hh_get C0 hp (C := RX0) (T := TX0) (N := 7) (ci := 0) (hh_b_c hr hi) (hh_E_c r hi) rfl hh_uX0 1 (by decide) hm_160 rfl rfl dX5_end_35 ?_
      refine hh_cVv C0 hp (As := [.ref (ad (hh_gI r i 1))]) (rest := []) (C := RX5) (T := TX5) (N := 10) (ci := 5) (n := 1) (hk_X5_release l D K ad hTv_2 r i 1 hr hi (by decide : 1 < 2) ((hpq_27a.resolve_left c_30).1) ((hpq_27a.resolve_left c_30).2)) rfl (hh_b_r hr) (hh_E_r r) (hh_gV hm_220 hm_221 hm_222 hm_128 hm_223) ⟨rfl, rfl⟩ (by decide +kernel) ⟨Nat.le_of_ble_eq_true rfl, Nat.le_of_ble_eq_true rfl⟩ ⟨Nat.zero_le _, Nat.zero_le _⟩ hl.1 rfl rfl (Nat.le_of_ble_eq_true rfl) dX5_end_38 (fun v_38 H locs hv_38 hp => ?_)
      obtain ⟨ev_38, hTv_38, hF9⟩ := hv_38
      have hFv_38 : hh_F (hh_Pn r (nh r) (nc r)) v v_38 := hh_F.tr hFv_2 (hh_F.mo hF9 (fun j k hj => by first | exact hj | (obtain ⟨rfl, hj⟩ := hj; (first | exact ⟨rfl, hj⟩ | exact Or.inl ⟨rfl, hj⟩ | exact Or.inr (Or.inl ⟨rfl, hj⟩) | exact Or.inr (Or.inr ⟨rfl, hj⟩) | exact hh_Pn_k hj | exact hh_Pn_h (by first | assumption | omega) hj | exact hh_Pn_c (by first | assumption | omega) hj | exact hh_Pn_g (by first | assumption | omega) (by decide) hj); done) | (rcases hj with ⟨rfl, hj⟩ | ⟨rfl, hj⟩ | ⟨rfl, hj⟩ <;> first | exact hh_Pn_c (by first | assumption | omega) hj | exact hh_Pn_g (by first | assumption | omega) (by decide) hj) | (have hj := hj; simp only [hh_fu_s] at hj; first | exact hj | exact Or.inl hj) | exact Or.inr hj | exact Or.inl hj | (rw [(rfl : True = True), (rfl : True = True)] at hj; exact hj)))
      clear hF9
      exact hh_vret C0 hp dX5_end_41 ⟨(by show _ = _; unfold hf_X5_end; rw [hh_let_eq ev_2, hh_let_eq eq_9, if_pos c_12, hh_let_eq eq_27, if_neg c_30, hh_let_eq ev_38]), hTv_38, hFv_38⟩
  · refine lv_aload_n hx hb dX5_end_15 rfl (lv_at hl 0 rfl) ?_
    refine lv_aload_n hx hb dX5_end_16 rfl (lv_at hl 1 rfl) ?_
    refine hh_get C0 hp (C := RX0) (T := TX0) (N := 7) (ci := 0) (hh_b_c hr hi) (hh_E_c r hi) rfl hh_uX0 0 (by decide) hm_159 rfl rfl dX5_end_17 ?_
    refine hh_cVv C0 hp (As := [.ref (ad (hh_gI r i 0))]) (rest := []) (C := RX5) (T := TX5) (N := 10) (ci := 5) (n := 1) (hk_X5_release l D K ad hTv_2 r i 0 hr hi (by decide : 0 < 2) ((hpq_9a.resolve_left c_12).1) ((hpq_9a.resolve_left c_12).2)) rfl (hh_b_r hr) (hh_E_r r) (hh_gV hm_220 hm_221 hm_222 hm_128 hm_223) ⟨rfl, rfl⟩ (by decide +kernel) ⟨Nat.le_of_ble_eq_true rfl, Nat.le_of_ble_eq_true rfl⟩ ⟨Nat.zero_le _, Nat.zero_le _⟩ hl.1 rfl rfl (Nat.le_of_ble_eq_true rfl) dX5_end_20 (fun v_20 H locs hv_20 hp => ?_)
    obtain ⟨ev_20, hTv_20, hF9⟩ := hv_20
    have hFv_20 : hh_F (hh_Pn r (nh r) (nc r)) v v_20 := hh_F.tr hFv_2 (hh_F.mo hF9 (fun j k hj => by first | exact hj | (obtain ⟨rfl, hj⟩ := hj; (first | exact ⟨rfl, hj⟩ | exact Or.inl ⟨rfl, hj⟩ | exact Or.inr (Or.inl ⟨rfl, hj⟩) | exact Or.inr (Or.inr ⟨rfl, hj⟩) | exact hh_Pn_k hj | exact hh_Pn_h (by first | assumption | omega) hj | exact hh_Pn_c (by first | assumption | omega) hj | exact hh_Pn_g (by first | assumption | omega) (by decide) hj); done) | (rcases hj with ⟨rfl, hj⟩ | ⟨rfl, hj⟩ | ⟨rfl, hj⟩ <;> first | exact hh_Pn_c (by first | assumption | omega) hj | exact hh_Pn_g (by first | assumption | omega) (by decide) hj) | (have hj := hj; simp only [hh_fu_s] at hj; first | exact hj | exact Or.inl hj) | exact Or.inr hj | exact Or.inl hj | (rw [(rfl : True = True), (rfl : True = True)] at hj; exact hj)))
    clear hF9
    refine lv_aload_n hx hb dX5_end_23 rfl (lv_at hl 1 rfl) ?_
    refine hh_get C0 hp (C := RX0) (T := TX0) (N := 7) (ci := 0) (hh_b_c hr hi) (hh_E_c r hi) rfl hh_uX0 1 (by decide) hm_160 rfl rfl dX5_end_24 ?_
    refine hh_cVi C0 hp (As := []) (rest := []) (C := RX2) (T := TX2) (N := 6) (ci := 2) (n := 0) (hk_X2_isUsed l D K ad hTv_20 r i 1 hr hi (by decide : 1 < 2)) rfl (hh_b_g hr hi (by decide : 1 < 2)) (hh_E_g r hi (by decide : 1 < 2)) (hh_gV hm_190 hm_191 hm_192 hm_6 hm_52) ⟨rfl, rfl⟩ (by decide +kernel) ⟨Nat.le_of_ble_eq_true rfl, Nat.le_of_ble_eq_true rfl⟩ ⟨Nat.zero_le _, Nat.zero_le _⟩ hl.1 rfl rfl (Nat.le_of_ble_eq_true rfl) dX5_end_27 (fun q_27 v_27 H locs hv_27 hp => ?_)
    obtain ⟨eq_27, hv9, hpq_27a⟩ := hv_27
    rw [hv9] at hp; clear hv9
    refine lv_if_eq (tgt := 41) hx hb dX5_end_30 (by decide) (fun c_30 => ?_) (fun c_30 => ?_)
    · exact hh_vret C0 hp dX5_end_41 ⟨(by show _ = _; unfold hf_X5_end; rw [hh_let_eq ev_2, hh_let_eq eq_9, if_neg c_12, hh_let_eq ev_20, hh_let_eq eq_27, if_pos c_30]), hTv_20, hFv_20⟩
    · refine lv_aload_n hx hb dX5_end_33 rfl (lv_at hl 0 rfl) ?_
      refine lv_aload_n hx hb dX5_end_34 rfl (lv_at hl 1 rfl) ?_
      refine hh_get C0 hp (C := RX0) (T := TX0) (N := 7) (ci := 0) (hh_b_c hr hi) (hh_E_c r hi) rfl hh_uX0 1 (by decide) hm_160 rfl rfl dX5_end_35 ?_
      refine hh_cVv C0 hp (As := [.ref (ad (hh_gI r i 1))]) (rest := []) (C := RX5) (T := TX5) (N := 10) (ci := 5) (n := 1) (hk_X5_release l D K ad hTv_20 r i 1 hr hi (by decide : 1 < 2) ((hpq_27a.resolve_left c_30).1) ((hpq_27a.resolve_left c_30).2)) rfl (hh_b_r hr) (hh_E_r r) (hh_gV hm_220 hm_221 hm_222 hm_128 hm_223) ⟨rfl, rfl⟩ (by decide +kernel) ⟨Nat.le_of_ble_eq_true rfl, Nat.le_of_ble_eq_true rfl⟩ ⟨Nat.zero_le _, Nat.zero_le _⟩ hl.1 rfl rfl (Nat.le_of_ble_eq_true rfl) dX5_end_38 (fun v_38 H locs hv_38 hp => ?_)
      obtain ⟨ev_38, hTv_38, hF9⟩ := hv_38
      have hFv_38 : hh_F (hh_Pn r (nh r) (nc r)) v v_38 := hh_F.tr hFv_20 (hh_F.mo hF9 (fun j k hj => by first | exact hj | (obtain ⟨rfl, hj⟩ := hj; (first | exact ⟨rfl, hj⟩ | exact Or.inl ⟨rfl, hj⟩ | exact Or.inr (Or.inl ⟨rfl, hj⟩) | exact Or.inr (Or.inr ⟨rfl, hj⟩) | exact hh_Pn_k hj | exact hh_Pn_h (by first | assumption | omega) hj | exact hh_Pn_c (by first | assumption | omega) hj | exact hh_Pn_g (by first | assumption | omega) (by decide) hj); done) | (rcases hj with ⟨rfl, hj⟩ | ⟨rfl, hj⟩ | ⟨rfl, hj⟩ <;> first | exact hh_Pn_c (by first | assumption | omega) hj | exact hh_Pn_g (by first | assumption | omega) (by decide) hj) | (have hj := hj; simp only [hh_fu_s] at hj; first | exact hj | exact Or.inl hj) | exact Or.inr hj | exact Or.inl hj | (rw [(rfl : True = True), (rfl : True = True)] at hj; exact hj)))
      clear hF9
      exact hh_vret C0 hp dX5_end_41 ⟨(by show _ = _; unfold hf_X5_end; rw [hh_let_eq ev_2, hh_let_eq eq_9, if_neg c_12, hh_let_eq ev_20, hh_let_eq eq_27, if_neg c_30, hh_let_eq ev_38]), hTv_38, hFv_38⟩
def hf_X5_price (v : hh_M) (r : Nat) (i : Nat) (i2 : Nat) : Int32 := (hh_let (hf_X2_isUsed v r i 1 : Int32) (fun (q_4 : Int32) => (if q_4 = 0 then 0 else (if (v (hh_mI ((v (hh_gI r i 0) 1).toNatClampNeg)) 5) = (v (hh_hI r i2) 0) then 1 else 3))))
set_option maxHeartbeats 4000000 in
set_option maxRecDepth 100000 in
theorem hk_X5_price (l : Launch) (D : va_G) (K : Nat → ClassId) (ad : Nat → Nat) {nm : Nat} {nh nc : Nat → Nat} {v : hh_M} (hT : hh_T nm nh nc v) (r : Nat) (i : Nat) (i2 : Nat) (hr : r < 2) (hi : i < 24) (hi2 : i2 < 8) (hu : ¬ v (hh_gI r i 0) 1 = -1) : hh_Ki l D K ad yX5_price (hh_wm yX5_price cX5_price 3 (some .int)) { frames := 1, cells := 0, slots := 0, locals := 20 } [.ref (ad (hh_rI r)), .ref (ad (hh_cI r i)), .ref (ad (hh_hI r i2))] v (fun (q : Int32) (v1 : hh_M) => q = hf_X5_price v r i i2 ∧ v1 = v) := by
  refine hh_Ki_of (by decide) (Nat.le_of_ble_eq_true rfl) ?_
  intro p e s m args below meth c ls A C0 hp hl
  obtain ⟨hx, hb, hr9, hml, hown, hts, hK, hlk, hA⟩ := id C0
  have hnm := hT.1
  have hnh := hT.2.1
  have hnc := hT.2.2.1
  have hbHr := hnh r
  have hbCr := hnc r
  have hl : lv_has ls 3 [(0, .ref (ad (hh_rI r))), (1, .ref (ad (hh_cI r i))), (2, .ref (ad (hh_hI r i2)))] := hl
  refine lv_aload_n hx hb dX5_price_0 rfl (lv_at hl 1 rfl) ?_
  refine hh_get C0 hp (C := RX0) (T := TX0) (N := 7) (ci := 0) (hh_b_c hr hi) (hh_E_c r hi) rfl hh_uX0 1 (by decide) hm_160 rfl rfl dX5_price_1 ?_
  refine hh_cVi C0 hp (As := []) (rest := []) (C := RX2) (T := TX2) (N := 6) (ci := 2) (n := 0) (hk_X2_isUsed l D K ad hT r i 1 hr hi (by decide : 1 < 2)) rfl (hh_b_g hr hi (by decide : 1 < 2)) (hh_E_g r hi (by decide : 1 < 2)) (hh_gV hm_190 hm_191 hm_192 hm_6 hm_52) ⟨rfl, rfl⟩ (by decide +kernel) ⟨Nat.le_of_ble_eq_true rfl, Nat.le_of_ble_eq_true rfl⟩ ⟨Nat.zero_le _, Nat.zero_le _⟩ hl.1 rfl rfl (Nat.le_of_ble_eq_true rfl) dX5_price_4 (fun q_4 v_4 H locs hv_4 hp => ?_)
  obtain ⟨eq_4, hv9, hpq_4a⟩ := hv_4
  rw [hv9] at hp; clear hv9
  refine lv_if_ne (tgt := 12) hx hb dX5_price_7 (by decide) (fun c_7 => ?_) (fun c_7 => ?_)
  · refine lv_aload_n hx hb dX5_price_12 rfl (lv_at hl 0 rfl) ?_
    refine hh_get C0 hp (C := RX5) (T := TX5) (N := 10) (ci := 5) (hh_b_r hr) (hh_E_r r) rfl hh_uX5 0 (by decide) hm_97 rfl rfl dX5_price_13 ?_
    refine hh_get C0 hp (C := RX4) (T := TX4) (N := 3) (ci := 4) (by decide) hh_E_1 rfl hh_uX4 0 (by decide) hm_136 rfl rfl dX5_price_16 ?_
    refine lv_aload_n hx hb dX5_price_19 rfl (lv_at hl 1 rfl) ?_
    refine hh_get C0 hp (C := RX0) (T := TX0) (N := 7) (ci := 0) (hh_b_c hr hi) (hh_E_c r hi) rfl hh_uX0 0 (by decide) hm_159 rfl rfl dX5_price_20 ?_
    refine hh_get C0 hp (C := RX2) (T := TX2) (N := 6) (ci := 2) (hh_b_g hr hi (by decide : 0 < 2)) (hh_E_g r hi (by decide : 0 < 2)) rfl hh_uX2 1 (by decide) hm_187 rfl rfl dX5_price_23 ?_
    have hin_26 : vp_in (v (hh_gI r i 0) 1) 6 := hh_in (hh_T_g1 hT r hi (by decide)) hu (by omega) (by decide)
    refine hh_aal C0 hp (t0 := 2) (f := hh_mI) (by decide) hh_E_2 rfl rfl hin_26 rfl dX5_price_26 ?_
    refine hh_get C0 hp (C := RX3) (T := TX3) (N := 7) (ci := 3) (hh_b_m (hh_lt hin_26)) (hh_E_m (hh_lt hin_26)) rfl hh_uX3 5 (by decide) hm_236 rfl rfl dX5_price_27 ?_
    refine lv_aload_n hx hb dX5_price_30 rfl (lv_at hl 2 rfl) ?_
    refine hh_get C0 hp (C := RX1) (T := TX1) (N := 13) (ci := 1) (hh_b_h hr hi2) (hh_E_h r hi2) rfl hh_uX1 0 (by decide) hm_237 rfl rfl dX5_price_31 ?_
    refine lv_icmp_ne (tgt := 41) hx hb dX5_price_34 (by decide) (fun c_34 => ?_) (fun c_34 => ?_)
    · refine lv_iconst (v := 3) hx hb dX5_price_41 (by decide) ?_
      exact hh_iret C0 hp dX5_price_42 ⟨(by unfold hf_X5_price; rw [hh_let_eq eq_4, if_neg c_7, if_neg c_34]), rfl⟩
    · refine lv_iconst (v := 1) hx hb dX5_price_37 (by decide) ?_
      refine lv_goto (tgt := 42) hx hb dX5_price_38 (by decide) ?_
      exact hh_iret C0 hp dX5_price_42 ⟨(by unfold hf_X5_price; rw [hh_let_eq eq_4, if_neg c_7, if_pos c_34]), rfl⟩
  · refine lv_iconst (v := 0) hx hb dX5_price_10 (by decide) ?_
    exact hh_iret C0 hp dX5_price_11 ⟨(by unfold hf_X5_price; rw [hh_let_eq eq_4, if_pos c_7]), rfl⟩
def hf_X5_carry (v : hh_M) (r : Nat) (i : Nat) (g : Nat) : hh_M := (hh_let (hf_X2_isUsed v r i g : Int32) (fun (q_1 : Int32) => (if q_1 = 0 then v else (hh_let (hh_up v (hh_kI r) ((v (hh_gI r i g) 1).toNatClampNeg) ((v (hh_kI r) ((v (hh_gI r i g) 1).toNatClampNeg)) + 1) : hh_M) (fun (v_19 : hh_M) => v_19)))))
set_option maxHeartbeats 4000000 in
set_option maxRecDepth 100000 in
theorem hk_X5_carry (l : Launch) (D : va_G) (K : Nat → ClassId) (ad : Nat → Nat) {nm : Nat} {nh nc : Nat → Nat} {v : hh_M} (hT : hh_T nm nh nc v) (r : Nat) (i : Nat) (g : Nat) (hr : r < 2) (hi : i < 24) (hg : g < 2) : hh_Kv l D K ad yX5_carry (hh_wm yX5_carry cX5_carry 2 none) { frames := 1, cells := 0, slots := 0, locals := 20 } [.ref (ad (hh_rI r)), .ref (ad (hh_gI r i g))] v (fun (v1 : hh_M) => v1 = hf_X5_carry v r i g ∧ (hh_T nm nh nc v1) ∧ hh_F (fun j k => j = hh_kI r ∧ k < 6) v v1) := by
  refine hh_Kv_of (by decide) (Nat.le_of_ble_eq_true rfl) ?_
  intro p e s m args below meth c ls A C0 hp hl
  obtain ⟨hx, hb, hr9, hml, hown, hts, hK, hlk, hA⟩ := id C0
  have hnm := hT.1
  have hnh := hT.2.1
  have hnc := hT.2.2.1
  have hbHr := hnh r
  have hbCr := hnc r
  have hl : lv_has ls 2 [(0, .ref (ad (hh_rI r))), (1, .ref (ad (hh_gI r i g)))] := hl
  refine lv_aload_n hx hb dX5_carry_0 rfl (lv_at hl 1 rfl) ?_
  refine hh_cVi C0 hp (As := []) (rest := []) (C := RX2) (T := TX2) (N := 6) (ci := 2) (n := 0) (hk_X2_isUsed l D K ad hT r i g hr hi hg) rfl (hh_b_g hr hi hg) (hh_E_g r hi hg) (hh_gV hm_190 hm_191 hm_192 hm_6 hm_52) ⟨rfl, rfl⟩ (by decide +kernel) ⟨Nat.le_of_ble_eq_true rfl, Nat.le_of_ble_eq_true rfl⟩ ⟨Nat.zero_le _, Nat.zero_le _⟩ hl.1 rfl rfl (Nat.le_of_ble_eq_true rfl) dX5_carry_1 (fun q_1 v_1 H locs hv_1 hp => ?_)
  obtain ⟨eq_1, hv9, hpq_1a⟩ := hv_1
  rw [hv9] at hp; clear hv9
  refine lv_if_eq (tgt := 20) hx hb dX5_carry_4 (by decide) (fun c_4 => ?_) (fun c_4 => ?_)
  · exact hh_vret C0 hp dX5_carry_20 ⟨(by show _ = _; unfold hf_X5_carry; rw [hh_let_eq eq_1, if_pos c_4]), hT, hh_F_rf⟩
  · refine lv_aload_n hx hb dX5_carry_7 rfl (lv_at hl 0 rfl) ?_
    refine hh_get C0 hp (C := RX5) (T := TX5) (N := 10) (ci := 5) (hh_b_r hr) (hh_E_r r) rfl hh_uX5 2 (by decide) hm_99 rfl rfl dX5_carry_8 ?_
    refine lv_aload_n hx hb dX5_carry_11 rfl (lv_at hl 1 rfl) ?_
    refine hh_get C0 hp (C := RX2) (T := TX2) (N := 6) (ci := 2) (hh_b_g hr hi hg) (hh_E_g r hi hg) rfl hh_uX2 1 (by decide) hm_187 rfl rfl dX5_carry_12 ?_
    refine lv_dup2_11 hx hb dX5_carry_15 rfl rfl ?_
    have hin_16 : vp_in (v (hh_gI r i g) 1) 6 := hh_in (hh_T_g1 hT r hi hg) (hpq_1a.resolve_left c_4).2 (by omega) (by decide)
    refine hh_ial C0 hp (hh_b_k hr) (hh_E_k r) hin_16 rfl dX5_carry_16 ?_
    refine lv_iconst (v := 1) hx hb dX5_carry_17 (by decide) ?_
    refine lv_iadd hx hb dX5_carry_18 ?_
    have hin_19 : vp_in (v (hh_gI r i g) 1) 6 := by assumption
    refine hh_ias C0 hp (hh_b_k hr) (fun _ => (hh_E_k r)) hin_19 rfl dX5_carry_19 (fun H locs hp => ?_)
    obtain ⟨v_19, ev_19⟩ : ∃ z : hh_M, z = hh_up v (hh_kI r) ((v (hh_gI r i g) 1).toNatClampNeg) ((v (hh_kI r) ((v (hh_gI r i g) 1).toNatClampNeg)) + 1) := ⟨_, rfl⟩
    rw [← ev_19] at hp
    have hTv_19 : hh_T nm nh nc v_19 := by rw [ev_19]; exact hh_T_up hT (hh_Rt_k hr)
    have hFv_19 : hh_F (fun j k => j = hh_kI r ∧ k < 6) v v_19 := by rw [ev_19]; exact hh_F_up hh_F_rf (by first | exact ⟨rfl, (hh_lt hin_19)⟩ | exact Or.inl ⟨rfl, by decide⟩ | exact Or.inr (Or.inl ⟨rfl, by decide⟩) | exact Or.inr (Or.inr ⟨rfl, by decide⟩))
    exact hh_vret C0 hp dX5_carry_20 ⟨(by show _ = _; unfold hf_X5_carry; rw [hh_let_eq eq_1, if_neg c_4, hh_let_eq ev_19]), hTv_19, hFv_19⟩
def hf_X5_charge (v : hh_M) (r : Nat) (i : Nat) : hh_M := (if (v (hh_cI r i) 6) = 0 then (hh_let (hf_X2_isUsed v r i 0 : Int32) (fun (q_11 : Int32) => (if q_11 = 0 then v else (hh_let (hf_X5_price v r i ((v (hh_gI r i 0) 0).toNatClampNeg) : Int32) (fun (q_34 : Int32) => (if q_34 ≤ (v (hh_hI r ((v (hh_gI r i 0) 0).toNatClampNeg)) 3) then (hh_let (hh_up v (hh_hI r ((v (hh_gI r i 0) 0).toNatClampNeg)) 3 ((v (hh_hI r ((v (hh_gI r i 0) 0).toNatClampNeg)) 3) - q_34) : hh_M) (fun (v_60 : hh_M) => (hh_let (hh_up v_60 (hh_cI r i) 3 ((v_60 (hh_cI r i) 3) + q_34) : hh_M) (fun (v_70 : hh_M) => (hh_let (hh_up v_70 (hh_cI r i) 2 ((v_70 (hh_cI r i) 2) + 1) : hh_M) (fun (v_80 : hh_M) => (hh_let (hf_X5_carry v_80 r i 0 : hh_M) (fun (v_88 : hh_M) => (hh_let (hf_X5_carry v_88 r i 1 : hh_M) (fun (v_96 : hh_M) => v_96)))))))))) else (hh_let (hf_X5_end v r i 3 : hh_M) (fun (v_49 : hh_M) => v_49)))))))) else v)
set_option maxHeartbeats 4000000 in
set_option maxRecDepth 100000 in
theorem hk_X5_charge (l : Launch) (D : va_G) (K : Nat → ClassId) (ad : Nat → Nat) {nm : Nat} {nh nc : Nat → Nat} {v : hh_M} (hT : hh_T nm nh nc v) (r : Nat) (i : Nat) (hr : r < 2) (hi : i < 24) (hic : i < nc r) : hh_Kv l D K ad yX5_charge (hh_wm yX5_charge cX5_charge 4 none) { frames := 2, cells := 0, slots := 0, locals := 43 } [.ref (ad (hh_rI r)), .ref (ad (hh_cI r i))] v (fun (v1 : hh_M) => v1 = hf_X5_charge v r i ∧ (hh_T nm nh nc v1) ∧ hh_F (hh_Pn r (nh r) (nc r)) v v1) := by
  refine hh_Kv_of (by decide) (Nat.le_of_ble_eq_true rfl) ?_
  intro p e s m args below meth c ls A C0 hp hl
  obtain ⟨hx, hb, hr9, hml, hown, hts, hK, hlk, hA⟩ := id C0
  have hnm := hT.1
  have hnh := hT.2.1
  have hnc := hT.2.2.1
  have hbHr := hnh r
  have hbCr := hnc r
  have hl : lv_has ls 4 [(0, .ref (ad (hh_rI r))), (1, .ref (ad (hh_cI r i)))] := hl
  refine lv_aload_n hx hb dX5_charge_0 rfl (lv_at hl 1 rfl) ?_
  refine hh_get C0 hp (C := RX0) (T := TX0) (N := 7) (ci := 0) (hh_b_c hr hi) (hh_E_c r hi) rfl hh_uX0 6 (by decide) hm_185 rfl rfl dX5_charge_1 ?_
  refine lv_if_ne (tgt := 17) hx hb dX5_charge_4 (by decide) (fun c_4 => ?_) (fun c_4 => ?_)
  · exact hh_vret C0 hp dX5_charge_17 ⟨(by show _ = _; unfold hf_X5_charge; rw [if_neg c_4]), hT, hh_F_rf⟩
  · refine lv_aload_n hx hb dX5_charge_7 rfl (lv_at hl 1 rfl) ?_
    refine hh_get C0 hp (C := RX0) (T := TX0) (N := 7) (ci := 0) (hh_b_c hr hi) (hh_E_c r hi) rfl hh_uX0 0 (by decide) hm_159 rfl rfl dX5_charge_8 ?_
    refine hh_cVi C0 hp (As := []) (rest := []) (C := RX2) (T := TX2) (N := 6) (ci := 2) (n := 0) (hk_X2_isUsed l D K ad hT r i 0 hr hi (by decide : 0 < 2)) rfl (hh_b_g hr hi (by decide : 0 < 2)) (hh_E_g r hi (by decide : 0 < 2)) (hh_gV hm_190 hm_191 hm_192 hm_6 hm_52) ⟨rfl, rfl⟩ (by decide +kernel) ⟨Nat.le_of_ble_eq_true rfl, Nat.le_of_ble_eq_true rfl⟩ ⟨Nat.zero_le _, Nat.zero_le _⟩ hl.1 rfl rfl (Nat.le_of_ble_eq_true rfl) dX5_charge_11 (fun q_11 v_11 H locs hv_11 hp => ?_)
    obtain ⟨eq_11, hv9, hpq_11a⟩ := hv_11
    rw [hv9] at hp; clear hv9
    refine lv_if_ne (tgt := 18) hx hb dX5_charge_14 (by decide) (fun c_14 => ?_) (fun c_14 => ?_)
    · refine lv_aload_n hx hb dX5_charge_18 rfl (lv_at hl 0 rfl) ?_
      refine hh_get C0 hp (C := RX5) (T := TX5) (N := 10) (ci := 5) (hh_b_r hr) (hh_E_r r) rfl hh_uX5 3 (by decide) hm_101 rfl rfl dX5_charge_19 ?_
      refine lv_aload_n hx hb dX5_charge_22 rfl (lv_at hl 1 rfl) ?_
      refine hh_get C0 hp (C := RX0) (T := TX0) (N := 7) (ci := 0) (hh_b_c hr hi) (hh_E_c r hi) rfl hh_uX0 0 (by decide) hm_159 rfl rfl dX5_charge_23 ?_
      refine hh_get C0 hp (C := RX2) (T := TX2) (N := 6) (ci := 2) (hh_b_g hr hi (by decide : 0 < 2)) (hh_E_g r hi (by decide : 0 < 2)) rfl hh_uX2 0 (by decide) hm_186 rfl rfl dX5_charge_26 ?_
      have hin_29 : vp_in (v (hh_gI r i 0) 0) 8 := hh_in (hh_T_g0 hT r hi (by decide)) (hpq_11a.resolve_left c_14).1 (by omega) (by decide)
      refine hh_aal C0 hp (t0 := 3) (f := (hh_hI r)) (hh_b_H hr) (hh_E_H r) rfl rfl hin_29 rfl dX5_charge_29 ?_
      refine lv_astore_n (lv' := [(2, .ref (ad (hh_hI r ((v (hh_gI r i 0) 0).toNatClampNeg)))), (0, .ref (ad (hh_rI r))), (1, .ref (ad (hh_cI r i)))]) hx hb dX5_charge_30 rfl hl (by decide) rfl (fun ls hl => ?_)
      refine lv_aload_n hx hb dX5_charge_31 rfl (lv_at hl 1 rfl) ?_
      refine lv_aload_n hx hb dX5_charge_32 rfl (lv_at hl 2 rfl) ?_
      refine lv_aload_n hx hb dX5_charge_33 rfl (lv_at hl 0 rfl) ?_
      refine hh_cVi C0 hp (As := [.ref (ad (hh_cI r i)), .ref (ad (hh_hI r ((v (hh_gI r i 0) 0).toNatClampNeg)))]) (rest := []) (C := RX5) (T := TX5) (N := 10) (ci := 5) (n := 2) (hk_X5_price l D K ad hT r i ((v (hh_gI r i 0) 0).toNatClampNeg) hr hi (hh_lt hin_29) ((hpq_11a.resolve_left c_14).2)) rfl (hh_b_r hr) (hh_E_r r) (hh_gV hm_232 hm_233 hm_234 hm_128 hm_235) ⟨rfl, rfl⟩ (by decide +kernel) ⟨Nat.le_of_ble_eq_true rfl, Nat.le_of_ble_eq_true rfl⟩ ⟨Nat.zero_le _, Nat.zero_le _⟩ hl.1 rfl rfl (Nat.le_of_ble_eq_true rfl) dX5_charge_34 (fun q_34 v_34 H locs hv_34 hp => ?_)
      obtain ⟨eq_34, hv9⟩ := hv_34
      rw [hv9] at hp; clear hv9
      refine lv_istore_n (lv' := [(3, .int q_34), (2, .ref (ad (hh_hI r ((v (hh_gI r i 0) 0).toNatClampNeg)))), (0, .ref (ad (hh_rI r))), (1, .ref (ad (hh_cI r i)))]) hx hb dX5_charge_37 rfl hl (by decide) rfl (fun ls hl => ?_)
      refine lv_aload_n hx hb dX5_charge_38 rfl (lv_at hl 1 rfl) ?_
      refine hh_get C0 hp (C := RX1) (T := TX1) (N := 13) (ci := 1) (hh_b_h hr (hh_lt hin_29)) (hh_E_h r (hh_lt hin_29)) rfl hh_uX1 3 (by decide) hm_229 rfl rfl dX5_charge_39 ?_
      refine lv_iload_n hx hb dX5_charge_42 rfl (lv_at hl 0 rfl) ?_
      refine lv_icmp_ge (tgt := 53) hx hb dX5_charge_43 (by decide) (fun c_43 => ?_) (fun c_43 => ?_)
      · refine lv_aload_n hx hb dX5_charge_53 rfl (lv_at hl 1 rfl) ?_
        refine lv_dup hx hb dX5_charge_54 rfl ?_
        refine hh_get C0 hp (C := RX1) (T := TX1) (N := 13) (ci := 1) (hh_b_h hr (hh_lt hin_29)) (hh_E_h r (hh_lt hin_29)) rfl hh_uX1 3 (by decide) hm_229 rfl rfl dX5_charge_55 ?_
        refine lv_iload_n hx hb dX5_charge_58 rfl (lv_at hl 0 rfl) ?_
        refine lv_isub hx hb dX5_charge_59 ?_
        refine hh_put C0 hp (C := RX1) (T := TX1) (N := 13) (ci := 1) (k := 3) (ty := .int) (hh_b_h hr (hh_lt hin_29)) (hh_E_h r (hh_lt hin_29)) (hh_ph3 r (hh_lt hin_29)) rfl hh_uX1 tyX1_ok nmX1 (by decide) hm_229 rfl rfl (by decide +kernel) rfl rfl (Nat.le_of_ble_eq_true rfl) dX5_charge_60 (fun H locs hp => ?_)
        obtain ⟨v_60, ev_60⟩ : ∃ z : hh_M, z = hh_up v (hh_hI r ((v (hh_gI r i 0) 0).toNatClampNeg)) 3 ((v (hh_hI r ((v (hh_gI r i 0) 0).toNatClampNeg)) 3) - q_34) := ⟨_, rfl⟩
        rw [← ev_60] at hp
        have hTv_60 : hh_T nm nh nc v_60 := by rw [ev_60]; exact hh_T_up hT (hh_Rt_h hr (hh_lt hin_29) (by decide))
        have hFv_60 : hh_F (hh_Pn r (nh r) (nc r)) v v_60 := by rw [ev_60]; exact hh_F_up hh_F_rf (hh_Pn_h (hh_ltn (hh_T_g0 hT r hi (by decide)) (hpq_11a.resolve_left c_14).1 (by omega)) (by decide))
        refine lv_aload_n hx hb dX5_charge_63 rfl (lv_at hl 3 rfl) ?_
        refine lv_dup hx hb dX5_charge_64 rfl ?_
        refine hh_get C0 hp (C := RX0) (T := TX0) (N := 7) (ci := 0) (hh_b_c hr hi) (hh_E_c r hi) rfl hh_uX0 3 (by decide) hm_230 rfl rfl dX5_charge_65 ?_
        refine lv_iload_n hx hb dX5_charge_68 rfl (lv_at hl 0 rfl) ?_
        refine lv_iadd hx hb dX5_charge_69 ?_
        refine hh_put C0 hp (C := RX0) (T := TX0) (N := 7) (ci := 0) (k := 3) (ty := .int) (hh_b_c hr hi) (hh_E_c r hi) (hh_pc3 r hi) rfl hh_uX0 tyX0_ok nmX0 (by decide) hm_230 rfl rfl (by decide +kernel) rfl rfl (Nat.le_of_ble_eq_true rfl) dX5_charge_70 (fun H locs hp => ?_)
        obtain ⟨v_70, ev_70⟩ : ∃ z : hh_M, z = hh_up v_60 (hh_cI r i) 3 ((v_60 (hh_cI r i) 3) + q_34) := ⟨_, rfl⟩
        rw [← ev_70] at hp
        have hTv_70 : hh_T nm nh nc v_70 := by rw [ev_70]; exact hh_T_up hTv_60 (hh_Rt_c hr hi (by decide))
        have hFv_70 : hh_F (hh_Pn r (nh r) (nc r)) v v_70 := by rw [ev_70]; exact hh_F_up hFv_60 (hh_Pn_c (by first | assumption | omega) (by decide))
        refine lv_aload_n hx hb dX5_charge_73 rfl (lv_at hl 3 rfl) ?_
        refine lv_dup hx hb dX5_charge_74 rfl ?_
        refine hh_get C0 hp (C := RX0) (T := TX0) (N := 7) (ci := 0) (hh_b_c hr hi) (hh_E_c r hi) rfl hh_uX0 2 (by decide) hm_231 rfl rfl dX5_charge_75 ?_
        refine lv_iconst (v := 1) hx hb dX5_charge_78 (by decide) ?_
        refine lv_iadd hx hb dX5_charge_79 ?_
        refine hh_put C0 hp (C := RX0) (T := TX0) (N := 7) (ci := 0) (k := 2) (ty := .int) (hh_b_c hr hi) (hh_E_c r hi) (hh_pc2 r hi) rfl hh_uX0 tyX0_ok nmX0 (by decide) hm_231 rfl rfl (by decide +kernel) rfl rfl (Nat.le_of_ble_eq_true rfl) dX5_charge_80 (fun H locs hp => ?_)
        obtain ⟨v_80, ev_80⟩ : ∃ z : hh_M, z = hh_up v_70 (hh_cI r i) 2 ((v_70 (hh_cI r i) 2) + 1) := ⟨_, rfl⟩
        rw [← ev_80] at hp
        have hTv_80 : hh_T nm nh nc v_80 := by rw [ev_80]; exact hh_T_up hTv_70 (hh_Rt_c hr hi (by decide))
        have hFv_80 : hh_F (hh_Pn r (nh r) (nc r)) v v_80 := by rw [ev_80]; exact hh_F_up hFv_70 (hh_Pn_c (by first | assumption | omega) (by decide))
        refine lv_aload_n hx hb dX5_charge_83 rfl (lv_at hl 2 rfl) ?_
        refine lv_aload_n hx hb dX5_charge_84 rfl (lv_at hl 3 rfl) ?_
        refine hh_get C0 hp (C := RX0) (T := TX0) (N := 7) (ci := 0) (hh_b_c hr hi) (hh_E_c r hi) rfl hh_uX0 0 (by decide) hm_159 rfl rfl dX5_charge_85 ?_
        refine hh_cVv C0 hp (As := [.ref (ad (hh_gI r i 0))]) (rest := []) (C := RX5) (T := TX5) (N := 10) (ci := 5) (n := 1) (hk_X5_carry l D K ad hTv_80 r i 0 hr hi (by decide : 0 < 2)) rfl (hh_b_r hr) (hh_E_r r) (hh_gV hm_238 hm_239 hm_240 hm_128 hm_241) ⟨rfl, rfl⟩ (by decide +kernel) ⟨Nat.le_of_ble_eq_true rfl, Nat.le_of_ble_eq_true rfl⟩ ⟨Nat.zero_le _, Nat.zero_le _⟩ hl.1 rfl rfl (Nat.le_of_ble_eq_true rfl) dX5_charge_88 (fun v_88 H locs hv_88 hp => ?_)
        obtain ⟨ev_88, hTv_88, hF9⟩ := hv_88
        have hFv_88 : hh_F (hh_Pn r (nh r) (nc r)) v v_88 := hh_F.tr hFv_80 (hh_F.mo hF9 (fun j k hj => by first | exact hj | (obtain ⟨rfl, hj⟩ := hj; (first | exact ⟨rfl, hj⟩ | exact Or.inl ⟨rfl, hj⟩ | exact Or.inr (Or.inl ⟨rfl, hj⟩) | exact Or.inr (Or.inr ⟨rfl, hj⟩) | exact hh_Pn_k hj | exact hh_Pn_h (by first | assumption | omega) hj | exact hh_Pn_c (by first | assumption | omega) hj | exact hh_Pn_g (by first | assumption | omega) (by decide) hj); done) | (rcases hj with ⟨rfl, hj⟩ | ⟨rfl, hj⟩ | ⟨rfl, hj⟩ <;> first | exact hh_Pn_c (by first | assumption | omega) hj | exact hh_Pn_g (by first | assumption | omega) (by decide) hj) | (have hj := hj; simp only [hh_fu_s] at hj; first | exact hj | exact Or.inl hj) | exact Or.inr hj | exact Or.inl hj | (rw [(rfl : True = True), (rfl : True = True)] at hj; exact hj)))
        clear hF9
        refine lv_aload_n hx hb dX5_charge_91 rfl (lv_at hl 2 rfl) ?_
        refine lv_aload_n hx hb dX5_charge_92 rfl (lv_at hl 3 rfl) ?_
        refine hh_get C0 hp (C := RX0) (T := TX0) (N := 7) (ci := 0) (hh_b_c hr hi) (hh_E_c r hi) rfl hh_uX0 1 (by decide) hm_160 rfl rfl dX5_charge_93 ?_
        refine hh_cVv C0 hp (As := [.ref (ad (hh_gI r i 1))]) (rest := []) (C := RX5) (T := TX5) (N := 10) (ci := 5) (n := 1) (hk_X5_carry l D K ad hTv_88 r i 1 hr hi (by decide : 1 < 2)) rfl (hh_b_r hr) (hh_E_r r) (hh_gV hm_238 hm_239 hm_240 hm_128 hm_241) ⟨rfl, rfl⟩ (by decide +kernel) ⟨Nat.le_of_ble_eq_true rfl, Nat.le_of_ble_eq_true rfl⟩ ⟨Nat.zero_le _, Nat.zero_le _⟩ hl.1 rfl rfl (Nat.le_of_ble_eq_true rfl) dX5_charge_96 (fun v_96 H locs hv_96 hp => ?_)
        obtain ⟨ev_96, hTv_96, hF9⟩ := hv_96
        have hFv_96 : hh_F (hh_Pn r (nh r) (nc r)) v v_96 := hh_F.tr hFv_88 (hh_F.mo hF9 (fun j k hj => by first | exact hj | (obtain ⟨rfl, hj⟩ := hj; (first | exact ⟨rfl, hj⟩ | exact Or.inl ⟨rfl, hj⟩ | exact Or.inr (Or.inl ⟨rfl, hj⟩) | exact Or.inr (Or.inr ⟨rfl, hj⟩) | exact hh_Pn_k hj | exact hh_Pn_h (by first | assumption | omega) hj | exact hh_Pn_c (by first | assumption | omega) hj | exact hh_Pn_g (by first | assumption | omega) (by decide) hj); done) | (rcases hj with ⟨rfl, hj⟩ | ⟨rfl, hj⟩ | ⟨rfl, hj⟩ <;> first | exact hh_Pn_c (by first | assumption | omega) hj | exact hh_Pn_g (by first | assumption | omega) (by decide) hj) | (have hj := hj; simp only [hh_fu_s] at hj; first | exact hj | exact Or.inl hj) | exact Or.inr hj | exact Or.inl hj | (rw [(rfl : True = True), (rfl : True = True)] at hj; exact hj)))
        clear hF9
        exact hh_vret C0 hp dX5_charge_99 ⟨(by show _ = _; unfold hf_X5_charge; rw [if_pos c_4, hh_let_eq eq_11, if_neg c_14, hh_let_eq eq_34, if_pos c_43, hh_let_eq ev_60, hh_let_eq ev_70, hh_let_eq ev_80, hh_let_eq ev_88, hh_let_eq ev_96]), hTv_96, hFv_96⟩
      · refine lv_aload_n hx hb dX5_charge_46 rfl (lv_at hl 2 rfl) ?_
        refine lv_aload_n hx hb dX5_charge_47 rfl (lv_at hl 3 rfl) ?_
        refine lv_iconst (v := 3) hx hb dX5_charge_48 (by decide) ?_
        refine hh_cVv C0 hp (As := [.ref (ad (hh_cI r i)), .int 3]) (rest := []) (C := RX5) (T := TX5) (N := 10) (ci := 5) (n := 2) (hk_X5_end l D K ad hT r i 3 hr hi (by first | assumption | omega | simp [hh_fu])) rfl (hh_b_r hr) (hh_E_r r) (hh_gV hm_216 hm_217 hm_218 hm_128 hm_219) ⟨rfl, rfl⟩ (by decide +kernel) ⟨Nat.le_of_ble_eq_true rfl, Nat.le_of_ble_eq_true rfl⟩ ⟨Nat.zero_le _, Nat.zero_le _⟩ hl.1 rfl rfl (Nat.le_of_ble_eq_true rfl) dX5_charge_49 (fun v_49 H locs hv_49 hp => ?_)
        obtain ⟨ev_49, hTv_49, hF9⟩ := hv_49
        have hFv_49 : hh_F (hh_Pn r (nh r) (nc r)) v v_49 := hh_F.tr hh_F_rf (hh_F.mo hF9 (fun j k hj => by first | exact hj | (obtain ⟨rfl, hj⟩ := hj; (first | exact ⟨rfl, hj⟩ | exact Or.inl ⟨rfl, hj⟩ | exact Or.inr (Or.inl ⟨rfl, hj⟩) | exact Or.inr (Or.inr ⟨rfl, hj⟩) | exact hh_Pn_k hj | exact hh_Pn_h (by first | assumption | omega) hj | exact hh_Pn_c (by first | assumption | omega) hj | exact hh_Pn_g (by first | assumption | omega) (by decide) hj); done) | (rcases hj with ⟨rfl, hj⟩ | ⟨rfl, hj⟩ | ⟨rfl, hj⟩ <;> first | exact hh_Pn_c (by first | assumption | omega) hj | exact hh_Pn_g (by first | assumption | omega) (by decide) hj) | (have hj := hj; simp only [hh_fu_s] at hj; first | exact hj | exact Or.inl hj) | exact Or.inr hj | exact Or.inl hj | (rw [(rfl : True = True), (rfl : True = True)] at hj; exact hj)))
        clear hF9
        exact hh_vret C0 hp dX5_charge_52 ⟨(by show _ = _; unfold hf_X5_charge; rw [if_pos c_4, hh_let_eq eq_11, if_neg c_14, hh_let_eq eq_34, if_neg c_43, hh_let_eq ev_49]), hTv_49, hFv_49⟩
    · exact hh_vret C0 hp dX5_charge_17 ⟨(by show _ = _; unfold hf_X5_charge; rw [if_pos c_4, hh_let_eq eq_11, if_pos c_14]), hT, hh_F_rf⟩
def hf_X5_deliverTexts (v : hh_M) (r : Nat) (i : Nat) : hh_M := (if (v (hh_hI r i) 5) = (-1) then v else (hh_let (hh_up v (hh_hI r i) 11 ((v (hh_hI r i) 11) + (v (hh_hI r i) 12)) : hh_M) (fun (v_18 : hh_M) => (hh_let (hh_up v_18 (hh_hI r i) 12 0 : hh_M) (fun (v_23 : hh_M) => v_23)))))
set_option maxHeartbeats 4000000 in
set_option maxRecDepth 100000 in
theorem hk_X5_deliverTexts (l : Launch) (D : va_G) (K : Nat → ClassId) (ad : Nat → Nat) {nm : Nat} {nh nc : Nat → Nat} {v : hh_M} (hT : hh_T nm nh nc v) (r : Nat) (i : Nat) (hr : r < 2) (hi : i < 8) : hh_Kv l D K ad yX5_deliverTexts (hh_wm yX5_deliverTexts cX5_deliverTexts 2 none) { frames := 0, cells := 0, slots := 0, locals := 0 } [.ref (ad (hh_rI r)), .ref (ad (hh_hI r i))] v (fun (v1 : hh_M) => v1 = hf_X5_deliverTexts v r i ∧ (hh_T nm nh nc v1) ∧ hh_F (fun j k => j = hh_hI r i ∧ k < 13) v v1) := by
  refine hh_Kv_of (by decide) (Nat.le_of_ble_eq_true rfl) ?_
  intro p e s m args below meth c ls A C0 hp hl
  obtain ⟨hx, hb, hr9, hml, hown, hts, hK, hlk, hA⟩ := id C0
  have hnm := hT.1
  have hnh := hT.2.1
  have hnc := hT.2.2.1
  have hbHr := hnh r
  have hbCr := hnc r
  have hl : lv_has ls 2 [(0, .ref (ad (hh_rI r))), (1, .ref (ad (hh_hI r i)))] := hl
  refine lv_aload_n hx hb dX5_deliverTexts_0 rfl (lv_at hl 1 rfl) ?_
  refine hh_get C0 hp (C := RX1) (T := TX1) (N := 13) (ci := 1) (hh_b_h hr hi) (hh_E_h r hi) rfl hh_uX1 5 (by decide) hm_140 rfl rfl dX5_deliverTexts_1 ?_
  refine lv_iconst (v := (-1)) hx hb dX5_deliverTexts_4 (by decide) ?_
  refine lv_icmp_eq (tgt := 26) hx hb dX5_deliverTexts_5 (by decide) (fun c_5 => ?_) (fun c_5 => ?_)
  · exact hh_vret C0 hp dX5_deliverTexts_26 ⟨(by show _ = _; unfold hf_X5_deliverTexts; rw [if_pos c_5]), hT, hh_F_rf⟩
  · refine lv_aload_n hx hb dX5_deliverTexts_8 rfl (lv_at hl 1 rfl) ?_
    refine lv_dup hx hb dX5_deliverTexts_9 rfl ?_
    refine hh_get C0 hp (C := RX1) (T := TX1) (N := 13) (ci := 1) (hh_b_h hr hi) (hh_E_h r hi) rfl hh_uX1 11 (by decide) hm_246 rfl rfl dX5_deliverTexts_10 ?_
    refine lv_aload_n hx hb dX5_deliverTexts_13 rfl (lv_at hl 1 rfl) ?_
    refine hh_get C0 hp (C := RX1) (T := TX1) (N := 13) (ci := 1) (hh_b_h hr hi) (hh_E_h r hi) rfl hh_uX1 12 (by decide) hm_247 rfl rfl dX5_deliverTexts_14 ?_
    refine lv_iadd hx hb dX5_deliverTexts_17 ?_
    refine hh_put C0 hp (C := RX1) (T := TX1) (N := 13) (ci := 1) (k := 11) (ty := .int) (hh_b_h hr hi) (hh_E_h r hi) (hh_ph11 r hi) rfl hh_uX1 tyX1_ok nmX1 (by decide) hm_246 rfl rfl (by decide +kernel) rfl rfl (Nat.le_of_ble_eq_true rfl) dX5_deliverTexts_18 (fun H locs hp => ?_)
    obtain ⟨v_18, ev_18⟩ : ∃ z : hh_M, z = hh_up v (hh_hI r i) 11 ((v (hh_hI r i) 11) + (v (hh_hI r i) 12)) := ⟨_, rfl⟩
    rw [← ev_18] at hp
    have hTv_18 : hh_T nm nh nc v_18 := by rw [ev_18]; exact hh_T_up hT (hh_Rt_h hr hi (by decide))
    have hFv_18 : hh_F (fun j k => j = hh_hI r i ∧ k < 13) v v_18 := by rw [ev_18]; exact hh_F_up hh_F_rf (by first | exact ⟨rfl, (by decide)⟩ | exact Or.inl ⟨rfl, by decide⟩ | exact Or.inr (Or.inl ⟨rfl, by decide⟩) | exact Or.inr (Or.inr ⟨rfl, by decide⟩))
    refine lv_aload_n hx hb dX5_deliverTexts_21 rfl (lv_at hl 1 rfl) ?_
    refine lv_iconst (v := 0) hx hb dX5_deliverTexts_22 (by decide) ?_
    refine hh_put C0 hp (C := RX1) (T := TX1) (N := 13) (ci := 1) (k := 12) (ty := .int) (hh_b_h hr hi) (hh_E_h r hi) (hh_ph12 r hi) rfl hh_uX1 tyX1_ok nmX1 (by decide) hm_247 rfl rfl (by decide +kernel) rfl rfl (Nat.le_of_ble_eq_true rfl) dX5_deliverTexts_23 (fun H locs hp => ?_)
    obtain ⟨v_23, ev_23⟩ : ∃ z : hh_M, z = hh_up v_18 (hh_hI r i) 12 0 := ⟨_, rfl⟩
    rw [← ev_23] at hp
    have hTv_23 : hh_T nm nh nc v_23 := by rw [ev_23]; exact hh_T_up hTv_18 (hh_Rt_h hr hi (by decide))
    have hFv_23 : hh_F (fun j k => j = hh_hI r i ∧ k < 13) v v_23 := by rw [ev_23]; exact hh_F_up hFv_18 (by first | exact ⟨rfl, (by decide)⟩ | exact Or.inl ⟨rfl, by decide⟩ | exact Or.inr (Or.inl ⟨rfl, by decide⟩) | exact Or.inr (Or.inr ⟨rfl, by decide⟩))
    exact hh_vret C0 hp dX5_deliverTexts_26 ⟨(by show _ = _; unfold hf_X5_deliverTexts; rw [if_neg c_5, hh_let_eq ev_18, hh_let_eq ev_23]), hTv_23, hFv_23⟩
def hf_X5_handOver (v : hh_M) (r : Nat) (i : Nat) (g : Nat) (mast : Int32) : hh_M := (hh_let (hh_up v (hh_cI r i) 4 ((v (hh_cI r i) 4) + 1) : hh_M) (fun (v_7 : hh_M) => (hh_let ((if (v_7 (hh_gI r i g) 4) = mast then (if 5 < ((v_7 (hh_rI r) 8) - (v_7 (hh_gI r i g) 5)) then v_7 else (hh_let (hh_up v_7 (hh_cI r i) 5 ((v_7 (hh_cI r i) 5) + 1) : hh_M) (fun (v_38 : hh_M) => v_38))) else v_7) : hh_M) (fun (vj_41 : hh_M) => (hh_let (hh_up vj_41 (hh_gI r i g) 4 (vj_41 (hh_gI r i g) 1) : hh_M) (fun (v_46 : hh_M) => (hh_let (hh_up v_46 (hh_gI r i g) 5 (v_46 (hh_rI r) 8) : hh_M) (fun (v_54 : hh_M) => (hh_let (hh_up v_54 (hh_gI r i g) 2 0 : hh_M) (fun (v_59 : hh_M) => (hh_let (hh_up v_59 (hh_lI r) ((v_59 (hh_gI r i g) 1).toNatClampNeg) ((v_59 (hh_lI r) ((v_59 (hh_gI r i g) 1).toNatClampNeg)) - 1) : hh_M) (fun (v_74 : hh_M) => (hh_let (hh_up v_74 (hh_lI r) mast.toNatClampNeg ((v_74 (hh_lI r) mast.toNatClampNeg) + 1) : hh_M) (fun (v_84 : hh_M) => (hh_let (hh_up v_84 (hh_gI r i g) 1 mast : hh_M) (fun (v_87 : hh_M) => (hh_let (hh_up v_87 (hh_hI r ((v_87 (hh_gI r i g) 0).toNatClampNeg)) 5 mast : hh_M) (fun (v_100 : hh_M) => v_100))))))))))))))))))
set_option maxHeartbeats 4000000 in
set_option maxRecDepth 100000 in
theorem hk_X5_handOver (l : Launch) (D : va_G) (K : Nat → ClassId) (ad : Nat → Nat) {nm : Nat} {nh nc : Nat → Nat} {v : hh_M} (hT : hh_T nm nh nc v) (r : Nat) (i : Nat) (g : Nat) (mast : Int32) (hr : r < 2) (hi : i < 24) (hg : g < 2) (hic : i < nc r) (hu0 : ¬ v (hh_gI r i g) 0 = -1) (hu1 : ¬ v (hh_gI r i g) 1 = -1) (hm : vp_in mast 6) (hm2 : -1 ≤ mast ∧ mast < nI nm) : hh_Kv l D K ad yX5_handOver (hh_wm yX5_handOver cX5_handOver 4 none) { frames := 0, cells := 0, slots := 0, locals := 0 } [.ref (ad (hh_rI r)), .ref (ad (hh_cI r i)), .ref (ad (hh_gI r i g)), .int mast] v (fun (v1 : hh_M) => v1 = hf_X5_handOver v r i g mast ∧ (hh_T nm nh nc v1) ∧ hh_F (hh_Pn r (nh r) (nc r)) v v1 ∧ (vp_in (v1 (hh_gI r i g) 1) 6)) := by
  refine hh_Kv_of (by decide) (Nat.le_of_ble_eq_true rfl) ?_
  intro p e s m args below meth c ls A C0 hp hl
  obtain ⟨hx, hb, hr9, hml, hown, hts, hK, hlk, hA⟩ := id C0
  have hnm := hT.1
  have hnh := hT.2.1
  have hnc := hT.2.2.1
  have hbHr := hnh r
  have hbCr := hnc r
  have hl : lv_has ls 4 [(0, .ref (ad (hh_rI r))), (1, .ref (ad (hh_cI r i))), (2, .ref (ad (hh_gI r i g))), (3, .int mast)] := hl
  refine lv_aload_n hx hb dX5_handOver_0 rfl (lv_at hl 1 rfl) ?_
  refine lv_dup hx hb dX5_handOver_1 rfl ?_
  refine hh_get C0 hp (C := RX0) (T := TX0) (N := 7) (ci := 0) (hh_b_c hr hi) (hh_E_c r hi) rfl hh_uX0 4 (by decide) hm_212 rfl rfl dX5_handOver_2 ?_
  refine lv_iconst (v := 1) hx hb dX5_handOver_5 (by decide) ?_
  refine lv_iadd hx hb dX5_handOver_6 ?_
  refine hh_put C0 hp (C := RX0) (T := TX0) (N := 7) (ci := 0) (k := 4) (ty := .int) (hh_b_c hr hi) (hh_E_c r hi) (hh_pc4 r hi) rfl hh_uX0 tyX0_ok nmX0 (by decide) hm_212 rfl rfl (by decide +kernel) rfl rfl (Nat.le_of_ble_eq_true rfl) dX5_handOver_7 (fun H locs hp => ?_)
  obtain ⟨v_7, ev_7⟩ : ∃ z : hh_M, z = hh_up v (hh_cI r i) 4 ((v (hh_cI r i) 4) + 1) := ⟨_, rfl⟩
  rw [← ev_7] at hp
  have hTv_7 : hh_T nm nh nc v_7 := by rw [ev_7]; exact hh_T_up hT (hh_Rt_c hr hi (by decide))
  have hFv_7 : hh_F (hh_Pn r (nh r) (nc r)) v v_7 := by rw [ev_7]; exact hh_F_up hh_F_rf (hh_Pn_c (by first | assumption | omega) (by decide))
  have hu1_7 : ¬ v_7 (hh_gI r i g) 1 = -1 := by rw [ev_7, hh_upj (hh_ne_gc hr hr hi hg hi)]; exact hu1
  have hu0_7 : ¬ v_7 (hh_gI r i g) 0 = -1 := by rw [ev_7, hh_upj (hh_ne_gc hr hr hi hg hi)]; exact hu0
  have hJ_41 : ∀ (vj_41 : hh_M) (H : Heap) (locs : List Loc) (ls : Array Slot), vj_41 = (if (v_7 (hh_gI r i g) 4) = mast then (if 5 < ((v_7 (hh_rI r) 8) - (v_7 (hh_gI r i g) 5)) then v_7 else (hh_let (hh_up v_7 (hh_cI r i) 5 ((v_7 (hh_cI r i) 5) + 1) : hh_M) (fun (v_38 : hh_M) => v_38))) else v_7) → hh_T nm nh nc vj_41 → hh_F (hh_Pn r (nh r) (nc r)) v vj_41 → hh_H D K ad A s.heap vj_41 H locs → lv_has ls 4 [(0, .ref (ad (hh_rI r))), (1, .ref (ad (hh_cI r i))), (2, .ref (ad (hh_gI r i g))), (3, .int mast)] → ¬ vj_41 (hh_gI r i g) 1 = -1 → ¬ vj_41 (hh_gI r i g) 0 = -1 → W p l e ({ frames := 0, cells := 0, slots := 0, locals := 0 } : Room) s m args below meth c H locs 0 0 (MQ below (va_Qv (fun (v1 : hh_M) => v1 = hf_X5_handOver v r i g mast ∧ (hh_T nm nh nc v1) ∧ hh_F (hh_Pn r (nh r) (nc r)) v v1 ∧ (vp_in (v1 (hh_gI r i g) 1) 6)) (hh_B D K ad A) A) args s 0 0 A) (F0 m 41 ls []) := by
    intro vj_41 H locs ls eJ_41 hTvj_41 hFvj_41 hp hl hu1b hu0b
    have evj_41 : vj_41 = (if (v_7 (hh_gI r i g) 4) = mast then (if 5 < ((v_7 (hh_rI r) 8) - (v_7 (hh_gI r i g) 5)) then v_7 else (hh_let (hh_up v_7 (hh_cI r i) 5 ((v_7 (hh_cI r i) 5) + 1) : hh_M) (fun (v_38 : hh_M) => v_38))) else v_7) := eJ_41
    clear eJ_41
    refine lv_aload_n hx hb dX5_handOver_41 rfl (lv_at hl 2 rfl) ?_
    refine lv_aload_n hx hb dX5_handOver_42 rfl (lv_at hl 2 rfl) ?_
    refine hh_get C0 hp (C := RX2) (T := TX2) (N := 6) (ci := 2) (hh_b_g hr hi hg) (hh_E_g r hi hg) rfl hh_uX2 1 (by decide) hm_187 rfl rfl dX5_handOver_43 ?_
    refine hh_put C0 hp (C := RX2) (T := TX2) (N := 6) (ci := 2) (k := 4) (ty := .int) (hh_b_g hr hi hg) (hh_E_g r hi hg) (hh_pg4 r hi hg) rfl hh_uX2 tyX2_ok nmX2 (by decide) hm_213 rfl rfl (by decide +kernel) rfl rfl (Nat.le_of_ble_eq_true rfl) dX5_handOver_46 (fun H locs hp => ?_)
    obtain ⟨v_46, ev_46⟩ : ∃ z : hh_M, z = hh_up vj_41 (hh_gI r i g) 4 (vj_41 (hh_gI r i g) 1) := ⟨_, rfl⟩
    rw [← ev_46] at hp
    have hTv_46 : hh_T nm nh nc v_46 := by rw [ev_46]; exact hh_T_up hTvj_41 (hh_Rt_g hr hi hg (by decide))
    have hFv_46 : hh_F (hh_Pn r (nh r) (nc r)) v v_46 := by rw [ev_46]; exact hh_F_up hFvj_41 (hh_Pn_g (by first | assumption | omega) (by first | assumption | omega) (by decide))
    refine lv_aload_n hx hb dX5_handOver_49 rfl (lv_at hl 2 rfl) ?_
    refine lv_aload_n hx hb dX5_handOver_50 rfl (lv_at hl 0 rfl) ?_
    refine hh_get C0 hp (C := RX5) (T := TX5) (N := 10) (ci := 5) (hh_b_r hr) (hh_E_r r) rfl hh_uX5 8 (by decide) hm_114 rfl rfl dX5_handOver_51 ?_
    refine hh_put C0 hp (C := RX2) (T := TX2) (N := 6) (ci := 2) (k := 5) (ty := .int) (hh_b_g hr hi hg) (hh_E_g r hi hg) (hh_pg5 r hi hg) rfl hh_uX2 tyX2_ok nmX2 (by decide) hm_214 rfl rfl (by decide +kernel) rfl rfl (Nat.le_of_ble_eq_true rfl) dX5_handOver_54 (fun H locs hp => ?_)
    obtain ⟨v_54, ev_54⟩ : ∃ z : hh_M, z = hh_up v_46 (hh_gI r i g) 5 (v_46 (hh_rI r) 8) := ⟨_, rfl⟩
    rw [← ev_54] at hp
    have hTv_54 : hh_T nm nh nc v_54 := by rw [ev_54]; exact hh_T_up hTv_46 (hh_Rt_g hr hi hg (by decide))
    have hFv_54 : hh_F (hh_Pn r (nh r) (nc r)) v v_54 := by rw [ev_54]; exact hh_F_up hFv_46 (hh_Pn_g (by first | assumption | omega) (by first | assumption | omega) (by decide))
    refine lv_aload_n hx hb dX5_handOver_57 rfl (lv_at hl 2 rfl) ?_
    refine lv_iconst (v := 0) hx hb dX5_handOver_58 (by decide) ?_
    refine hh_put C0 hp (C := RX2) (T := TX2) (N := 6) (ci := 2) (k := 2) (ty := .int) (hh_b_g hr hi hg) (hh_E_g r hi hg) (hh_pg2 r hi hg) rfl hh_uX2 tyX2_ok nmX2 (by decide) hm_188 rfl rfl (by decide +kernel) rfl rfl (Nat.le_of_ble_eq_true rfl) dX5_handOver_59 (fun H locs hp => ?_)
    obtain ⟨v_59, ev_59⟩ : ∃ z : hh_M, z = hh_up v_54 (hh_gI r i g) 2 0 := ⟨_, rfl⟩
    rw [← ev_59] at hp
    have hTv_59 : hh_T nm nh nc v_59 := by rw [ev_59]; exact hh_T_up hTv_54 (hh_Rt_g hr hi hg (by decide))
    have hFv_59 : hh_F (hh_Pn r (nh r) (nc r)) v v_59 := by rw [ev_59]; exact hh_F_up hFv_54 (hh_Pn_g (by first | assumption | omega) (by first | assumption | omega) (by decide))
    refine lv_aload_n hx hb dX5_handOver_62 rfl (lv_at hl 0 rfl) ?_
    refine hh_get C0 hp (C := RX5) (T := TX5) (N := 10) (ci := 5) (hh_b_r hr) (hh_E_r r) rfl hh_uX5 1 (by decide) hm_98 rfl rfl dX5_handOver_63 ?_
    refine lv_aload_n hx hb dX5_handOver_66 rfl (lv_at hl 2 rfl) ?_
    refine hh_get C0 hp (C := RX2) (T := TX2) (N := 6) (ci := 2) (hh_b_g hr hi hg) (hh_E_g r hi hg) rfl hh_uX2 1 (by decide) hm_187 rfl rfl dX5_handOver_67 ?_
    refine lv_dup2_11 hx hb dX5_handOver_70 rfl rfl ?_
    have hin_71 : vp_in (v_59 (hh_gI r i g) 1) 6 := hh_in (hh_T_g1 hTv_59 r hi hg) (by rw [ev_59, hh_upx (by decide : (1 : Nat) ≠ 2), ev_54, hh_upx (by decide : (1 : Nat) ≠ 5), ev_46, hh_upx (by decide : (1 : Nat) ≠ 4)]; exact hu1b) (by omega) (by decide)
    refine hh_ial C0 hp (hh_b_l hr) (hh_E_l r) hin_71 rfl dX5_handOver_71 ?_
    refine lv_iconst (v := 1) hx hb dX5_handOver_72 (by decide) ?_
    refine lv_isub hx hb dX5_handOver_73 ?_
    have hin_74 : vp_in (v_59 (hh_gI r i g) 1) 6 := by assumption
    refine hh_ias C0 hp (hh_b_l hr) (fun _ => (hh_E_l r)) hin_74 rfl dX5_handOver_74 (fun H locs hp => ?_)
    obtain ⟨v_74, ev_74⟩ : ∃ z : hh_M, z = hh_up v_59 (hh_lI r) ((v_59 (hh_gI r i g) 1).toNatClampNeg) ((v_59 (hh_lI r) ((v_59 (hh_gI r i g) 1).toNatClampNeg)) - 1) := ⟨_, rfl⟩
    rw [← ev_74] at hp
    have hTv_74 : hh_T nm nh nc v_74 := by rw [ev_74]; exact hh_T_up hTv_59 (hh_Rt_l hr)
    have hFv_74 : hh_F (hh_Pn r (nh r) (nc r)) v v_74 := by rw [ev_74]; exact hh_F_up hFv_59 (hh_Pn_l (hh_lt hin_74))
    refine lv_aload_n hx hb dX5_handOver_75 rfl (lv_at hl 0 rfl) ?_
    refine hh_get C0 hp (C := RX5) (T := TX5) (N := 10) (ci := 5) (hh_b_r hr) (hh_E_r r) rfl hh_uX5 1 (by decide) hm_98 rfl rfl dX5_handOver_76 ?_
    refine lv_iload_n hx hb dX5_handOver_79 rfl (lv_at hl 3 rfl) ?_
    refine lv_dup2_11 hx hb dX5_handOver_80 rfl rfl ?_
    have hin_81 : vp_in mast 6 := by assumption
    refine hh_ial C0 hp (hh_b_l hr) (hh_E_l r) hin_81 rfl dX5_handOver_81 ?_
    refine lv_iconst (v := 1) hx hb dX5_handOver_82 (by decide) ?_
    refine lv_iadd hx hb dX5_handOver_83 ?_
    have hin_84 : vp_in mast 6 := by assumption
    refine hh_ias C0 hp (hh_b_l hr) (fun _ => (hh_E_l r)) hin_84 rfl dX5_handOver_84 (fun H locs hp => ?_)
    obtain ⟨v_84, ev_84⟩ : ∃ z : hh_M, z = hh_up v_74 (hh_lI r) mast.toNatClampNeg ((v_74 (hh_lI r) mast.toNatClampNeg) + 1) := ⟨_, rfl⟩
    rw [← ev_84] at hp
    have hTv_84 : hh_T nm nh nc v_84 := by rw [ev_84]; exact hh_T_up hTv_74 (hh_Rt_l hr)
    have hFv_84 : hh_F (hh_Pn r (nh r) (nc r)) v v_84 := by rw [ev_84]; exact hh_F_up hFv_74 (hh_Pn_l (hh_lt hin_84))
    refine lv_aload_n hx hb dX5_handOver_85 rfl (lv_at hl 2 rfl) ?_
    refine lv_iload_n hx hb dX5_handOver_86 rfl (lv_at hl 3 rfl) ?_
    refine hh_put C0 hp (C := RX2) (T := TX2) (N := 6) (ci := 2) (k := 1) (ty := .int) (hh_b_g hr hi hg) (hh_E_g r hi hg) (hh_pg1 r hi hg) rfl hh_uX2 tyX2_ok nmX2 (by decide) hm_187 rfl rfl (by decide +kernel) rfl rfl (Nat.le_of_ble_eq_true rfl) dX5_handOver_87 (fun H locs hp => ?_)
    obtain ⟨v_87, ev_87⟩ : ∃ z : hh_M, z = hh_up v_84 (hh_gI r i g) 1 mast := ⟨_, rfl⟩
    rw [← ev_87] at hp
    have hTv_87 : hh_T nm nh nc v_87 := by rw [ev_87]; exact hh_T_up hTv_84 (hh_R_g1 hr hi hg (by assumption))
    have hFv_87 : hh_F (hh_Pn r (nh r) (nc r)) v v_87 := by rw [ev_87]; exact hh_F_up hFv_84 (hh_Pn_g (by first | assumption | omega) (by first | assumption | omega) (by decide))
    refine lv_aload_n hx hb dX5_handOver_90 rfl (lv_at hl 0 rfl) ?_
    refine hh_get C0 hp (C := RX5) (T := TX5) (N := 10) (ci := 5) (hh_b_r hr) (hh_E_r r) rfl hh_uX5 3 (by decide) hm_101 rfl rfl dX5_handOver_91 ?_
    refine lv_aload_n hx hb dX5_handOver_94 rfl (lv_at hl 2 rfl) ?_
    refine hh_get C0 hp (C := RX2) (T := TX2) (N := 6) (ci := 2) (hh_b_g hr hi hg) (hh_E_g r hi hg) rfl hh_uX2 0 (by decide) hm_186 rfl rfl dX5_handOver_95 ?_
    have hin_98 : vp_in (v_87 (hh_gI r i g) 0) 8 := hh_in (hh_T_g0 hTv_87 r hi hg) (by rw [ev_87, hh_upx (by decide : (0 : Nat) ≠ 1), ev_84, hh_upj (hh_ne_gl hr hr hi hg), ev_74, hh_upj (hh_ne_gl hr hr hi hg), ev_59, hh_upx (by decide : (0 : Nat) ≠ 2), ev_54, hh_upx (by decide : (0 : Nat) ≠ 5), ev_46, hh_upx (by decide : (0 : Nat) ≠ 4)]; exact hu0b) (by omega) (by decide)
    refine hh_aal C0 hp (t0 := 3) (f := (hh_hI r)) (hh_b_H hr) (hh_E_H r) rfl rfl hin_98 rfl dX5_handOver_98 ?_
    refine lv_iload_n hx hb dX5_handOver_99 rfl (lv_at hl 3 rfl) ?_
    refine hh_put C0 hp (C := RX1) (T := TX1) (N := 13) (ci := 1) (k := 5) (ty := .int) (hh_b_h hr (hh_lt hin_98)) (hh_E_h r (hh_lt hin_98)) (hh_ph5 r (hh_lt hin_98)) rfl hh_uX1 tyX1_ok nmX1 (by decide) hm_140 rfl rfl (by decide +kernel) rfl rfl (Nat.le_of_ble_eq_true rfl) dX5_handOver_100 (fun H locs hp => ?_)
    obtain ⟨v_100, ev_100⟩ : ∃ z : hh_M, z = hh_up v_87 (hh_hI r ((v_87 (hh_gI r i g) 0).toNatClampNeg)) 5 mast := ⟨_, rfl⟩
    rw [← ev_100] at hp
    have hTv_100 : hh_T nm nh nc v_100 := by rw [ev_100]; exact hh_T_up hTv_87 (hh_R_h5 hr (hh_lt hin_98) (by assumption))
    have hFv_100 : hh_F (hh_Pn r (nh r) (nc r)) v v_100 := by rw [ev_100]; exact hh_F_up hFv_87 (hh_Pn_h (hh_ltn (hh_T_g0 hTv_87 r hi hg) (by rw [ev_87, hh_upx (by decide : (0 : Nat) ≠ 1), ev_84, hh_upj (hh_ne_gl hr hr hi hg), ev_74, hh_upj (hh_ne_gl hr hr hi hg), ev_59, hh_upx (by decide : (0 : Nat) ≠ 2), ev_54, hh_upx (by decide : (0 : Nat) ≠ 5), ev_46, hh_upx (by decide : (0 : Nat) ≠ 4)]; exact hu0b) (by omega)) (by decide))
    exact hh_vret C0 hp dX5_handOver_103 ⟨(by show _ = _; unfold hf_X5_handOver; rw [hh_let_eq ev_7, hh_let_eq evj_41, hh_let_eq ev_46, hh_let_eq ev_54, hh_let_eq ev_59, hh_let_eq ev_74, hh_let_eq ev_84, hh_let_eq ev_87, hh_let_eq ev_100]), hTv_100, hFv_100, (by rw [ev_100, hh_upx (by decide : (1 : Nat) ≠ 5), ev_87, hh_ups]; exact hm)⟩
  refine lv_aload_n hx hb dX5_handOver_10 rfl (lv_at hl 2 rfl) ?_
  refine hh_get C0 hp (C := RX2) (T := TX2) (N := 6) (ci := 2) (hh_b_g hr hi hg) (hh_E_g r hi hg) rfl hh_uX2 4 (by decide) hm_213 rfl rfl dX5_handOver_11 ?_
  refine lv_iload_n hx hb dX5_handOver_14 rfl (lv_at hl 3 rfl) ?_
  refine lv_icmp_ne (tgt := 41) hx hb dX5_handOver_15 (by decide) (fun c_15 => ?_) (fun c_15 => ?_)
  · exact hJ_41 v_7 _ _ _ (by rw [if_neg c_15]) hTv_7 hFv_7 hp (lv_sub hl [0, 1, 2, 3] rfl) (by assumption) (by assumption)
  · refine lv_aload_n hx hb dX5_handOver_18 rfl (lv_at hl 0 rfl) ?_
    refine hh_get C0 hp (C := RX5) (T := TX5) (N := 10) (ci := 5) (hh_b_r hr) (hh_E_r r) rfl hh_uX5 8 (by decide) hm_114 rfl rfl dX5_handOver_19 ?_
    refine lv_aload_n hx hb dX5_handOver_22 rfl (lv_at hl 2 rfl) ?_
    refine hh_get C0 hp (C := RX2) (T := TX2) (N := 6) (ci := 2) (hh_b_g hr hi hg) (hh_E_g r hi hg) rfl hh_uX2 5 (by decide) hm_214 rfl rfl dX5_handOver_23 ?_
    refine lv_isub hx hb dX5_handOver_26 ?_
    refine lv_iconst (v := 5) hx hb dX5_handOver_27 (by decide) ?_
    refine lv_icmp_gt (tgt := 41) hx hb dX5_handOver_28 (by decide) (fun c_28 => ?_) (fun c_28 => ?_)
    · exact hJ_41 v_7 _ _ _ (by rw [if_pos c_15, if_pos c_28]) hTv_7 hFv_7 hp (lv_sub hl [0, 1, 2, 3] rfl) (by assumption) (by assumption)
    · refine lv_aload_n hx hb dX5_handOver_31 rfl (lv_at hl 1 rfl) ?_
      refine lv_dup hx hb dX5_handOver_32 rfl ?_
      refine hh_get C0 hp (C := RX0) (T := TX0) (N := 7) (ci := 0) (hh_b_c hr hi) (hh_E_c r hi) rfl hh_uX0 5 (by decide) hm_215 rfl rfl dX5_handOver_33 ?_
      refine lv_iconst (v := 1) hx hb dX5_handOver_36 (by decide) ?_
      refine lv_iadd hx hb dX5_handOver_37 ?_
      refine hh_put C0 hp (C := RX0) (T := TX0) (N := 7) (ci := 0) (k := 5) (ty := .int) (hh_b_c hr hi) (hh_E_c r hi) (hh_pc5 r hi) rfl hh_uX0 tyX0_ok nmX0 (by decide) hm_215 rfl rfl (by decide +kernel) rfl rfl (Nat.le_of_ble_eq_true rfl) dX5_handOver_38 (fun H locs hp => ?_)
      obtain ⟨v_38, ev_38⟩ : ∃ z : hh_M, z = hh_up v_7 (hh_cI r i) 5 ((v_7 (hh_cI r i) 5) + 1) := ⟨_, rfl⟩
      rw [← ev_38] at hp
      have hTv_38 : hh_T nm nh nc v_38 := by rw [ev_38]; exact hh_T_up hTv_7 (hh_Rt_c hr hi (by decide))
      have hFv_38 : hh_F (hh_Pn r (nh r) (nc r)) v v_38 := by rw [ev_38]; exact hh_F_up hFv_7 (hh_Pn_c (by first | assumption | omega) (by decide))
      have hu1_38 : ¬ v_38 (hh_gI r i g) 1 = -1 := by rw [ev_38, hh_upj (hh_ne_gc hr hr hi hg hi)]; exact hu1_7
      have hu0_38 : ¬ v_38 (hh_gI r i g) 0 = -1 := by rw [ev_38, hh_upj (hh_ne_gc hr hr hi hg hi)]; exact hu0_7
      exact hJ_41 v_38 _ _ _ (by rw [if_pos c_15, if_neg c_28, hh_let_eq ev_38]) hTv_38 hFv_38 hp (lv_sub hl [0, 1, 2, 3] rfl) (by assumption) (by assumption)
def hf_X5_lookAtLeg (v : hh_M) (r : Nat) (i : Nat) (g : Nat) : hh_M := (if (v (hh_cI r i) 6) = 0 then (hh_let (hf_X2_isUsed v r i g : Int32) (fun (q_8 : Int32) => (if q_8 = 0 then v else (hh_let ((v (hh_hI r ((v (hh_gI r i g) 0).toNatClampNeg)) 1) : Int32) (fun (x_27 : Int32) => (hh_let (hf_X5_candidateFor v r (v (hh_gI r i g) 1) x_27 : Int32) (fun (q_34 : Int32) => (hh_let (hf_X5_isHeard v r (v (hh_gI r i g) 1) x_27 : Int32) (fun (q_45 : Int32) => (hh_let (hf_X5_isMuchBetter v r q_34 (v (hh_gI r i g) 1) x_27 : Int32) (fun (q_59 : Int32) => (hh_let ((if q_59 = 0 then 0 else ((v (hh_gI r i g) 2) + 1)) : Int32) (fun (j75_0 : Int32) => (hh_let (hh_up v (hh_gI r i g) 2 j75_0 : hh_M) (fun (v_75 : hh_M) => (hh_let ((if q_45 = 0 then (if q_34 = (-1) then 0 else (hh_let (hf_X5_isHeard v_75 r q_34 x_27 : Int32) (fun (q_93 : Int32) => (if q_93 = 0 then 0 else 1)))) else 0) : Int32) (fun (j104_0 : Int32) => (hh_let ((if q_34 = (-1) then (if q_45 = 0 then (hh_let (hh_up v_75 (hh_gI r i g) 3 ((v_75 (hh_gI r i g) 3) + 1) : hh_M) (fun (v_148 : hh_M) => v_148)) else v_75) else (if 2 ≤ (v_75 (hh_gI r i g) 2) then (hh_let (hf_X5_handOver v_75 r i g q_34 : hh_M) (fun (v_130 : hh_M) => v_130)) else (if j104_0 = 0 then (if q_45 = 0 then (hh_let (hh_up v_75 (hh_gI r i g) 3 ((v_75 (hh_gI r i g) 3) + 1) : hh_M) (fun (v_148 : hh_M) => v_148)) else v_75) else (hh_let (hf_X5_handOver v_75 r i g q_34 : hh_M) (fun (v_130 : hh_M) => v_130))))) : hh_M) (fun (vj_151 : hh_M) => (hh_let (hf_X5_isHeard vj_151 r (vj_151 (hh_gI r i g) 1) x_27 : Int32) (fun (q_157 : Int32) => (hh_let ((if q_157 = 0 then vj_151 else (hh_let (hh_up vj_151 (hh_gI r i g) 3 0 : hh_M) (fun (v_165 : hh_M) => v_165))) : hh_M) (fun (vj_168 : hh_M) => (if (vj_168 (hh_gI r i g) 3) < 3 then vj_168 else (hh_let (hf_X5_end vj_168 r i 2 : hh_M) (fun (v_179 : hh_M) => v_179)))))))))))))))))))))))))) else v)
set_option maxHeartbeats 4000000 in
set_option maxRecDepth 100000 in
theorem hk_X5_lookAtLeg (l : Launch) (D : va_G) (K : Nat → ClassId) (ad : Nat → Nat) {nm : Nat} {nh nc : Nat → Nat} {v : hh_M} (hT : hh_T nm nh nc v) (r : Nat) (i : Nat) (g : Nat) (hr : r < 2) (hi : i < 24) (hg : g < 2) (hic : i < nc r) : hh_Kv l D K ad yX5_lookAtLeg (hh_wm yX5_lookAtLeg cX5_lookAtLeg 7 none) { frames := 2, cells := 0, slots := 0, locals := 48 } [.ref (ad (hh_rI r)), .ref (ad (hh_cI r i)), .ref (ad (hh_gI r i g))] v (fun (v1 : hh_M) => v1 = hf_X5_lookAtLeg v r i g ∧ (hh_T nm nh nc v1) ∧ hh_F (hh_Pn r (nh r) (nc r)) v v1) := by
  refine hh_Kv_of (by decide) (Nat.le_of_ble_eq_true rfl) ?_
  intro p e s m args below meth c ls A C0 hp hl
  obtain ⟨hx, hb, hr9, hml, hown, hts, hK, hlk, hA⟩ := id C0
  have hnm := hT.1
  have hnh := hT.2.1
  have hnc := hT.2.2.1
  have hbHr := hnh r
  have hbCr := hnc r
  have hl : lv_has ls 7 [(0, .ref (ad (hh_rI r))), (1, .ref (ad (hh_cI r i))), (2, .ref (ad (hh_gI r i g)))] := hl
  refine lv_aload_n hx hb dX5_lookAtLeg_0 rfl (lv_at hl 1 rfl) ?_
  refine hh_get C0 hp (C := RX0) (T := TX0) (N := 7) (ci := 0) (hh_b_c hr hi) (hh_E_c r hi) rfl hh_uX0 6 (by decide) hm_185 rfl rfl dX5_lookAtLeg_1 ?_
  refine lv_if_ne (tgt := 14) hx hb dX5_lookAtLeg_4 (by decide) (fun c_4 => ?_) (fun c_4 => ?_)
  · exact hh_vret C0 hp dX5_lookAtLeg_14 ⟨(by show _ = _; unfold hf_X5_lookAtLeg; rw [if_neg c_4]), hT, hh_F_rf⟩
  · refine lv_aload_n hx hb dX5_lookAtLeg_7 rfl (lv_at hl 2 rfl) ?_
    refine hh_cVi C0 hp (As := []) (rest := []) (C := RX2) (T := TX2) (N := 6) (ci := 2) (n := 0) (hk_X2_isUsed l D K ad hT r i g hr hi hg) rfl (hh_b_g hr hi hg) (hh_E_g r hi hg) (hh_gV hm_190 hm_191 hm_192 hm_6 hm_52) ⟨rfl, rfl⟩ (by decide +kernel) ⟨Nat.le_of_ble_eq_true rfl, Nat.le_of_ble_eq_true rfl⟩ ⟨Nat.zero_le _, Nat.zero_le _⟩ hl.1 rfl rfl (Nat.le_of_ble_eq_true rfl) dX5_lookAtLeg_8 (fun q_8 v_8 H locs hv_8 hp => ?_)
    obtain ⟨eq_8, hv9, hpq_8a⟩ := hv_8
    rw [hv9] at hp; clear hv9
    refine lv_if_ne (tgt := 15) hx hb dX5_lookAtLeg_11 (by decide) (fun c_11 => ?_) (fun c_11 => ?_)
    · have hus := hpq_8a.resolve_left c_11
      have hmi : vp_in (v (hh_gI r i g) 1) 6 := hh_in (hh_T_g1 hT r hi hg) hus.2 (by omega) (by decide)
      refine lv_aload_n hx hb dX5_lookAtLeg_15 rfl (lv_at hl 0 rfl) ?_
      refine hh_get C0 hp (C := RX5) (T := TX5) (N := 10) (ci := 5) (hh_b_r hr) (hh_E_r r) rfl hh_uX5 3 (by decide) hm_101 rfl rfl dX5_lookAtLeg_16 ?_
      refine lv_aload_n hx hb dX5_lookAtLeg_19 rfl (lv_at hl 2 rfl) ?_
      refine hh_get C0 hp (C := RX2) (T := TX2) (N := 6) (ci := 2) (hh_b_g hr hi hg) (hh_E_g r hi hg) rfl hh_uX2 0 (by decide) hm_186 rfl rfl dX5_lookAtLeg_20 ?_
      have hin_23 : vp_in (v (hh_gI r i g) 0) 8 := hh_in (hh_T_g0 hT r hi hg) hus.1 (by omega) (by decide)
      refine hh_aal C0 hp (t0 := 3) (f := (hh_hI r)) (hh_b_H hr) (hh_E_H r) rfl rfl hin_23 rfl dX5_lookAtLeg_23 ?_
      refine hh_get C0 hp (C := RX1) (T := TX1) (N := 13) (ci := 1) (hh_b_h hr (hh_lt hin_23)) (hh_E_h r (hh_lt hin_23)) rfl hh_uX1 1 (by decide) hm_171 rfl rfl dX5_lookAtLeg_24 ?_
      refine lv_topi (fun x_27 ex_27 => ?_)
      refine lv_istore_n (lv' := [(3, .int x_27), (0, .ref (ad (hh_rI r))), (1, .ref (ad (hh_cI r i))), (2, .ref (ad (hh_gI r i g)))]) hx hb dX5_lookAtLeg_27 rfl hl (by decide) rfl (fun ls hl => ?_)
      have hpl : vp_in x_27 100 := by rw [ex_27]; exact hh_in99 (hh_T_h1 hT r (hh_lt hin_23))
      refine lv_aload_n hx hb dX5_lookAtLeg_28 rfl (lv_at hl 1 rfl) ?_
      refine lv_aload_n hx hb dX5_lookAtLeg_29 rfl (lv_at hl 3 rfl) ?_
      refine hh_get C0 hp (C := RX2) (T := TX2) (N := 6) (ci := 2) (hh_b_g hr hi hg) (hh_E_g r hi hg) rfl hh_uX2 1 (by decide) hm_187 rfl rfl dX5_lookAtLeg_30 ?_
      refine lv_iload_n hx hb dX5_lookAtLeg_33 rfl (lv_at hl 0 rfl) ?_
      refine hh_cVi C0 hp (As := [.int (v (hh_gI r i g) 1), .int x_27]) (rest := []) (C := RX5) (T := TX5) (N := 10) (ci := 5) (n := 2) (hk_X5_candidateFor l D K ad hT r (v (hh_gI r i g) 1) x_27 hr (by assumption)) rfl (hh_b_r hr) (hh_E_r r) (hh_gV hm_193 hm_194 hm_195 hm_128 hm_196) ⟨rfl, rfl⟩ (by decide +kernel) ⟨Nat.le_of_ble_eq_true rfl, Nat.le_of_ble_eq_true rfl⟩ ⟨Nat.zero_le _, Nat.zero_le _⟩ hl.1 rfl rfl (Nat.le_of_ble_eq_true rfl) dX5_lookAtLeg_34 (fun q_34 v_34 H locs hv_34 hp => ?_)
      obtain ⟨eq_34, hv9, hpq_34a⟩ := hv_34
      rw [hv9] at hp; clear hv9
      refine lv_istore (lv' := [(4, .int q_34), (3, .int x_27), (0, .ref (ad (hh_rI r))), (1, .ref (ad (hh_cI r i))), (2, .ref (ad (hh_gI r i g)))]) hx hb dX5_lookAtLeg_37 hl (by decide) rfl (fun ls hl => ?_)
      refine lv_aload_n hx hb dX5_lookAtLeg_39 rfl (lv_at hl 2 rfl) ?_
      refine lv_aload_n hx hb dX5_lookAtLeg_40 rfl (lv_at hl 4 rfl) ?_
      refine hh_get C0 hp (C := RX2) (T := TX2) (N := 6) (ci := 2) (hh_b_g hr hi hg) (hh_E_g r hi hg) rfl hh_uX2 1 (by decide) hm_187 rfl rfl dX5_lookAtLeg_41 ?_
      refine lv_iload_n hx hb dX5_lookAtLeg_44 rfl (lv_at hl 1 rfl) ?_
      refine hh_cVi C0 hp (As := [.int (v (hh_gI r i g) 1), .int x_27]) (rest := []) (C := RX5) (T := TX5) (N := 10) (ci := 5) (n := 2) (hk_X5_isHeard l D K ad hT r (v (hh_gI r i g) 1) x_27 hr (by assumption) (by assumption)) rfl (hh_b_r hr) (hh_E_r r) (hh_gV hm_201 hm_202 hm_203 hm_128 hm_124) ⟨rfl, rfl⟩ (by decide +kernel) ⟨Nat.le_of_ble_eq_true rfl, Nat.le_of_ble_eq_true rfl⟩ ⟨Nat.zero_le _, Nat.zero_le _⟩ hl.1 rfl rfl (Nat.le_of_ble_eq_true rfl) dX5_lookAtLeg_45 (fun q_45 v_45 H locs hv_45 hp => ?_)
      obtain ⟨eq_45, hv9⟩ := hv_45
      rw [hv9] at hp; clear hv9
      refine lv_istore (lv' := [(5, .int q_45), (4, .int q_34), (3, .int x_27), (0, .ref (ad (hh_rI r))), (1, .ref (ad (hh_cI r i))), (2, .ref (ad (hh_gI r i g)))]) hx hb dX5_lookAtLeg_48 hl (by decide) rfl (fun ls hl => ?_)
      refine lv_aload_n hx hb dX5_lookAtLeg_50 rfl (lv_at hl 5 rfl) ?_
      refine lv_aload_n hx hb dX5_lookAtLeg_51 rfl (lv_at hl 3 rfl) ?_
      refine lv_iload hx hb dX5_lookAtLeg_52 (lv_at hl 1 rfl) ?_
      refine lv_aload_n hx hb dX5_lookAtLeg_54 rfl (lv_at hl 5 rfl) ?_
      refine hh_get C0 hp (C := RX2) (T := TX2) (N := 6) (ci := 2) (hh_b_g hr hi hg) (hh_E_g r hi hg) rfl hh_uX2 1 (by decide) hm_187 rfl rfl dX5_lookAtLeg_55 ?_
      refine lv_iload_n hx hb dX5_lookAtLeg_58 rfl (lv_at hl 2 rfl) ?_
      refine hh_cVi C0 hp (As := [.int q_34, .int (v (hh_gI r i g) 1), .int x_27]) (rest := [.ref (ad (hh_gI r i g))]) (C := RX5) (T := TX5) (N := 10) (ci := 5) (n := 3) (hk_X5_isMuchBetter l D K ad hT r q_34 (v (hh_gI r i g) 1) x_27 hr (by assumption) (by assumption) (by assumption)) rfl (hh_b_r hr) (hh_E_r r) (hh_gV hm_204 hm_205 hm_206 hm_128 hm_207) ⟨rfl, rfl⟩ (by decide +kernel) ⟨Nat.le_of_ble_eq_true rfl, Nat.le_of_ble_eq_true rfl⟩ ⟨Nat.zero_le _, Nat.zero_le _⟩ hl.1 rfl rfl (Nat.le_of_ble_eq_true rfl) dX5_lookAtLeg_59 (fun q_59 v_59 H locs hv_59 hp => ?_)
      obtain ⟨eq_59, hv9⟩ := hv_59
      rw [hv9] at hp; clear hv9
      have hJ_75 : ∀ (j75_0 : Int32) (H : Heap) (locs : List Loc) (ls : Array Slot), j75_0 = (if q_59 = 0 then 0 else ((v (hh_gI r i g) 2) + 1)) → hh_H D K ad A s.heap v H locs → lv_has ls 7 [(5, .int q_45), (4, .int q_34), (3, .int x_27), (0, .ref (ad (hh_rI r))), (1, .ref (ad (hh_cI r i))), (2, .ref (ad (hh_gI r i g)))] → W p l e ({ frames := 2, cells := 0, slots := 0, locals := 48 } : Room) s m args below meth c H locs 0 0 (MQ below (va_Qv (fun (v1 : hh_M) => v1 = hf_X5_lookAtLeg v r i g ∧ (hh_T nm nh nc v1) ∧ hh_F (hh_Pn r (nh r) (nc r)) v v1) (hh_B D K ad A) A) args s 0 0 A) (F0 m 75 ls [.int j75_0, .ref (ad (hh_gI r i g))]) := by
        intro j75_0 H locs ls eJ_75 hp hl
        have ej75_0 : j75_0 = (if q_59 = 0 then 0 else ((v (hh_gI r i g) 2) + 1)) := eJ_75
        clear eJ_75
        refine hh_put C0 hp (C := RX2) (T := TX2) (N := 6) (ci := 2) (k := 2) (ty := .int) (hh_b_g hr hi hg) (hh_E_g r hi hg) (hh_pg2 r hi hg) rfl hh_uX2 tyX2_ok nmX2 (by decide) hm_188 rfl rfl (by decide +kernel) rfl rfl (Nat.le_of_ble_eq_true rfl) dX5_lookAtLeg_75 (fun H locs hp => ?_)
        obtain ⟨v_75, ev_75⟩ : ∃ z : hh_M, z = hh_up v (hh_gI r i g) 2 j75_0 := ⟨_, rfl⟩
        rw [← ev_75] at hp
        have hTv_75 : hh_T nm nh nc v_75 := by rw [ev_75]; exact hh_T_up hT (hh_Rt_g hr hi hg (by decide))
        have hFv_75 : hh_F (hh_Pn r (nh r) (nc r)) v v_75 := by rw [ev_75]; exact hh_F_up hh_F_rf (hh_Pn_g (by first | assumption | omega) (by first | assumption | omega) (by decide))
        have hmi75 : vp_in (v_75 (hh_gI r i g) 1) 6 := by rw [ev_75, hh_upx (by decide : (1 : Nat) ≠ 2)]; exact hmi
        have hJ_104 : ∀ (j104_0 : Int32) (H : Heap) (locs : List Loc) (ls : Array Slot), j104_0 = (if q_45 = 0 then (if q_34 = (-1) then 0 else (hh_let (hf_X5_isHeard v_75 r q_34 x_27 : Int32) (fun (q_93 : Int32) => (if q_93 = 0 then 0 else 1)))) else 0) → hh_H D K ad A s.heap v_75 H locs → lv_has ls 7 [(5, .int q_45), (4, .int q_34), (3, .int x_27), (0, .ref (ad (hh_rI r))), (1, .ref (ad (hh_cI r i))), (2, .ref (ad (hh_gI r i g)))] → W p l e ({ frames := 2, cells := 0, slots := 0, locals := 48 } : Room) s m args below meth c H locs 0 0 (MQ below (va_Qv (fun (v1 : hh_M) => v1 = hf_X5_lookAtLeg v r i g ∧ (hh_T nm nh nc v1) ∧ hh_F (hh_Pn r (nh r) (nc r)) v v1) (hh_B D K ad A) A) args s 0 0 A) (F0 m 104 ls [.int j104_0]) := by
          intro j104_0 H locs ls eJ_104 hp hl
          have ej104_0 : j104_0 = (if q_45 = 0 then (if q_34 = (-1) then 0 else (hh_let (hf_X5_isHeard v_75 r q_34 x_27 : Int32) (fun (q_93 : Int32) => (if q_93 = 0 then 0 else 1)))) else 0) := eJ_104
          clear eJ_104
          refine lv_istore (lv' := [(6, .int j104_0), (5, .int q_45), (4, .int q_34), (3, .int x_27), (0, .ref (ad (hh_rI r))), (1, .ref (ad (hh_cI r i))), (2, .ref (ad (hh_gI r i g)))]) hx hb dX5_lookAtLeg_104 hl (by decide) rfl (fun ls hl => ?_)
          have hJ_151 : ∀ (vj_151 : hh_M) (H : Heap) (locs : List Loc) (ls : Array Slot), vj_151 = (if q_34 = (-1) then (if q_45 = 0 then (hh_let (hh_up v_75 (hh_gI r i g) 3 ((v_75 (hh_gI r i g) 3) + 1) : hh_M) (fun (v_148 : hh_M) => v_148)) else v_75) else (if 2 ≤ (v_75 (hh_gI r i g) 2) then (hh_let (hf_X5_handOver v_75 r i g q_34 : hh_M) (fun (v_130 : hh_M) => v_130)) else (if j104_0 = 0 then (if q_45 = 0 then (hh_let (hh_up v_75 (hh_gI r i g) 3 ((v_75 (hh_gI r i g) 3) + 1) : hh_M) (fun (v_148 : hh_M) => v_148)) else v_75) else (hh_let (hf_X5_handOver v_75 r i g q_34 : hh_M) (fun (v_130 : hh_M) => v_130))))) → hh_T nm nh nc vj_151 → hh_F (hh_Pn r (nh r) (nc r)) v vj_151 → hh_H D K ad A s.heap vj_151 H locs → lv_has ls 7 [(6, .int j104_0), (5, .int q_45), (4, .int q_34), (3, .int x_27), (0, .ref (ad (hh_rI r))), (1, .ref (ad (hh_cI r i))), (2, .ref (ad (hh_gI r i g)))] → vp_in (vj_151 (hh_gI r i g) 1) 6 → W p l e ({ frames := 2, cells := 0, slots := 0, locals := 48 } : Room) s m args below meth c H locs 0 0 (MQ below (va_Qv (fun (v1 : hh_M) => v1 = hf_X5_lookAtLeg v r i g ∧ (hh_T nm nh nc v1) ∧ hh_F (hh_Pn r (nh r) (nc r)) v v1) (hh_B D K ad A) A) args s 0 0 A) (F0 m 151 ls []) := by
            intro vj_151 H locs ls eJ_151 hTvj_151 hFvj_151 hp hl hmj
            have evj_151 : vj_151 = (if q_34 = (-1) then (if q_45 = 0 then (hh_let (hh_up v_75 (hh_gI r i g) 3 ((v_75 (hh_gI r i g) 3) + 1) : hh_M) (fun (v_148 : hh_M) => v_148)) else v_75) else (if 2 ≤ (v_75 (hh_gI r i g) 2) then (hh_let (hf_X5_handOver v_75 r i g q_34 : hh_M) (fun (v_130 : hh_M) => v_130)) else (if j104_0 = 0 then (if q_45 = 0 then (hh_let (hh_up v_75 (hh_gI r i g) 3 ((v_75 (hh_gI r i g) 3) + 1) : hh_M) (fun (v_148 : hh_M) => v_148)) else v_75) else (hh_let (hf_X5_handOver v_75 r i g q_34 : hh_M) (fun (v_130 : hh_M) => v_130))))) := eJ_151
            clear eJ_151
            refine lv_aload_n hx hb dX5_lookAtLeg_151 rfl (lv_at hl 4 rfl) ?_
            refine lv_aload_n hx hb dX5_lookAtLeg_152 rfl (lv_at hl 6 rfl) ?_
            refine hh_get C0 hp (C := RX2) (T := TX2) (N := 6) (ci := 2) (hh_b_g hr hi hg) (hh_E_g r hi hg) rfl hh_uX2 1 (by decide) hm_187 rfl rfl dX5_lookAtLeg_153 ?_
            refine lv_iload_n hx hb dX5_lookAtLeg_156 rfl (lv_at hl 3 rfl) ?_
            refine hh_cVi C0 hp (As := [.int (vj_151 (hh_gI r i g) 1), .int x_27]) (rest := []) (C := RX5) (T := TX5) (N := 10) (ci := 5) (n := 2) (hk_X5_isHeard l D K ad hTvj_151 r (vj_151 (hh_gI r i g) 1) x_27 hr (by assumption) (by assumption)) rfl (hh_b_r hr) (hh_E_r r) (hh_gV hm_201 hm_202 hm_203 hm_128 hm_124) ⟨rfl, rfl⟩ (by decide +kernel) ⟨Nat.le_of_ble_eq_true rfl, Nat.le_of_ble_eq_true rfl⟩ ⟨Nat.zero_le _, Nat.zero_le _⟩ hl.1 rfl rfl (Nat.le_of_ble_eq_true rfl) dX5_lookAtLeg_157 (fun q_157 v_157 H locs hv_157 hp => ?_)
            obtain ⟨eq_157, hv9⟩ := hv_157
            rw [hv9] at hp; clear hv9
            have hJ_168 : ∀ (vj_168 : hh_M) (H : Heap) (locs : List Loc) (ls : Array Slot), vj_168 = (if q_157 = 0 then vj_151 else (hh_let (hh_up vj_151 (hh_gI r i g) 3 0 : hh_M) (fun (v_165 : hh_M) => v_165))) → hh_T nm nh nc vj_168 → hh_F (hh_Pn r (nh r) (nc r)) v vj_168 → hh_H D K ad A s.heap vj_168 H locs → lv_has ls 7 [(6, .int j104_0), (5, .int q_45), (4, .int q_34), (3, .int x_27), (0, .ref (ad (hh_rI r))), (1, .ref (ad (hh_cI r i))), (2, .ref (ad (hh_gI r i g)))] → W p l e ({ frames := 2, cells := 0, slots := 0, locals := 48 } : Room) s m args below meth c H locs 0 0 (MQ below (va_Qv (fun (v1 : hh_M) => v1 = hf_X5_lookAtLeg v r i g ∧ (hh_T nm nh nc v1) ∧ hh_F (hh_Pn r (nh r) (nc r)) v v1) (hh_B D K ad A) A) args s 0 0 A) (F0 m 168 ls []) := by
              intro vj_168 H locs ls eJ_168 hTvj_168 hFvj_168 hp hl
              have evj_168 : vj_168 = (if q_157 = 0 then vj_151 else (hh_let (hh_up vj_151 (hh_gI r i g) 3 0 : hh_M) (fun (v_165 : hh_M) => v_165))) := eJ_168
              clear eJ_168
              refine lv_aload_n hx hb dX5_lookAtLeg_168 rfl (lv_at hl 6 rfl) ?_
              refine hh_get C0 hp (C := RX2) (T := TX2) (N := 6) (ci := 2) (hh_b_g hr hi hg) (hh_E_g r hi hg) rfl hh_uX2 3 (by decide) hm_189 rfl rfl dX5_lookAtLeg_169 ?_
              refine lv_iconst (v := 3) hx hb dX5_lookAtLeg_172 (by decide) ?_
              refine lv_icmp_lt (tgt := 182) hx hb dX5_lookAtLeg_173 (by decide) (fun c_173 => ?_) (fun c_173 => ?_)
              · exact hh_vret C0 hp dX5_lookAtLeg_182 ⟨(by show _ = _; unfold hf_X5_lookAtLeg; rw [if_pos c_4, hh_let_eq eq_8, if_neg c_11, hh_let_eq ex_27, hh_let_eq eq_34, hh_let_eq eq_45, hh_let_eq eq_59, hh_let_eq ej75_0, hh_let_eq ev_75, hh_let_eq ej104_0, hh_let_eq evj_151, hh_let_eq eq_157, hh_let_eq evj_168, if_pos c_173]), hTvj_168, hFvj_168⟩
              · refine lv_aload_n hx hb dX5_lookAtLeg_176 rfl (lv_at hl 4 rfl) ?_
                refine lv_aload_n hx hb dX5_lookAtLeg_177 rfl (lv_at hl 5 rfl) ?_
                refine lv_iconst (v := 2) hx hb dX5_lookAtLeg_178 (by decide) ?_
                refine hh_cVv C0 hp (As := [.ref (ad (hh_cI r i)), .int 2]) (rest := []) (C := RX5) (T := TX5) (N := 10) (ci := 5) (n := 2) (hk_X5_end l D K ad hTvj_168 r i 2 hr hi (by first | assumption | omega | simp [hh_fu])) rfl (hh_b_r hr) (hh_E_r r) (hh_gV hm_216 hm_217 hm_218 hm_128 hm_219) ⟨rfl, rfl⟩ (by decide +kernel) ⟨Nat.le_of_ble_eq_true rfl, Nat.le_of_ble_eq_true rfl⟩ ⟨Nat.zero_le _, Nat.zero_le _⟩ hl.1 rfl rfl (Nat.le_of_ble_eq_true rfl) dX5_lookAtLeg_179 (fun v_179 H locs hv_179 hp => ?_)
                obtain ⟨ev_179, hTv_179, hF9⟩ := hv_179
                have hFv_179 : hh_F (hh_Pn r (nh r) (nc r)) v v_179 := hh_F.tr hFvj_168 (hh_F.mo hF9 (fun j k hj => by first | exact hj | (obtain ⟨rfl, hj⟩ := hj; (first | exact ⟨rfl, hj⟩ | exact Or.inl ⟨rfl, hj⟩ | exact Or.inr (Or.inl ⟨rfl, hj⟩) | exact Or.inr (Or.inr ⟨rfl, hj⟩) | exact hh_Pn_k hj | exact hh_Pn_h (by first | assumption | omega) hj | exact hh_Pn_c (by first | assumption | omega) hj | exact hh_Pn_g (by first | assumption | omega) (by decide) hj); done) | (rcases hj with ⟨rfl, hj⟩ | ⟨rfl, hj⟩ | ⟨rfl, hj⟩ <;> first | exact hh_Pn_c (by first | assumption | omega) hj | exact hh_Pn_g (by first | assumption | omega) (by decide) hj) | (have hj := hj; simp only [hh_fu_s] at hj; first | exact hj | exact Or.inl hj) | exact Or.inr hj | exact Or.inl hj | (rw [(rfl : True = True), (rfl : True = True)] at hj; exact hj)))
                clear hF9
                exact hh_vret C0 hp dX5_lookAtLeg_182 ⟨(by show _ = _; unfold hf_X5_lookAtLeg; rw [if_pos c_4, hh_let_eq eq_8, if_neg c_11, hh_let_eq ex_27, hh_let_eq eq_34, hh_let_eq eq_45, hh_let_eq eq_59, hh_let_eq ej75_0, hh_let_eq ev_75, hh_let_eq ej104_0, hh_let_eq evj_151, hh_let_eq eq_157, hh_let_eq evj_168, if_neg c_173, hh_let_eq ev_179]), hTv_179, hFv_179⟩
            refine lv_if_eq (tgt := 168) hx hb dX5_lookAtLeg_160 (by decide) (fun c_160 => ?_) (fun c_160 => ?_)
            · exact hJ_168 vj_151 _ _ _ (by rw [if_pos c_160]) hTvj_151 hFvj_151 hp (lv_sub hl [0, 1, 2, 3, 4, 5, 6] rfl)
            · refine lv_aload_n hx hb dX5_lookAtLeg_163 rfl (lv_at hl 6 rfl) ?_
              refine lv_iconst (v := 0) hx hb dX5_lookAtLeg_164 (by decide) ?_
              refine hh_put C0 hp (C := RX2) (T := TX2) (N := 6) (ci := 2) (k := 3) (ty := .int) (hh_b_g hr hi hg) (hh_E_g r hi hg) (hh_pg3 r hi hg) rfl hh_uX2 tyX2_ok nmX2 (by decide) hm_189 rfl rfl (by decide +kernel) rfl rfl (Nat.le_of_ble_eq_true rfl) dX5_lookAtLeg_165 (fun H locs hp => ?_)
              obtain ⟨v_165, ev_165⟩ : ∃ z : hh_M, z = hh_up vj_151 (hh_gI r i g) 3 0 := ⟨_, rfl⟩
              rw [← ev_165] at hp
              have hTv_165 : hh_T nm nh nc v_165 := by rw [ev_165]; exact hh_T_up hTvj_151 (hh_Rt_g hr hi hg (by decide))
              have hFv_165 : hh_F (hh_Pn r (nh r) (nc r)) v v_165 := by rw [ev_165]; exact hh_F_up hFvj_151 (hh_Pn_g (by first | assumption | omega) (by first | assumption | omega) (by decide))
              exact hJ_168 v_165 _ _ _ (by rw [if_neg c_160, hh_let_eq ev_165]) hTv_165 hFv_165 hp (lv_sub hl [0, 1, 2, 3, 4, 5, 6] rfl)
          refine lv_iload hx hb dX5_lookAtLeg_106 (lv_at hl 2 rfl) ?_
          refine lv_iconst (v := (-1)) hx hb dX5_lookAtLeg_108 (by decide) ?_
          refine lv_icmp_eq (tgt := 136) hx hb dX5_lookAtLeg_109 (by decide) (fun c_109 => ?_) (fun c_109 => ?_)
          · refine lv_iload hx hb dX5_lookAtLeg_136 (lv_at hl 1 rfl) ?_
            refine lv_if_ne (tgt := 151) hx hb dX5_lookAtLeg_138 (by decide) (fun c_138 => ?_) (fun c_138 => ?_)
            · exact hJ_151 v_75 _ _ _ (by rw [if_pos c_109, if_neg c_138]) hTv_75 hFv_75 hp (lv_sub hl [0, 1, 2, 3, 4, 5, 6] rfl) (by assumption)
            · refine lv_aload_n hx hb dX5_lookAtLeg_141 rfl (lv_at hl 6 rfl) ?_
              refine lv_dup hx hb dX5_lookAtLeg_142 rfl ?_
              refine hh_get C0 hp (C := RX2) (T := TX2) (N := 6) (ci := 2) (hh_b_g hr hi hg) (hh_E_g r hi hg) rfl hh_uX2 3 (by decide) hm_189 rfl rfl dX5_lookAtLeg_143 ?_
              refine lv_iconst (v := 1) hx hb dX5_lookAtLeg_146 (by decide) ?_
              refine lv_iadd hx hb dX5_lookAtLeg_147 ?_
              refine hh_put C0 hp (C := RX2) (T := TX2) (N := 6) (ci := 2) (k := 3) (ty := .int) (hh_b_g hr hi hg) (hh_E_g r hi hg) (hh_pg3 r hi hg) rfl hh_uX2 tyX2_ok nmX2 (by decide) hm_189 rfl rfl (by decide +kernel) rfl rfl (Nat.le_of_ble_eq_true rfl) dX5_lookAtLeg_148 (fun H locs hp => ?_)
              obtain ⟨v_148, ev_148⟩ : ∃ z : hh_M, z = hh_up v_75 (hh_gI r i g) 3 ((v_75 (hh_gI r i g) 3) + 1) := ⟨_, rfl⟩
              rw [← ev_148] at hp
              have hTv_148 : hh_T nm nh nc v_148 := by rw [ev_148]; exact hh_T_up hTv_75 (hh_Rt_g hr hi hg (by decide))
              have hFv_148 : hh_F (hh_Pn r (nh r) (nc r)) v v_148 := by rw [ev_148]; exact hh_F_up hFv_75 (hh_Pn_g (by first | assumption | omega) (by first | assumption | omega) (by decide))
              have hmi148 : vp_in (v_148 (hh_gI r i g) 1) 6 := by rw [ev_148, hh_upx (by decide : (1 : Nat) ≠ 3)]; exact hmi75
              exact hJ_151 v_148 _ _ _ (by rw [if_pos c_109, if_pos c_138, hh_let_eq ev_148]) hTv_148 hFv_148 hp (lv_sub hl [0, 1, 2, 3, 4, 5, 6] rfl) (by assumption)
          · refine lv_aload_n hx hb dX5_lookAtLeg_112 rfl (lv_at hl 6 rfl) ?_
            refine hh_get C0 hp (C := RX2) (T := TX2) (N := 6) (ci := 2) (hh_b_g hr hi hg) (hh_E_g r hi hg) rfl hh_uX2 2 (by decide) hm_188 rfl rfl dX5_lookAtLeg_113 ?_
            refine lv_iconst (v := 2) hx hb dX5_lookAtLeg_116 (by decide) ?_
            refine lv_icmp_ge (tgt := 125) hx hb dX5_lookAtLeg_117 (by decide) (fun c_117 => ?_) (fun c_117 => ?_)
            · refine lv_aload_n hx hb dX5_lookAtLeg_125 rfl (lv_at hl 4 rfl) ?_
              refine lv_aload_n hx hb dX5_lookAtLeg_126 rfl (lv_at hl 5 rfl) ?_
              refine lv_aload_n hx hb dX5_lookAtLeg_127 rfl (lv_at hl 6 rfl) ?_
              refine lv_iload hx hb dX5_lookAtLeg_128 (lv_at hl 2 rfl) ?_
              refine hh_cVv C0 hp (As := [.ref (ad (hh_cI r i)), .ref (ad (hh_gI r i g)), .int q_34]) (rest := []) (C := RX5) (T := TX5) (N := 10) (ci := 5) (n := 3) (hk_X5_handOver l D K ad hTv_75 r i g q_34 hr hi hg (by first | assumption | omega | simp [hh_fu]) (by rw [ev_75, hh_upx (by decide : (0 : Nat) ≠ 2)]; exact hus.1) (by rw [ev_75, hh_upx (by decide : (1 : Nat) ≠ 2)]; exact hus.2) (hh_in hpq_34a c_109 (by omega) (by decide)) (by assumption)) rfl (hh_b_r hr) (hh_E_r r) (hh_gV hm_208 hm_209 hm_210 hm_128 hm_211) ⟨rfl, rfl⟩ (by decide +kernel) ⟨Nat.le_of_ble_eq_true rfl, Nat.le_of_ble_eq_true rfl⟩ ⟨Nat.zero_le _, Nat.zero_le _⟩ hl.1 rfl rfl (Nat.le_of_ble_eq_true rfl) dX5_lookAtLeg_130 (fun v_130 H locs hv_130 hp => ?_)
              obtain ⟨ev_130, hTv_130, hF9, hpv_1300⟩ := hv_130
              have hFv_130 : hh_F (hh_Pn r (nh r) (nc r)) v v_130 := hh_F.tr hFv_75 (hh_F.mo hF9 (fun j k hj => by first | exact hj | (obtain ⟨rfl, hj⟩ := hj; (first | exact ⟨rfl, hj⟩ | exact Or.inl ⟨rfl, hj⟩ | exact Or.inr (Or.inl ⟨rfl, hj⟩) | exact Or.inr (Or.inr ⟨rfl, hj⟩) | exact hh_Pn_k hj | exact hh_Pn_h (by first | assumption | omega) hj | exact hh_Pn_c (by first | assumption | omega) hj | exact hh_Pn_g (by first | assumption | omega) (by decide) hj); done) | (rcases hj with ⟨rfl, hj⟩ | ⟨rfl, hj⟩ | ⟨rfl, hj⟩ <;> first | exact hh_Pn_c (by first | assumption | omega) hj | exact hh_Pn_g (by first | assumption | omega) (by decide) hj) | (have hj := hj; simp only [hh_fu_s] at hj; first | exact hj | exact Or.inl hj) | exact Or.inr hj | exact Or.inl hj | (rw [(rfl : True = True), (rfl : True = True)] at hj; exact hj)))
              clear hF9
              refine lv_goto (tgt := 151) hx hb dX5_lookAtLeg_133 (by decide) ?_
              exact hJ_151 v_130 _ _ _ (by rw [if_neg c_109, if_pos c_117, hh_let_eq ev_130]) hTv_130 hFv_130 hp (lv_sub hl [0, 1, 2, 3, 4, 5, 6] rfl) (by assumption)
            · refine lv_iload hx hb dX5_lookAtLeg_120 (lv_at hl 0 rfl) ?_
              refine lv_if_eq (tgt := 136) hx hb dX5_lookAtLeg_122 (by decide) (fun c_122 => ?_) (fun c_122 => ?_)
              · refine lv_iload hx hb dX5_lookAtLeg_136 (lv_at hl 1 rfl) ?_
                refine lv_if_ne (tgt := 151) hx hb dX5_lookAtLeg_138 (by decide) (fun c_138 => ?_) (fun c_138 => ?_)
                · exact hJ_151 v_75 _ _ _ (by rw [if_neg c_109, if_neg c_117, if_pos c_122, if_neg c_138]) hTv_75 hFv_75 hp (lv_sub hl [0, 1, 2, 3, 4, 5, 6] rfl) (by assumption)
                · refine lv_aload_n hx hb dX5_lookAtLeg_141 rfl (lv_at hl 6 rfl) ?_
                  refine lv_dup hx hb dX5_lookAtLeg_142 rfl ?_
                  refine hh_get C0 hp (C := RX2) (T := TX2) (N := 6) (ci := 2) (hh_b_g hr hi hg) (hh_E_g r hi hg) rfl hh_uX2 3 (by decide) hm_189 rfl rfl dX5_lookAtLeg_143 ?_
                  refine lv_iconst (v := 1) hx hb dX5_lookAtLeg_146 (by decide) ?_
                  refine lv_iadd hx hb dX5_lookAtLeg_147 ?_
                  refine hh_put C0 hp (C := RX2) (T := TX2) (N := 6) (ci := 2) (k := 3) (ty := .int) (hh_b_g hr hi hg) (hh_E_g r hi hg) (hh_pg3 r hi hg) rfl hh_uX2 tyX2_ok nmX2 (by decide) hm_189 rfl rfl (by decide +kernel) rfl rfl (Nat.le_of_ble_eq_true rfl) dX5_lookAtLeg_148 (fun H locs hp => ?_)
                  obtain ⟨v_148, ev_148⟩ : ∃ z : hh_M, z = hh_up v_75 (hh_gI r i g) 3 ((v_75 (hh_gI r i g) 3) + 1) := ⟨_, rfl⟩
                  rw [← ev_148] at hp
                  have hTv_148 : hh_T nm nh nc v_148 := by rw [ev_148]; exact hh_T_up hTv_75 (hh_Rt_g hr hi hg (by decide))
                  have hFv_148 : hh_F (hh_Pn r (nh r) (nc r)) v v_148 := by rw [ev_148]; exact hh_F_up hFv_75 (hh_Pn_g (by first | assumption | omega) (by first | assumption | omega) (by decide))
                  have hmi148 : vp_in (v_148 (hh_gI r i g) 1) 6 := by rw [ev_148, hh_upx (by decide : (1 : Nat) ≠ 3)]; exact hmi75
                  exact hJ_151 v_148 _ _ _ (by rw [if_neg c_109, if_neg c_117, if_pos c_122, if_pos c_138, hh_let_eq ev_148]) hTv_148 hFv_148 hp (lv_sub hl [0, 1, 2, 3, 4, 5, 6] rfl) (by assumption)
              · refine lv_aload_n hx hb dX5_lookAtLeg_125 rfl (lv_at hl 4 rfl) ?_
                refine lv_aload_n hx hb dX5_lookAtLeg_126 rfl (lv_at hl 5 rfl) ?_
                refine lv_aload_n hx hb dX5_lookAtLeg_127 rfl (lv_at hl 6 rfl) ?_
                refine lv_iload hx hb dX5_lookAtLeg_128 (lv_at hl 2 rfl) ?_
                refine hh_cVv C0 hp (As := [.ref (ad (hh_cI r i)), .ref (ad (hh_gI r i g)), .int q_34]) (rest := []) (C := RX5) (T := TX5) (N := 10) (ci := 5) (n := 3) (hk_X5_handOver l D K ad hTv_75 r i g q_34 hr hi hg (by first | assumption | omega | simp [hh_fu]) (by rw [ev_75, hh_upx (by decide : (0 : Nat) ≠ 2)]; exact hus.1) (by rw [ev_75, hh_upx (by decide : (1 : Nat) ≠ 2)]; exact hus.2) (hh_in hpq_34a c_109 (by omega) (by decide)) (by assumption)) rfl (hh_b_r hr) (hh_E_r r) (hh_gV hm_208 hm_209 hm_210 hm_128 hm_211) ⟨rfl, rfl⟩ (by decide +kernel) ⟨Nat.le_of_ble_eq_true rfl, Nat.le_of_ble_eq_true rfl⟩ ⟨Nat.zero_le _, Nat.zero_le _⟩ hl.1 rfl rfl (Nat.le_of_ble_eq_true rfl) dX5_lookAtLeg_130 (fun v_130 H locs hv_130 hp => ?_)
                obtain ⟨ev_130, hTv_130, hF9, hpv_1300⟩ := hv_130
                have hFv_130 : hh_F (hh_Pn r (nh r) (nc r)) v v_130 := hh_F.tr hFv_75 (hh_F.mo hF9 (fun j k hj => by first | exact hj | (obtain ⟨rfl, hj⟩ := hj; (first | exact ⟨rfl, hj⟩ | exact Or.inl ⟨rfl, hj⟩ | exact Or.inr (Or.inl ⟨rfl, hj⟩) | exact Or.inr (Or.inr ⟨rfl, hj⟩) | exact hh_Pn_k hj | exact hh_Pn_h (by first | assumption | omega) hj | exact hh_Pn_c (by first | assumption | omega) hj | exact hh_Pn_g (by first | assumption | omega) (by decide) hj); done) | (rcases hj with ⟨rfl, hj⟩ | ⟨rfl, hj⟩ | ⟨rfl, hj⟩ <;> first | exact hh_Pn_c (by first | assumption | omega) hj | exact hh_Pn_g (by first | assumption | omega) (by decide) hj) | (have hj := hj; simp only [hh_fu_s] at hj; first | exact hj | exact Or.inl hj) | exact Or.inr hj | exact Or.inl hj | (rw [(rfl : True = True), (rfl : True = True)] at hj; exact hj)))
                clear hF9
                refine lv_goto (tgt := 151) hx hb dX5_lookAtLeg_133 (by decide) ?_
                exact hJ_151 v_130 _ _ _ (by rw [if_neg c_109, if_neg c_117, if_neg c_122, hh_let_eq ev_130]) hTv_130 hFv_130 hp (lv_sub hl [0, 1, 2, 3, 4, 5, 6] rfl) (by assumption)
        refine lv_iload hx hb dX5_lookAtLeg_78 (lv_at hl 0 rfl) ?_
        refine lv_if_ne (tgt := 103) hx hb dX5_lookAtLeg_80 (by decide) (fun c_80 => ?_) (fun c_80 => ?_)
        · refine lv_iconst (v := 0) hx hb dX5_lookAtLeg_103 (by decide) ?_
          exact hJ_104 0 _ _ _ (by rw [if_neg c_80]) hp (lv_sub hl [0, 1, 2, 3, 4, 5] rfl)
        · refine lv_iload hx hb dX5_lookAtLeg_83 (lv_at hl 1 rfl) ?_
          refine lv_iconst (v := (-1)) hx hb dX5_lookAtLeg_85 (by decide) ?_
          refine lv_icmp_eq (tgt := 103) hx hb dX5_lookAtLeg_86 (by decide) (fun c_86 => ?_) (fun c_86 => ?_)
          · refine lv_iconst (v := 0) hx hb dX5_lookAtLeg_103 (by decide) ?_
            exact hJ_104 0 _ _ _ (by rw [if_pos c_80, if_pos c_86]) hp (lv_sub hl [0, 1, 2, 3, 4, 5] rfl)
          · refine lv_aload_n hx hb dX5_lookAtLeg_89 rfl (lv_at hl 3 rfl) ?_
            refine lv_iload hx hb dX5_lookAtLeg_90 (lv_at hl 1 rfl) ?_
            refine lv_iload_n hx hb dX5_lookAtLeg_92 rfl (lv_at hl 2 rfl) ?_
            refine hh_cVi C0 hp (As := [.int q_34, .int x_27]) (rest := []) (C := RX5) (T := TX5) (N := 10) (ci := 5) (n := 2) (hk_X5_isHeard l D K ad hTv_75 r q_34 x_27 hr (hh_in hpq_34a c_86 (by omega) (by decide)) (by assumption)) rfl (hh_b_r hr) (hh_E_r r) (hh_gV hm_201 hm_202 hm_203 hm_128 hm_124) ⟨rfl, rfl⟩ (by decide +kernel) ⟨Nat.le_of_ble_eq_true rfl, Nat.le_of_ble_eq_true rfl⟩ ⟨Nat.zero_le _, Nat.zero_le _⟩ hl.1 rfl rfl (Nat.le_of_ble_eq_true rfl) dX5_lookAtLeg_93 (fun q_93 v_93 H locs hv_93 hp => ?_)
            obtain ⟨eq_93, hv9⟩ := hv_93
            rw [hv9] at hp; clear hv9
            refine lv_if_eq (tgt := 103) hx hb dX5_lookAtLeg_96 (by decide) (fun c_96 => ?_) (fun c_96 => ?_)
            · refine lv_iconst (v := 0) hx hb dX5_lookAtLeg_103 (by decide) ?_
              exact hJ_104 0 _ _ _ (by rw [if_pos c_80, if_neg c_86, hh_let_eq eq_93, if_pos c_96]) hp (lv_sub hl [0, 1, 2, 3, 4, 5] rfl)
            · refine lv_iconst (v := 1) hx hb dX5_lookAtLeg_99 (by decide) ?_
              refine lv_goto (tgt := 104) hx hb dX5_lookAtLeg_100 (by decide) ?_
              exact hJ_104 1 _ _ _ (by rw [if_pos c_80, if_neg c_86, hh_let_eq eq_93, if_neg c_96]) hp (lv_sub hl [0, 1, 2, 3, 4, 5] rfl)
      refine lv_if_eq (tgt := 74) hx hb dX5_lookAtLeg_62 (by decide) (fun c_62 => ?_) (fun c_62 => ?_)
      · refine lv_iconst (v := 0) hx hb dX5_lookAtLeg_74 (by decide) ?_
        exact hJ_75 0 _ _ _ (by rw [if_pos c_62]) hp (lv_sub hl [0, 1, 2, 3, 4, 5] rfl)
      · refine lv_aload_n hx hb dX5_lookAtLeg_65 rfl (lv_at hl 5 rfl) ?_
        refine hh_get C0 hp (C := RX2) (T := TX2) (N := 6) (ci := 2) (hh_b_g hr hi hg) (hh_E_g r hi hg) rfl hh_uX2 2 (by decide) hm_188 rfl rfl dX5_lookAtLeg_66 ?_
        refine lv_iconst (v := 1) hx hb dX5_lookAtLeg_69 (by decide) ?_
        refine lv_iadd hx hb dX5_lookAtLeg_70 ?_
        refine lv_goto (tgt := 75) hx hb dX5_lookAtLeg_71 (by decide) ?_
        exact hJ_75 ((v (hh_gI r i g) 2) + 1) _ _ _ (by rw [if_neg c_62]) hp (lv_sub hl [0, 1, 2, 3, 4, 5] rfl)
    · exact hh_vret C0 hp dX5_lookAtLeg_14 ⟨(by show _ = _; unfold hf_X5_lookAtLeg; rw [if_pos c_4, hh_let_eq eq_8, if_pos c_11]), hT, hh_F_rf⟩
