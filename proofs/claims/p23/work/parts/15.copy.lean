/-! 15.copy: laid by program (wip/gen/mk10.py) -/
def hf_X0_copyFrom (v : hh_M) (r : Nat) (i : Nat) (r2 : Nat) (i2 : Nat) : hh_M := (hh_let (hf_X2_copyFrom v r i 0 r2 i2 0 : hh_M) (fun (v_8 : hh_M) => (hh_let (hf_X2_copyFrom v_8 r i 1 r2 i2 1 : hh_M) (fun (v_19 : hh_M) => (hh_let (hh_up v_19 (hh_cI r i) 2 (v_19 (hh_cI r2 i2) 2) : hh_M) (fun (v_27 : hh_M) => (hh_let (hh_up v_27 (hh_cI r i) 3 (v_27 (hh_cI r2 i2) 3) : hh_M) (fun (v_35 : hh_M) => (hh_let (hh_up v_35 (hh_cI r i) 4 (v_35 (hh_cI r2 i2) 4) : hh_M) (fun (v_43 : hh_M) => (hh_let (hh_up v_43 (hh_cI r i) 5 (v_43 (hh_cI r2 i2) 5) : hh_M) (fun (v_51 : hh_M) => (hh_let (hh_up v_51 (hh_cI r i) 6 (v_51 (hh_cI r2 i2) 6) : hh_M) (fun (v_59 : hh_M) => v_59))))))))))))))
set_option maxHeartbeats 4000000 in
set_option maxRecDepth 100000 in
theorem hk_X0_copyFrom (l : Launch) (D : va_G) (K : Nat → ClassId) (ad : Nat → Nat) {nm : Nat} {nh nc : Nat → Nat} {v : hh_M} (hT : hh_T nm nh nc v) (r : Nat) (i : Nat) (r2 : Nat) (i2 : Nat) (hr : r < 2) (hi : i < 24) (hr2 : r2 < 2) (hi2 : i2 < 24) (hn : nh r2 ≤ nh r) : hh_Kv l D K ad yX0_copyFrom (hh_wm yX0_copyFrom cX0_copyFrom 2 none) { frames := 1, cells := 0, slots := 0, locals := 21 } [.ref (ad (hh_cI r i)), .ref (ad (hh_cI r2 i2))] v (fun (v1 : hh_M) => v1 = hf_X0_copyFrom v r i r2 i2 ∧ (hh_T nm nh nc v1) ∧ hh_F (fun j k => (j = hh_cI r i ∧ 2 ≤ k ∧ k < 7) ∨ (j = hh_gI r i 0 ∧ k < 6) ∨ (j = hh_gI r i 1 ∧ k < 6)) v v1) := by
  refine hh_Kv_of (by decide) (Nat.le_of_ble_eq_true rfl) ?_
  intro p e s m args below meth c ls A C0 hp hl
  obtain ⟨hx, hb, hr9, hml, hown, hts, hK, hlk, hA⟩ := id C0
  have hnm := hT.1
  have hnh := hT.2.1
  have hnc := hT.2.2.1
  have hbHr := hnh r
  have hbCr := hnc r
  have hbHr2 := hnh r2
  have hbCr2 := hnc r2
  have hl : lv_has ls 2 [(0, .ref (ad (hh_cI r i))), (1, .ref (ad (hh_cI r2 i2)))] := hl
  refine lv_aload_n hx hb dX0_copyFrom_0 rfl (lv_at hl 0 rfl) ?_
  refine hh_get C0 hp (C := RX0) (T := TX0) (N := 7) (ci := 0) (hh_b_c hr hi) (hh_E_c r hi) rfl hh_uX0 0 (by decide) hm_7 rfl rfl dX0_copyFrom_1 ?_
  refine lv_aload_n hx hb dX0_copyFrom_4 rfl (lv_at hl 1 rfl) ?_
  refine hh_get C0 hp (C := RX0) (T := TX0) (N := 7) (ci := 0) (hh_b_c hr2 hi2) (hh_E_c r2 hi2) rfl hh_uX0 0 (by decide) hm_7 rfl rfl dX0_copyFrom_5 ?_
  refine hh_cVv C0 hp (As := [.ref (ad (hh_gI r2 i2 0))]) (rest := []) (C := RX2) (T := TX2) (N := 6) (ci := 2) (n := 1) (hk_X2_copyFrom l D K ad hT r i 0 r2 i2 0 hr hi (by decide : 0 < 2) hr2 hi2 (by decide : 0 < 2) (by assumption)) rfl (hh_b_g hr hi (by decide : 0 < 2)) (hh_E_g r hi (by decide : 0 < 2)) (hh_gV hm_23 hm_24 hm_25 hm_6 hm_26) ⟨rfl, rfl⟩ (by decide +kernel) ⟨Nat.le_of_ble_eq_true rfl, Nat.le_of_ble_eq_true rfl⟩ ⟨Nat.zero_le _, Nat.zero_le _⟩ hl.1 rfl rfl (Nat.le_of_ble_eq_true rfl) dX0_copyFrom_8 (fun v_8 H locs hv_8 hp => ?_)
  obtain ⟨ev_8, hTv_8, hF9⟩ := hv_8
  have hFv_8 : hh_F (fun j k => (j = hh_cI r i ∧ 2 ≤ k ∧ k < 7) ∨ (j = hh_gI r i 0 ∧ k < 6) ∨ (j = hh_gI r i 1 ∧ k < 6)) v v_8 := hh_F.tr hh_F_rf (hh_F.mo hF9 (fun j k hj => by first | exact hj | (obtain ⟨rfl, hj⟩ := hj; (first | exact ⟨rfl, hj⟩ | exact Or.inl ⟨rfl, hj⟩ | exact Or.inr (Or.inl ⟨rfl, hj⟩) | exact Or.inr (Or.inr ⟨rfl, hj⟩) | exact hh_Pn_k hj | exact hh_Pn_h (by first | assumption | omega) hj | exact hh_Pn_c (by first | assumption | omega) hj | exact hh_Pn_g (by first | assumption | omega) (by decide) hj); done) | (rcases hj with ⟨rfl, hj⟩ | ⟨rfl, hj⟩ | ⟨rfl, hj⟩ <;> first | exact hh_Pn_c (by first | assumption | omega) hj | exact hh_Pn_g (by first | assumption | omega) (by decide) hj) | (have hj := hj; simp only [hh_fu_s] at hj; first | exact hj | exact Or.inl hj) | exact Or.inr hj | exact Or.inl hj | (rw [(rfl : True = True), (rfl : True = True)] at hj; exact hj)))
  clear hF9
  refine lv_aload_n hx hb dX0_copyFrom_11 rfl (lv_at hl 0 rfl) ?_
  refine hh_get C0 hp (C := RX0) (T := TX0) (N := 7) (ci := 0) (hh_b_c hr hi) (hh_E_c r hi) rfl hh_uX0 1 (by decide) hm_8 rfl rfl dX0_copyFrom_12 ?_
  refine lv_aload_n hx hb dX0_copyFrom_15 rfl (lv_at hl 1 rfl) ?_
  refine hh_get C0 hp (C := RX0) (T := TX0) (N := 7) (ci := 0) (hh_b_c hr2 hi2) (hh_E_c r2 hi2) rfl hh_uX0 1 (by decide) hm_8 rfl rfl dX0_copyFrom_16 ?_
  refine hh_cVv C0 hp (As := [.ref (ad (hh_gI r2 i2 1))]) (rest := []) (C := RX2) (T := TX2) (N := 6) (ci := 2) (n := 1) (hk_X2_copyFrom l D K ad hTv_8 r i 1 r2 i2 1 hr hi (by decide : 1 < 2) hr2 hi2 (by decide : 1 < 2) (by assumption)) rfl (hh_b_g hr hi (by decide : 1 < 2)) (hh_E_g r hi (by decide : 1 < 2)) (hh_gV hm_23 hm_24 hm_25 hm_6 hm_26) ⟨rfl, rfl⟩ (by decide +kernel) ⟨Nat.le_of_ble_eq_true rfl, Nat.le_of_ble_eq_true rfl⟩ ⟨Nat.zero_le _, Nat.zero_le _⟩ hl.1 rfl rfl (Nat.le_of_ble_eq_true rfl) dX0_copyFrom_19 (fun v_19 H locs hv_19 hp => ?_)
  obtain ⟨ev_19, hTv_19, hF9⟩ := hv_19
  have hFv_19 : hh_F (fun j k => (j = hh_cI r i ∧ 2 ≤ k ∧ k < 7) ∨ (j = hh_gI r i 0 ∧ k < 6) ∨ (j = hh_gI r i 1 ∧ k < 6)) v v_19 := hh_F.tr hFv_8 (hh_F.mo hF9 (fun j k hj => by first | exact hj | (obtain ⟨rfl, hj⟩ := hj; (first | exact ⟨rfl, hj⟩ | exact Or.inl ⟨rfl, hj⟩ | exact Or.inr (Or.inl ⟨rfl, hj⟩) | exact Or.inr (Or.inr ⟨rfl, hj⟩) | exact hh_Pn_k hj | exact hh_Pn_h (by first | assumption | omega) hj | exact hh_Pn_c (by first | assumption | omega) hj | exact hh_Pn_g (by first | assumption | omega) (by decide) hj); done) | (rcases hj with ⟨rfl, hj⟩ | ⟨rfl, hj⟩ | ⟨rfl, hj⟩ <;> first | exact hh_Pn_c (by first | assumption | omega) hj | exact hh_Pn_g (by first | assumption | omega) (by decide) hj) | (have hj := hj; simp only [hh_fu_s] at hj; first | exact hj | exact Or.inl hj) | exact Or.inr hj | exact Or.inl hj | (rw [(rfl : True = True), (rfl : True = True)] at hj; exact hj)))
  clear hF9
  refine lv_aload_n hx hb dX0_copyFrom_22 rfl (lv_at hl 0 rfl) ?_
  refine lv_aload_n hx hb dX0_copyFrom_23 rfl (lv_at hl 1 rfl) ?_
  refine hh_get C0 hp (C := RX0) (T := TX0) (N := 7) (ci := 0) (hh_b_c hr2 hi2) (hh_E_c r2 hi2) rfl hh_uX0 2 (by decide) hm_19 rfl rfl dX0_copyFrom_24 ?_
  refine hh_put C0 hp (C := RX0) (T := TX0) (N := 7) (ci := 0) (k := 2) (ty := .int) (hh_b_c hr hi) (hh_E_c r hi) (hh_pc2 r hi) rfl hh_uX0 tyX0_ok nmX0 (by decide) hm_19 rfl rfl (by decide +kernel) rfl rfl (Nat.le_of_ble_eq_true rfl) dX0_copyFrom_27 (fun H locs hp => ?_)
  obtain ⟨v_27, ev_27⟩ : ∃ z : hh_M, z = hh_up v_19 (hh_cI r i) 2 (v_19 (hh_cI r2 i2) 2) := ⟨_, rfl⟩
  rw [← ev_27] at hp
  have hTv_27 : hh_T nm nh nc v_27 := by rw [ev_27]; exact hh_T_up hTv_19 (hh_Rt_c hr hi (by decide))
  have hFv_27 : hh_F (fun j k => (j = hh_cI r i ∧ 2 ≤ k ∧ k < 7) ∨ (j = hh_gI r i 0 ∧ k < 6) ∨ (j = hh_gI r i 1 ∧ k < 6)) v v_27 := by rw [ev_27]; exact hh_F_up hFv_19 (by first | exact ⟨rfl, (by decide)⟩ | exact Or.inl ⟨rfl, by decide⟩ | exact Or.inr (Or.inl ⟨rfl, by decide⟩) | exact Or.inr (Or.inr ⟨rfl, by decide⟩))
  refine lv_aload_n hx hb dX0_copyFrom_30 rfl (lv_at hl 0 rfl) ?_
  refine lv_aload_n hx hb dX0_copyFrom_31 rfl (lv_at hl 1 rfl) ?_
  refine hh_get C0 hp (C := RX0) (T := TX0) (N := 7) (ci := 0) (hh_b_c hr2 hi2) (hh_E_c r2 hi2) rfl hh_uX0 3 (by decide) hm_20 rfl rfl dX0_copyFrom_32 ?_
  refine hh_put C0 hp (C := RX0) (T := TX0) (N := 7) (ci := 0) (k := 3) (ty := .int) (hh_b_c hr hi) (hh_E_c r hi) (hh_pc3 r hi) rfl hh_uX0 tyX0_ok nmX0 (by decide) hm_20 rfl rfl (by decide +kernel) rfl rfl (Nat.le_of_ble_eq_true rfl) dX0_copyFrom_35 (fun H locs hp => ?_)
  obtain ⟨v_35, ev_35⟩ : ∃ z : hh_M, z = hh_up v_27 (hh_cI r i) 3 (v_27 (hh_cI r2 i2) 3) := ⟨_, rfl⟩
  rw [← ev_35] at hp
  have hTv_35 : hh_T nm nh nc v_35 := by rw [ev_35]; exact hh_T_up hTv_27 (hh_Rt_c hr hi (by decide))
  have hFv_35 : hh_F (fun j k => (j = hh_cI r i ∧ 2 ≤ k ∧ k < 7) ∨ (j = hh_gI r i 0 ∧ k < 6) ∨ (j = hh_gI r i 1 ∧ k < 6)) v v_35 := by rw [ev_35]; exact hh_F_up hFv_27 (by first | exact ⟨rfl, (by decide)⟩ | exact Or.inl ⟨rfl, by decide⟩ | exact Or.inr (Or.inl ⟨rfl, by decide⟩) | exact Or.inr (Or.inr ⟨rfl, by decide⟩))
  refine lv_aload_n hx hb dX0_copyFrom_38 rfl (lv_at hl 0 rfl) ?_
  refine lv_aload_n hx hb dX0_copyFrom_39 rfl (lv_at hl 1 rfl) ?_
  refine hh_get C0 hp (C := RX0) (T := TX0) (N := 7) (ci := 0) (hh_b_c hr2 hi2) (hh_E_c r2 hi2) rfl hh_uX0 4 (by decide) hm_21 rfl rfl dX0_copyFrom_40 ?_
  refine hh_put C0 hp (C := RX0) (T := TX0) (N := 7) (ci := 0) (k := 4) (ty := .int) (hh_b_c hr hi) (hh_E_c r hi) (hh_pc4 r hi) rfl hh_uX0 tyX0_ok nmX0 (by decide) hm_21 rfl rfl (by decide +kernel) rfl rfl (Nat.le_of_ble_eq_true rfl) dX0_copyFrom_43 (fun H locs hp => ?_)
  obtain ⟨v_43, ev_43⟩ : ∃ z : hh_M, z = hh_up v_35 (hh_cI r i) 4 (v_35 (hh_cI r2 i2) 4) := ⟨_, rfl⟩
  rw [← ev_43] at hp
  have hTv_43 : hh_T nm nh nc v_43 := by rw [ev_43]; exact hh_T_up hTv_35 (hh_Rt_c hr hi (by decide))
  have hFv_43 : hh_F (fun j k => (j = hh_cI r i ∧ 2 ≤ k ∧ k < 7) ∨ (j = hh_gI r i 0 ∧ k < 6) ∨ (j = hh_gI r i 1 ∧ k < 6)) v v_43 := by rw [ev_43]; exact hh_F_up hFv_35 (by first | exact ⟨rfl, (by decide)⟩ | exact Or.inl ⟨rfl, by decide⟩ | exact Or.inr (Or.inl ⟨rfl, by decide⟩) | exact Or.inr (Or.inr ⟨rfl, by decide⟩))
  refine lv_aload_n hx hb dX0_copyFrom_46 rfl (lv_at hl 0 rfl) ?_
  refine lv_aload_n hx hb dX0_copyFrom_47 rfl (lv_at hl 1 rfl) ?_
  refine hh_get C0 hp (C := RX0) (T := TX0) (N := 7) (ci := 0) (hh_b_c hr2 hi2) (hh_E_c r2 hi2) rfl hh_uX0 5 (by decide) hm_22 rfl rfl dX0_copyFrom_48 ?_
  refine hh_put C0 hp (C := RX0) (T := TX0) (N := 7) (ci := 0) (k := 5) (ty := .int) (hh_b_c hr hi) (hh_E_c r hi) (hh_pc5 r hi) rfl hh_uX0 tyX0_ok nmX0 (by decide) hm_22 rfl rfl (by decide +kernel) rfl rfl (Nat.le_of_ble_eq_true rfl) dX0_copyFrom_51 (fun H locs hp => ?_)
  obtain ⟨v_51, ev_51⟩ : ∃ z : hh_M, z = hh_up v_43 (hh_cI r i) 5 (v_43 (hh_cI r2 i2) 5) := ⟨_, rfl⟩
  rw [← ev_51] at hp
  have hTv_51 : hh_T nm nh nc v_51 := by rw [ev_51]; exact hh_T_up hTv_43 (hh_Rt_c hr hi (by decide))
  have hFv_51 : hh_F (fun j k => (j = hh_cI r i ∧ 2 ≤ k ∧ k < 7) ∨ (j = hh_gI r i 0 ∧ k < 6) ∨ (j = hh_gI r i 1 ∧ k < 6)) v v_51 := by rw [ev_51]; exact hh_F_up hFv_43 (by first | exact ⟨rfl, (by decide)⟩ | exact Or.inl ⟨rfl, by decide⟩ | exact Or.inr (Or.inl ⟨rfl, by decide⟩) | exact Or.inr (Or.inr ⟨rfl, by decide⟩))
  refine lv_aload_n hx hb dX0_copyFrom_54 rfl (lv_at hl 0 rfl) ?_
  refine lv_aload_n hx hb dX0_copyFrom_55 rfl (lv_at hl 1 rfl) ?_
  refine hh_get C0 hp (C := RX0) (T := TX0) (N := 7) (ci := 0) (hh_b_c hr2 hi2) (hh_E_c r2 hi2) rfl hh_uX0 6 (by decide) hm_9 rfl rfl dX0_copyFrom_56 ?_
  refine hh_put C0 hp (C := RX0) (T := TX0) (N := 7) (ci := 0) (k := 6) (ty := .int) (hh_b_c hr hi) (hh_E_c r hi) (hh_pc6 r hi) rfl hh_uX0 tyX0_ok nmX0 (by decide) hm_9 rfl rfl (by decide +kernel) rfl rfl (Nat.le_of_ble_eq_true rfl) dX0_copyFrom_59 (fun H locs hp => ?_)
  obtain ⟨v_59, ev_59⟩ : ∃ z : hh_M, z = hh_up v_51 (hh_cI r i) 6 (v_51 (hh_cI r2 i2) 6) := ⟨_, rfl⟩
  rw [← ev_59] at hp
  have hTv_59 : hh_T nm nh nc v_59 := by rw [ev_59]; exact hh_T_up hTv_51 (hh_Rt_c hr hi (by decide))
  have hFv_59 : hh_F (fun j k => (j = hh_cI r i ∧ 2 ≤ k ∧ k < 7) ∨ (j = hh_gI r i 0 ∧ k < 6) ∨ (j = hh_gI r i 1 ∧ k < 6)) v v_59 := by rw [ev_59]; exact hh_F_up hFv_51 (by first | exact ⟨rfl, (by decide)⟩ | exact Or.inl ⟨rfl, by decide⟩ | exact Or.inr (Or.inl ⟨rfl, by decide⟩) | exact Or.inr (Or.inr ⟨rfl, by decide⟩))
  exact hh_vret C0 hp dX0_copyFrom_62 ⟨(by show _ = _; unfold hf_X0_copyFrom; rw [hh_let_eq ev_8, hh_let_eq ev_19, hh_let_eq ev_27, hh_let_eq ev_35, hh_let_eq ev_43, hh_let_eq ev_51, hh_let_eq ev_59]), hTv_59, hFv_59⟩
def hl_X5_copyFrom_2 (r : Nat) (r2 : Nat) (i : Nat) (w_2 : hh_M) : hh_M := (hh_let (hh_up w_2 (hh_lI r) i (w_2 (hh_lI r2) i) : hh_M) (fun (v_19 : hh_M) => (hh_let (hh_up v_19 (hh_kI r) i (v_19 (hh_kI r2) i) : hh_M) (fun (v_31 : hh_M) => v_31))))
def hl_X5_copyFrom_48 (r : Nat) (r2 : Nat) (i : Nat) (w_48 : hh_M) : hh_M := (hh_let (hf_X1_copyFrom w_48 r i r2 i : hh_M) (fun (v_68 : hh_M) => v_68))
def hl_X5_copyFrom_87 (r : Nat) (r2 : Nat) (i : Nat) (w_87 : hh_M) : hh_M := (hh_let (hf_X0_copyFrom w_87 r i r2 i : hh_M) (fun (v_107 : hh_M) => v_107))
def hf_X5_copyFrom (v : hh_M) (r : Nat) (r2 : Nat) : hh_M := (hh_let (hh_fld (fun (i9 : Nat) (z : hh_M) => hl_X5_copyFrom_2 r r2 i9 z) 6 v : hh_M) (fun (w_2 : hh_M) => (hh_let (hh_up w_2 (hh_rI r) 5 (w_2 (hh_rI r2) 5) : hh_M) (fun (v_43 : hh_M) => (hh_let (hh_fld (fun (i9 : Nat) (z : hh_M) => hl_X5_copyFrom_48 r r2 i9 z) ((v_43 (hh_rI r) 5).toNatClampNeg) v_43 : hh_M) (fun (w_48 : hh_M) => (hh_let (hh_up w_48 (hh_rI r) 6 (w_48 (hh_rI r2) 6) : hh_M) (fun (v_82 : hh_M) => (hh_let (hh_fld (fun (i9 : Nat) (z : hh_M) => hl_X5_copyFrom_87 r r2 i9 z) ((v_82 (hh_rI r) 6).toNatClampNeg) v_82 : hh_M) (fun (w_87 : hh_M) => (hh_let (hh_up w_87 (hh_rI r) 7 (w_87 (hh_rI r2) 7) : hh_M) (fun (v_121 : hh_M) => (hh_let (hh_up v_121 (hh_rI r) 8 (v_121 (hh_rI r2) 8) : hh_M) (fun (v_129 : hh_M) => (hh_let (hh_up v_129 (hh_rI r) 9 (v_129 (hh_rI r2) 9) : hh_M) (fun (v_137 : hh_M) => v_137))))))))))))))))
set_option maxHeartbeats 4000000 in
set_option maxRecDepth 100000 in
theorem hk_X5_copyFrom (l : Launch) (D : va_G) (K : Nat → ClassId) (ad : Nat → Nat) {nm : Nat} {nh nc : Nat → Nat} {v : hh_M} (hT : hh_T nm nh nc v) (r : Nat) (r2 : Nat) (hr : r < 2) (hr2 : r2 < 2) (hle : nh r ≤ nh r2) : hh_Kv l D K ad yX5_copyFrom (hh_wm yX5_copyFrom cX5_copyFrom 3 none) { frames := 2, cells := 0, slots := 0, locals := 42 } [.ref (ad (hh_rI r)), .ref (ad (hh_rI r2))] v (fun (v1 : hh_M) => v1 = hf_X5_copyFrom v r r2 ∧ (hh_T nm (hh_fu nh r (nh r2)) (hh_fu nc r (nc r2)) v1) ∧ hh_F (hh_Pn r (nh r2) (nc r2)) v v1) := by
  refine hh_Kv_of (by decide) (Nat.le_of_ble_eq_true rfl) ?_
  intro p e s m args below meth c ls A C0 hp hl
  obtain ⟨hx, hb, hr9, hml, hown, hts, hK, hlk, hA⟩ := id C0
  have hnm := hT.1
  have hnh := hT.2.1
  have hnc := hT.2.2.1
  have hbHr := hnh r
  have hbCr := hnc r
  have hbHr2 := hnh r2
  have hbCr2 := hnc r2
  have hl : lv_has ls 3 [(0, .ref (ad (hh_rI r))), (1, .ref (ad (hh_rI r2)))] := hl
  refine lv_iconst (v := 0) hx hb dX5_copyFrom_0 (by decide) ?_
  refine lv_istore_n (lv' := [(2, .int 0), (0, .ref (ad (hh_rI r))), (1, .ref (ad (hh_rI r2)))]) hx hb dX5_copyFrom_1 rfl hl (by decide) rfl (fun ls hl => ?_)
  have hL_2 : ∀ (n i : Nat) (w_2 : hh_M) (H : Heap) (locs : List Loc) (ls : Array Slot), i ≤ 6 → 6 - i < n → w_2 = hh_fld (fun (i9 : Nat) (z : hh_M) => hl_X5_copyFrom_2 r r2 i9 z) i v → hh_T nm nh nc w_2 → hh_F (hh_Pn r (nh r2) (nc r2)) v w_2 → hh_H D K ad A s.heap w_2 H locs → lv_has ls 3 [(2, .int (nI i)), (0, .ref (ad (hh_rI r))), (1, .ref (ad (hh_rI r2)))] → W p l e ({ frames := 2, cells := 0, slots := 0, locals := 42 } : Room) s m args below meth c H locs 0 0 (MQ below (va_Qv (fun (v1 : hh_M) => v1 = hf_X5_copyFrom v r r2 ∧ (hh_T nm (hh_fu nh r (nh r2)) (hh_fu nc r (nc r2)) v1) ∧ hh_F (hh_Pn r (nh r2) (nc r2)) v v1) (hh_B D K ad A) A) args s 0 0 A) (F0 m 2 ls []) := by
    intro n
    induction n with
    | zero => intro i w_2 H locs ls h1 h2; omega
    | succ n ih =>
      intro i w_2 H locs ls hii hni hsL_2 hTw_2 hFw_2 hp hl
      refine lv_iload_n hx hb dX5_copyFrom_2 rfl (lv_at hl 0 rfl) ?_
      refine lv_bipush (v := 6) hx hb dX5_copyFrom_3 (by decide) ?_
      refine lv_icmp_ge (tgt := 38) hx hb dX5_copyFrom_5 (by decide) (fun c_5 => ?_) (fun c_5 => ?_)
      · have hbc_5 : 6 = nI 6 := rfl
        rw [hbc_5] at c_5
        have hc_5 := (nI_leI (a := 6) (b := i) (by omega) (by omega))
        have hltc_5 : 6 ≤ i := by exact hc_5.mp c_5
        have hNL_2 : i = 6 := by omega
        rw [hNL_2] at hsL_2
        have ew_2 : w_2 = hh_fld (fun (i9 : Nat) (z : hh_M) => hl_X5_copyFrom_2 r r2 i9 z) 6 v := hsL_2
        clear ih hsL_2
        refine lv_aload_n hx hb dX5_copyFrom_38 rfl (lv_at hl 1 rfl) ?_
        refine lv_aload_n hx hb dX5_copyFrom_39 rfl (lv_at hl 2 rfl) ?_
        refine hh_get C0 hp (C := RX5) (T := TX5) (N := 10) (ci := 5) (hh_b_r hr2) (hh_E_r r2) rfl hh_uX5 5 (by decide) hm_111 rfl rfl dX5_copyFrom_40 ?_
        refine hh_put C0 hp (C := RX5) (T := TX5) (N := 10) (ci := 5) (k := 5) (ty := .int) (hh_b_r hr) (hh_E_r r) (hh_pr5 r) rfl hh_uX5 tyX5_ok nmX5 (by decide) hm_111 rfl rfl (by decide +kernel) rfl rfl (Nat.le_of_ble_eq_true rfl) dX5_copyFrom_43 (fun H locs hp => ?_)
        obtain ⟨v_43, ev_43⟩ : ∃ z : hh_M, z = hh_up w_2 (hh_rI r) 5 (w_2 (hh_rI r2) 5) := ⟨_, rfl⟩
        rw [← ev_43] at hp
        have hTv_43 : hh_T nm (hh_fu nh r (nh r2)) nc v_43 := by rw [ev_43]; exact hh_T_nh hTw_2 hr (hnh r2) hle (hh_T_r5 hTw_2 r2)
        have hFv_43 : hh_F (hh_Pn r (nh r2) (nc r2)) v v_43 := by rw [ev_43]; exact hh_F_up hFw_2 (hh_Pn_r (by decide))
        refine lv_iconst (v := 0) hx hb dX5_copyFrom_46 (by decide) ?_
        refine lv_istore_n (lv' := [(2, .int 0), (0, .ref (ad (hh_rI r))), (1, .ref (ad (hh_rI r2)))]) hx hb dX5_copyFrom_47 rfl hl (by decide) rfl (fun ls hl => ?_)
        have hL_48 : ∀ (n i : Nat) (w_48 : hh_M) (H : Heap) (locs : List Loc) (ls : Array Slot), i ≤ nh r2 → nh r2 - i < n → w_48 = hh_fld (fun (i9 : Nat) (z : hh_M) => hl_X5_copyFrom_48 r r2 i9 z) i v_43 → hh_T nm (hh_fu nh r (nh r2)) nc w_48 → hh_F (hh_Pn r (nh r2) (nc r2)) v w_48 → hh_H D K ad A s.heap w_48 H locs → lv_has ls 3 [(2, .int (nI i)), (0, .ref (ad (hh_rI r))), (1, .ref (ad (hh_rI r2)))] → W p l e ({ frames := 2, cells := 0, slots := 0, locals := 42 } : Room) s m args below meth c H locs 0 0 (MQ below (va_Qv (fun (v1 : hh_M) => v1 = hf_X5_copyFrom v r r2 ∧ (hh_T nm (hh_fu nh r (nh r2)) (hh_fu nc r (nc r2)) v1) ∧ hh_F (hh_Pn r (nh r2) (nc r2)) v v1) (hh_B D K ad A) A) args s 0 0 A) (F0 m 48 ls []) := by
          intro n
          induction n with
          | zero => intro i w_48 H locs ls h1 h2; omega
          | succ n ih =>
            intro i w_48 H locs ls hii hni hsL_48 hTw_48 hFw_48 hp hl
            refine lv_iload_n hx hb dX5_copyFrom_48 rfl (lv_at hl 0 rfl) ?_
            refine lv_aload_n hx hb dX5_copyFrom_49 rfl (lv_at hl 1 rfl) ?_
            refine hh_get C0 hp (C := RX5) (T := TX5) (N := 10) (ci := 5) (hh_b_r hr) (hh_E_r r) rfl hh_uX5 5 (by decide) hm_111 rfl rfl dX5_copyFrom_50 ?_
            refine lv_icmp_ge (tgt := 77) hx hb dX5_copyFrom_53 (by decide) (fun c_53 => ?_) (fun c_53 => ?_)
            · have hbc_53 : (w_48 (hh_rI r) 5) = nI (nh r2) := (hh_T_r5 hTw_48 r).trans (by rw [hh_fu_s])
              rw [hbc_53] at c_53
              have hc_53 := (nI_leI (a := nh r2) (b := i) (by omega) (by omega))
              have hltc_53 : nh r2 ≤ i := by exact hc_53.mp c_53
              have hNL_48 : i = nh r2 := by omega
              rw [hNL_48] at hsL_48
              have hsL_48 : w_48 = hh_fld (fun (i9 : Nat) (z : hh_M) => hl_X5_copyFrom_48 r r2 i9 z) ((v_43 (hh_rI r) 5).toNatClampNeg) v_43 := by rw [hsL_48, show (v_43 (hh_rI r) 5).toNatClampNeg = nh r2 from by rw [hh_T_r5 hTv_43 r, hh_fu_s]; exact nI_clamp (by omega)]
              have ew_48 : w_48 = hh_fld (fun (i9 : Nat) (z : hh_M) => hl_X5_copyFrom_48 r r2 i9 z) ((v_43 (hh_rI r) 5).toNatClampNeg) v_43 := hsL_48
              clear ih hsL_48
              refine lv_aload_n hx hb dX5_copyFrom_77 rfl (lv_at hl 1 rfl) ?_
              refine lv_aload_n hx hb dX5_copyFrom_78 rfl (lv_at hl 2 rfl) ?_
              refine hh_get C0 hp (C := RX5) (T := TX5) (N := 10) (ci := 5) (hh_b_r hr2) (hh_E_r r2) rfl hh_uX5 6 (by decide) hm_112 rfl rfl dX5_copyFrom_79 ?_
              refine hh_put C0 hp (C := RX5) (T := TX5) (N := 10) (ci := 5) (k := 6) (ty := .int) (hh_b_r hr) (hh_E_r r) (hh_pr6 r) rfl hh_uX5 tyX5_ok nmX5 (by decide) hm_112 rfl rfl (by decide +kernel) rfl rfl (Nat.le_of_ble_eq_true rfl) dX5_copyFrom_82 (fun H locs hp => ?_)
              obtain ⟨v_82, ev_82⟩ : ∃ z : hh_M, z = hh_up w_48 (hh_rI r) 6 (w_48 (hh_rI r2) 6) := ⟨_, rfl⟩
              rw [← ev_82] at hp
              have hTv_82 : hh_T nm (hh_fu nh r (nh r2)) (hh_fu nc r (nc r2)) v_82 := by rw [ev_82]; exact hh_T_nc hTw_48 hr (hnc r2) (hh_T_r6 hTw_48 r2)
              have hFv_82 : hh_F (hh_Pn r (nh r2) (nc r2)) v v_82 := by rw [ev_82]; exact hh_F_up hFw_48 (hh_Pn_r (by decide))
              refine lv_iconst (v := 0) hx hb dX5_copyFrom_85 (by decide) ?_
              refine lv_istore_n (lv' := [(2, .int 0), (0, .ref (ad (hh_rI r))), (1, .ref (ad (hh_rI r2)))]) hx hb dX5_copyFrom_86 rfl hl (by decide) rfl (fun ls hl => ?_)
              have hL_87 : ∀ (n i : Nat) (w_87 : hh_M) (H : Heap) (locs : List Loc) (ls : Array Slot), i ≤ nc r2 → nc r2 - i < n → w_87 = hh_fld (fun (i9 : Nat) (z : hh_M) => hl_X5_copyFrom_87 r r2 i9 z) i v_82 → hh_T nm (hh_fu nh r (nh r2)) (hh_fu nc r (nc r2)) w_87 → hh_F (hh_Pn r (nh r2) (nc r2)) v w_87 → hh_H D K ad A s.heap w_87 H locs → lv_has ls 3 [(2, .int (nI i)), (0, .ref (ad (hh_rI r))), (1, .ref (ad (hh_rI r2)))] → W p l e ({ frames := 2, cells := 0, slots := 0, locals := 42 } : Room) s m args below meth c H locs 0 0 (MQ below (va_Qv (fun (v1 : hh_M) => v1 = hf_X5_copyFrom v r r2 ∧ (hh_T nm (hh_fu nh r (nh r2)) (hh_fu nc r (nc r2)) v1) ∧ hh_F (hh_Pn r (nh r2) (nc r2)) v v1) (hh_B D K ad A) A) args s 0 0 A) (F0 m 87 ls []) := by
                intro n
                induction n with
                | zero => intro i w_87 H locs ls h1 h2; omega
                | succ n ih =>
                  intro i w_87 H locs ls hii hni hsL_87 hTw_87 hFw_87 hp hl
                  refine lv_iload_n hx hb dX5_copyFrom_87 rfl (lv_at hl 0 rfl) ?_
                  refine lv_aload_n hx hb dX5_copyFrom_88 rfl (lv_at hl 1 rfl) ?_
                  refine hh_get C0 hp (C := RX5) (T := TX5) (N := 10) (ci := 5) (hh_b_r hr) (hh_E_r r) rfl hh_uX5 6 (by decide) hm_112 rfl rfl dX5_copyFrom_89 ?_
                  refine lv_icmp_ge (tgt := 116) hx hb dX5_copyFrom_92 (by decide) (fun c_92 => ?_) (fun c_92 => ?_)
                  · have hbc_92 : (w_87 (hh_rI r) 6) = nI (nc r2) := (hh_T_r6 hTw_87 r).trans (by rw [hh_fu_s])
                    rw [hbc_92] at c_92
                    have hc_92 := (nI_leI (a := nc r2) (b := i) (by omega) (by omega))
                    have hltc_92 : nc r2 ≤ i := by exact hc_92.mp c_92
                    have hNL_87 : i = nc r2 := by omega
                    rw [hNL_87] at hsL_87
                    have hsL_87 : w_87 = hh_fld (fun (i9 : Nat) (z : hh_M) => hl_X5_copyFrom_87 r r2 i9 z) ((v_82 (hh_rI r) 6).toNatClampNeg) v_82 := by rw [hsL_87, show (v_82 (hh_rI r) 6).toNatClampNeg = nc r2 from by rw [hh_T_r6 hTv_82 r, hh_fu_s]; exact nI_clamp (by omega)]
                    have ew_87 : w_87 = hh_fld (fun (i9 : Nat) (z : hh_M) => hl_X5_copyFrom_87 r r2 i9 z) ((v_82 (hh_rI r) 6).toNatClampNeg) v_82 := hsL_87
                    clear ih hsL_87
                    refine lv_aload_n hx hb dX5_copyFrom_116 rfl (lv_at hl 1 rfl) ?_
                    refine lv_aload_n hx hb dX5_copyFrom_117 rfl (lv_at hl 2 rfl) ?_
                    refine hh_get C0 hp (C := RX5) (T := TX5) (N := 10) (ci := 5) (hh_b_r hr2) (hh_E_r r2) rfl hh_uX5 7 (by decide) hm_113 rfl rfl dX5_copyFrom_118 ?_
                    refine hh_put C0 hp (C := RX5) (T := TX5) (N := 10) (ci := 5) (k := 7) (ty := .int) (hh_b_r hr) (hh_E_r r) (hh_pr7 r) rfl hh_uX5 tyX5_ok nmX5 (by decide) hm_113 rfl rfl (by decide +kernel) rfl rfl (Nat.le_of_ble_eq_true rfl) dX5_copyFrom_121 (fun H locs hp => ?_)
                    obtain ⟨v_121, ev_121⟩ : ∃ z : hh_M, z = hh_up w_87 (hh_rI r) 7 (w_87 (hh_rI r2) 7) := ⟨_, rfl⟩
                    rw [← ev_121] at hp
                    have hTv_121 : hh_T nm (hh_fu nh r (nh r2)) (hh_fu nc r (nc r2)) v_121 := by rw [ev_121]; exact hh_T_up hTw_87 (hh_Rt_r hr (by decide))
                    have hFv_121 : hh_F (hh_Pn r (nh r2) (nc r2)) v v_121 := by rw [ev_121]; exact hh_F_up hFw_87 (hh_Pn_r (by decide))
                    refine lv_aload_n hx hb dX5_copyFrom_124 rfl (lv_at hl 1 rfl) ?_
                    refine lv_aload_n hx hb dX5_copyFrom_125 rfl (lv_at hl 2 rfl) ?_
                    refine hh_get C0 hp (C := RX5) (T := TX5) (N := 10) (ci := 5) (hh_b_r hr2) (hh_E_r r2) rfl hh_uX5 8 (by decide) hm_114 rfl rfl dX5_copyFrom_126 ?_
                    refine hh_put C0 hp (C := RX5) (T := TX5) (N := 10) (ci := 5) (k := 8) (ty := .int) (hh_b_r hr) (hh_E_r r) (hh_pr8 r) rfl hh_uX5 tyX5_ok nmX5 (by decide) hm_114 rfl rfl (by decide +kernel) rfl rfl (Nat.le_of_ble_eq_true rfl) dX5_copyFrom_129 (fun H locs hp => ?_)
                    obtain ⟨v_129, ev_129⟩ : ∃ z : hh_M, z = hh_up v_121 (hh_rI r) 8 (v_121 (hh_rI r2) 8) := ⟨_, rfl⟩
                    rw [← ev_129] at hp
                    have hTv_129 : hh_T nm (hh_fu nh r (nh r2)) (hh_fu nc r (nc r2)) v_129 := by rw [ev_129]; exact hh_T_up hTv_121 (hh_Rt_r hr (by decide))
                    have hFv_129 : hh_F (hh_Pn r (nh r2) (nc r2)) v v_129 := by rw [ev_129]; exact hh_F_up hFv_121 (hh_Pn_r (by decide))
                    refine lv_aload_n hx hb dX5_copyFrom_132 rfl (lv_at hl 1 rfl) ?_
                    refine lv_aload_n hx hb dX5_copyFrom_133 rfl (lv_at hl 2 rfl) ?_
                    refine hh_get C0 hp (C := RX5) (T := TX5) (N := 10) (ci := 5) (hh_b_r hr2) (hh_E_r r2) rfl hh_uX5 9 (by decide) hm_115 rfl rfl dX5_copyFrom_134 ?_
                    refine hh_put C0 hp (C := RX5) (T := TX5) (N := 10) (ci := 5) (k := 9) (ty := .int) (hh_b_r hr) (hh_E_r r) (hh_pr9 r) rfl hh_uX5 tyX5_ok nmX5 (by decide) hm_115 rfl rfl (by decide +kernel) rfl rfl (Nat.le_of_ble_eq_true rfl) dX5_copyFrom_137 (fun H locs hp => ?_)
                    obtain ⟨v_137, ev_137⟩ : ∃ z : hh_M, z = hh_up v_129 (hh_rI r) 9 (v_129 (hh_rI r2) 9) := ⟨_, rfl⟩
                    rw [← ev_137] at hp
                    have hTv_137 : hh_T nm (hh_fu nh r (nh r2)) (hh_fu nc r (nc r2)) v_137 := by rw [ev_137]; exact hh_T_up hTv_129 (hh_Rt_r hr (by decide))
                    have hFv_137 : hh_F (hh_Pn r (nh r2) (nc r2)) v v_137 := by rw [ev_137]; exact hh_F_up hFv_129 (hh_Pn_r (by decide))
                    exact hh_vret C0 hp dX5_copyFrom_140 ⟨(by show _ = _; unfold hf_X5_copyFrom; rw [hh_let_eq ew_2, hh_let_eq ev_43, hh_let_eq ew_48, hh_let_eq ev_82, hh_let_eq ew_87, hh_let_eq ev_121, hh_let_eq ev_129, hh_let_eq ev_137]), hTv_137, hFv_137⟩
                  · have hbc_92 : (w_87 (hh_rI r) 6) = nI (nc r2) := (hh_T_r6 hTw_87 r).trans (by rw [hh_fu_s])
                    rw [hbc_92] at c_92
                    have hc_92 := (nI_leI (a := nc r2) (b := i) (by omega) (by omega))
                    have hltc_92 : i < nc r2 := by exact Nat.not_le.mp (fun z => c_92 (hc_92.mpr z))
                    refine lv_aload_n hx hb dX5_copyFrom_95 rfl (lv_at hl 1 rfl) ?_
                    refine hh_get C0 hp (C := RX5) (T := TX5) (N := 10) (ci := 5) (hh_b_r hr) (hh_E_r r) rfl hh_uX5 4 (by decide) hm_105 rfl rfl dX5_copyFrom_96 ?_
                    refine lv_iload_n hx hb dX5_copyFrom_99 rfl (lv_at hl 0 rfl) ?_
                    refine hh_aal C0 hp (t0 := 4) (f := (hh_cI r)) (hh_b_C hr) (hh_E_C r) rfl rfl (vp_in_nI (by omega) (by decide)) (nI_clamp (by omega)) dX5_copyFrom_100 ?_
                    refine lv_aload_n hx hb dX5_copyFrom_101 rfl (lv_at hl 2 rfl) ?_
                    refine hh_get C0 hp (C := RX5) (T := TX5) (N := 10) (ci := 5) (hh_b_r hr2) (hh_E_r r2) rfl hh_uX5 4 (by decide) hm_105 rfl rfl dX5_copyFrom_102 ?_
                    refine lv_iload_n hx hb dX5_copyFrom_105 rfl (lv_at hl 0 rfl) ?_
                    refine hh_aal C0 hp (t0 := 4) (f := (hh_cI r2)) (hh_b_C hr2) (hh_E_C r2) rfl rfl (vp_in_nI (by omega) (by decide)) (nI_clamp (by omega)) dX5_copyFrom_106 ?_
                    refine hh_cVv C0 hp (As := [.ref (ad (hh_cI r2 i))]) (rest := []) (C := RX0) (T := TX0) (N := 7) (ci := 0) (n := 1) (hk_X0_copyFrom l D K ad hTw_87 r i r2 i hr (by omega : i < 24) hr2 (by omega : i < 24) (by simp [hh_fu])) rfl (hh_b_c hr (by omega : i < 24)) (hh_E_c r (by omega : i < 24)) (hh_gV hm_119 hm_120 hm_121 hm_107 hm_18) ⟨rfl, rfl⟩ (by decide +kernel) ⟨Nat.le_of_ble_eq_true rfl, Nat.le_of_ble_eq_true rfl⟩ ⟨Nat.zero_le _, Nat.zero_le _⟩ hl.1 rfl rfl (Nat.le_of_ble_eq_true rfl) dX5_copyFrom_107 (fun v_107 H locs hv_107 hp => ?_)
                    obtain ⟨ev_107, hTv_107, hF9⟩ := hv_107
                    have hFv_107 : hh_F (hh_Pn r (nh r2) (nc r2)) v v_107 := hh_F.tr hFw_87 (hh_F.mo hF9 (fun j k hj => by first | exact hj | (obtain ⟨rfl, hj⟩ := hj; (first | exact ⟨rfl, hj⟩ | exact Or.inl ⟨rfl, hj⟩ | exact Or.inr (Or.inl ⟨rfl, hj⟩) | exact Or.inr (Or.inr ⟨rfl, hj⟩) | exact hh_Pn_k hj | exact hh_Pn_h (by first | assumption | omega) hj | exact hh_Pn_c (by first | assumption | omega) hj | exact hh_Pn_g (by first | assumption | omega) (by decide) hj); done) | (rcases hj with ⟨rfl, hj⟩ | ⟨rfl, hj⟩ | ⟨rfl, hj⟩ <;> first | exact hh_Pn_c (by first | assumption | omega) hj | exact hh_Pn_g (by first | assumption | omega) (by decide) hj) | (have hj := hj; simp only [hh_fu_s] at hj; first | exact hj | exact Or.inl hj) | exact Or.inr hj | exact Or.inl hj | (rw [(rfl : True = True), (rfl : True = True)] at hj; exact hj)))
                    clear hF9
                    refine lv_iinc (v := (nI (i + 1))) (lv' := [(2, .int (nI (i + 1))), (0, .ref (ad (hh_rI r))), (1, .ref (ad (hh_rI r2)))]) hx hb dX5_copyFrom_110 hl (k := 0) rfl (nI_1 i) (by decide) rfl (fun ls hl => ?_)
                    refine lv_goto (tgt := 87) hx hb dX5_copyFrom_113 (by decide) ?_
                    exact ih (i + 1) v_107 _ _ _ (by omega) (by omega) (by rw [hh_fld, ← hsL_87]; show _ = hl_X5_copyFrom_87 r r2 i w_87; unfold hl_X5_copyFrom_87; rw [hh_let_eq ev_107]) hTv_107 hFv_107 hp (lv_sub hl [0, 1, 2] rfl)
              exact hL_87 (nc r2 + 1) 0 v_82 _ _ _ (Nat.zero_le _) (by omega) rfl hTv_82 hFv_82 hp (lv_sub hl [0, 1, 2] rfl)
            · have hbc_53 : (w_48 (hh_rI r) 5) = nI (nh r2) := (hh_T_r5 hTw_48 r).trans (by rw [hh_fu_s])
              rw [hbc_53] at c_53
              have hc_53 := (nI_leI (a := nh r2) (b := i) (by omega) (by omega))
              have hltc_53 : i < nh r2 := by exact Nat.not_le.mp (fun z => c_53 (hc_53.mpr z))
              refine lv_aload_n hx hb dX5_copyFrom_56 rfl (lv_at hl 1 rfl) ?_
              refine hh_get C0 hp (C := RX5) (T := TX5) (N := 10) (ci := 5) (hh_b_r hr) (hh_E_r r) rfl hh_uX5 3 (by decide) hm_101 rfl rfl dX5_copyFrom_57 ?_
              refine lv_iload_n hx hb dX5_copyFrom_60 rfl (lv_at hl 0 rfl) ?_
              refine hh_aal C0 hp (t0 := 3) (f := (hh_hI r)) (hh_b_H hr) (hh_E_H r) rfl rfl (vp_in_nI (by omega) (by decide)) (nI_clamp (by omega)) dX5_copyFrom_61 ?_
              refine lv_aload_n hx hb dX5_copyFrom_62 rfl (lv_at hl 2 rfl) ?_
              refine hh_get C0 hp (C := RX5) (T := TX5) (N := 10) (ci := 5) (hh_b_r hr2) (hh_E_r r2) rfl hh_uX5 3 (by decide) hm_101 rfl rfl dX5_copyFrom_63 ?_
              refine lv_iload_n hx hb dX5_copyFrom_66 rfl (lv_at hl 0 rfl) ?_
              refine hh_aal C0 hp (t0 := 3) (f := (hh_hI r2)) (hh_b_H hr2) (hh_E_H r2) rfl rfl (vp_in_nI (by omega) (by decide)) (nI_clamp (by omega)) dX5_copyFrom_67 ?_
              refine hh_cVv C0 hp (As := [.ref (ad (hh_hI r2 i))]) (rest := []) (C := RX1) (T := TX1) (N := 13) (ci := 1) (n := 1) (hk_X1_copyFrom l D K ad hTw_48 r i r2 i hr (by omega : i < 8) hr2 (by omega : i < 8)) rfl (hh_b_h hr (by omega : i < 8)) (hh_E_h r (by omega : i < 8)) (hh_gV hm_116 hm_117 hm_118 hm_103 hm_46) ⟨rfl, rfl⟩ (by decide +kernel) ⟨Nat.le_of_ble_eq_true rfl, Nat.le_of_ble_eq_true rfl⟩ ⟨Nat.zero_le _, Nat.zero_le _⟩ hl.1 rfl rfl (Nat.le_of_ble_eq_true rfl) dX5_copyFrom_68 (fun v_68 H locs hv_68 hp => ?_)
              obtain ⟨ev_68, hTv_68, hF9⟩ := hv_68
              have hFv_68 : hh_F (hh_Pn r (nh r2) (nc r2)) v v_68 := hh_F.tr hFw_48 (hh_F.mo hF9 (fun j k hj => by first | exact hj | (obtain ⟨rfl, hj⟩ := hj; (first | exact ⟨rfl, hj⟩ | exact Or.inl ⟨rfl, hj⟩ | exact Or.inr (Or.inl ⟨rfl, hj⟩) | exact Or.inr (Or.inr ⟨rfl, hj⟩) | exact hh_Pn_k hj | exact hh_Pn_h (by first | assumption | omega) hj | exact hh_Pn_c (by first | assumption | omega) hj | exact hh_Pn_g (by first | assumption | omega) (by decide) hj); done) | (rcases hj with ⟨rfl, hj⟩ | ⟨rfl, hj⟩ | ⟨rfl, hj⟩ <;> first | exact hh_Pn_c (by first | assumption | omega) hj | exact hh_Pn_g (by first | assumption | omega) (by decide) hj) | (have hj := hj; simp only [hh_fu_s] at hj; first | exact hj | exact Or.inl hj) | exact Or.inr hj | exact Or.inl hj | (rw [(rfl : True = True), (rfl : True = True)] at hj; exact hj)))
              clear hF9
              refine lv_iinc (v := (nI (i + 1))) (lv' := [(2, .int (nI (i + 1))), (0, .ref (ad (hh_rI r))), (1, .ref (ad (hh_rI r2)))]) hx hb dX5_copyFrom_71 hl (k := 0) rfl (nI_1 i) (by decide) rfl (fun ls hl => ?_)
              refine lv_goto (tgt := 48) hx hb dX5_copyFrom_74 (by decide) ?_
              exact ih (i + 1) v_68 _ _ _ (by omega) (by omega) (by rw [hh_fld, ← hsL_48]; show _ = hl_X5_copyFrom_48 r r2 i w_48; unfold hl_X5_copyFrom_48; rw [hh_let_eq ev_68]) hTv_68 hFv_68 hp (lv_sub hl [0, 1, 2] rfl)
        exact hL_48 (nh r2 + 1) 0 v_43 _ _ _ (Nat.zero_le _) (by omega) rfl hTv_43 hFv_43 hp (lv_sub hl [0, 1, 2] rfl)
      · have hbc_5 : 6 = nI 6 := rfl
        rw [hbc_5] at c_5
        have hc_5 := (nI_leI (a := 6) (b := i) (by omega) (by omega))
        have hltc_5 : i < 6 := by exact Nat.not_le.mp (fun z => c_5 (hc_5.mpr z))
        refine lv_aload_n hx hb dX5_copyFrom_8 rfl (lv_at hl 1 rfl) ?_
        refine hh_get C0 hp (C := RX5) (T := TX5) (N := 10) (ci := 5) (hh_b_r hr) (hh_E_r r) rfl hh_uX5 1 (by decide) hm_98 rfl rfl dX5_copyFrom_9 ?_
        refine lv_iload_n hx hb dX5_copyFrom_12 rfl (lv_at hl 0 rfl) ?_
        refine lv_aload_n hx hb dX5_copyFrom_13 rfl (lv_at hl 2 rfl) ?_
        refine hh_get C0 hp (C := RX5) (T := TX5) (N := 10) (ci := 5) (hh_b_r hr2) (hh_E_r r2) rfl hh_uX5 1 (by decide) hm_98 rfl rfl dX5_copyFrom_14 ?_
        refine lv_iload_n hx hb dX5_copyFrom_17 rfl (lv_at hl 0 rfl) ?_
        refine hh_ial C0 hp (hh_b_l hr2) (hh_E_l r2) (vp_in_nI (by omega) (by decide)) (nI_clamp (by omega)) dX5_copyFrom_18 ?_
        refine hh_ias C0 hp (hh_b_l hr) (fun _ => (hh_E_l r)) (vp_in_nI (by omega) (by decide)) (nI_clamp (by omega)) dX5_copyFrom_19 (fun H locs hp => ?_)
        obtain ⟨v_19, ev_19⟩ : ∃ z : hh_M, z = hh_up w_2 (hh_lI r) i (w_2 (hh_lI r2) i) := ⟨_, rfl⟩
        rw [← ev_19] at hp
        have hTv_19 : hh_T nm nh nc v_19 := by rw [ev_19]; exact hh_T_up hTw_2 (hh_Rt_l hr)
        have hFv_19 : hh_F (hh_Pn r (nh r2) (nc r2)) v v_19 := by rw [ev_19]; exact hh_F_up hFw_2 (hh_Pn_l (by first | assumption | omega))
        refine lv_aload_n hx hb dX5_copyFrom_20 rfl (lv_at hl 1 rfl) ?_
        refine hh_get C0 hp (C := RX5) (T := TX5) (N := 10) (ci := 5) (hh_b_r hr) (hh_E_r r) rfl hh_uX5 2 (by decide) hm_99 rfl rfl dX5_copyFrom_21 ?_
        refine lv_iload_n hx hb dX5_copyFrom_24 rfl (lv_at hl 0 rfl) ?_
        refine lv_aload_n hx hb dX5_copyFrom_25 rfl (lv_at hl 2 rfl) ?_
        refine hh_get C0 hp (C := RX5) (T := TX5) (N := 10) (ci := 5) (hh_b_r hr2) (hh_E_r r2) rfl hh_uX5 2 (by decide) hm_99 rfl rfl dX5_copyFrom_26 ?_
        refine lv_iload_n hx hb dX5_copyFrom_29 rfl (lv_at hl 0 rfl) ?_
        refine hh_ial C0 hp (hh_b_k hr2) (hh_E_k r2) (vp_in_nI (by omega) (by decide)) (nI_clamp (by omega)) dX5_copyFrom_30 ?_
        refine hh_ias C0 hp (hh_b_k hr) (fun _ => (hh_E_k r)) (vp_in_nI (by omega) (by decide)) (nI_clamp (by omega)) dX5_copyFrom_31 (fun H locs hp => ?_)
        obtain ⟨v_31, ev_31⟩ : ∃ z : hh_M, z = hh_up v_19 (hh_kI r) i (v_19 (hh_kI r2) i) := ⟨_, rfl⟩
        rw [← ev_31] at hp
        have hTv_31 : hh_T nm nh nc v_31 := by rw [ev_31]; exact hh_T_up hTv_19 (hh_Rt_k hr)
        have hFv_31 : hh_F (hh_Pn r (nh r2) (nc r2)) v v_31 := by rw [ev_31]; exact hh_F_up hFv_19 (hh_Pn_k (by first | assumption | omega))
        refine lv_iinc (v := (nI (i + 1))) (lv' := [(2, .int (nI (i + 1))), (0, .ref (ad (hh_rI r))), (1, .ref (ad (hh_rI r2)))]) hx hb dX5_copyFrom_32 hl (k := 0) rfl (nI_1 i) (by decide) rfl (fun ls hl => ?_)
        refine lv_goto (tgt := 2) hx hb dX5_copyFrom_35 (by decide) ?_
        exact ih (i + 1) v_31 _ _ _ (by omega) (by omega) (by rw [hh_fld, ← hsL_2]; show _ = hl_X5_copyFrom_2 r r2 i w_2; unfold hl_X5_copyFrom_2; rw [hh_let_eq ev_19, hh_let_eq ev_31]) hTv_31 hFv_31 hp (lv_sub hl [0, 1, 2] rfl)
  exact hL_2 (6 + 1) 0 v _ _ _ (Nat.zero_le _) (by omega) rfl hT hh_F_rf hp (lv_sub hl [0, 1, 2] rfl)
