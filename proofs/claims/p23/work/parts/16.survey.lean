/-! 16.survey: laid by program (wip/gen/mk10.py) -/
def hf_X6_takeMast (v : hh_M) (r : Nat) (number : Int32) (frequency : Int32) (place : Int32) : hh_M := (hh_let (hf_X5_qualityAt v r number place : Int32) (fun (q_15 : Int32) => (if (v (hh_mI number.toNatClampNeg) 2) = frequency then (hh_let ((if (v 6 place.toNatClampNeg) < q_15 then q_15 else (v 6 place.toNatClampNeg)) : Int32) (fun (x_44 : Int32) => (hh_let (hh_up v 6 place.toNatClampNeg x_44 : hh_M) (fun (v_47 : hh_M) => (hh_let (hf_X3_noiseAt v_47 number.toNatClampNeg place : Int32) (fun (q_60 : Int32) => (hh_let (hh_up v_47 7 place.toNatClampNeg ((v_47 7 place.toNatClampNeg) + q_60) : hh_M) (fun (v_64 : hh_M) => v_64)))))))) else (hh_let ((if (v 5 place.toNatClampNeg) < q_15 then q_15 else (v 5 place.toNatClampNeg)) : Int32) (fun (x_83 : Int32) => (hh_let (hh_up v 5 place.toNatClampNeg x_83 : hh_M) (fun (v_86 : hh_M) => v_86)))))))
set_option maxHeartbeats 4000000 in
set_option maxRecDepth 100000 in
theorem hk_X6_takeMast (l : Launch) (D : va_G) (K : Nat → ClassId) (ad : Nat → Nat) {nm : Nat} {nh nc : Nat → Nat} {v : hh_M} (hT : hh_T nm nh nc v) (r : Nat) (number : Int32) (frequency : Int32) (place : Int32) (hr : r < 2) (h1 : vp_in number 6) (h2 : vp_in place 100) : hh_Kv l D K ad yX6_takeMast (hh_wm yX6_takeMast cX6_takeMast 7 none) { frames := 2, cells := 0, slots := 0, locals := 43 } [.ref (ad 4), .ref (ad (hh_rI r)), .int number, .int frequency, .int place] v (fun (v1 : hh_M) => v1 = hf_X6_takeMast v r number frequency place ∧ (hh_T nm nh nc v1) ∧ hh_F hh_Ps v v1) := by
  refine hh_Kv_of (by decide) (Nat.le_of_ble_eq_true rfl) ?_
  intro p e s m args below meth c ls A C0 hp hl
  obtain ⟨hx, hb, hr9, hml, hown, hts, hK, hlk, hA⟩ := id C0
  have hnm := hT.1
  have hnh := hT.2.1
  have hnc := hT.2.2.1
  have hbHr := hnh r
  have hbCr := hnc r
  have hl : lv_has ls 7 [(0, .ref (ad 4)), (1, .ref (ad (hh_rI r))), (2, .int number), (3, .int frequency), (4, .int place)] := hl
  refine lv_aload_n hx hb dX6_takeMast_0 rfl (lv_at hl 1 rfl) ?_
  refine hh_get C0 hp (C := RX5) (T := TX5) (N := 10) (ci := 5) (hh_b_r hr) (hh_E_r r) rfl hh_uX5 0 (by decide) hm_283 rfl rfl dX6_takeMast_1 ?_
  refine hh_get C0 hp (C := RX4) (T := TX4) (N := 3) (ci := 4) (by decide) hh_E_1 rfl hh_uX4 0 (by decide) hm_290 rfl rfl dX6_takeMast_4 ?_
  refine lv_iload_n hx hb dX6_takeMast_7 rfl (lv_at hl 2 rfl) ?_
  have hin_8 : vp_in number 6 := by assumption
  refine hh_aal C0 hp (t0 := 2) (f := hh_mI) (by decide) hh_E_2 rfl rfl hin_8 rfl dX6_takeMast_8 ?_
  refine lv_astore (lv' := [(5, .ref (ad (hh_mI number.toNatClampNeg))), (0, .ref (ad 4)), (1, .ref (ad (hh_rI r))), (2, .int number), (3, .int frequency), (4, .int place)]) hx hb dX6_takeMast_9 hl (by decide) rfl (fun ls hl => ?_)
  refine lv_aload_n hx hb dX6_takeMast_11 rfl (lv_at hl 2 rfl) ?_
  refine lv_iload_n hx hb dX6_takeMast_12 rfl (lv_at hl 3 rfl) ?_
  refine lv_iload hx hb dX6_takeMast_13 (lv_at hl 5 rfl) ?_
  refine hh_cVi C0 hp (As := [.int number, .int place]) (rest := []) (C := RX5) (T := TX5) (N := 10) (ci := 5) (n := 2) (hk_X5_qualityAt l D K ad hT r number place hr (by assumption) (by assumption)) rfl (hh_b_r hr) (hh_E_r r) (hh_gV hm_296 hm_126 hm_127 hm_128 hm_122) ⟨rfl, rfl⟩ (by decide +kernel) ⟨Nat.le_of_ble_eq_true rfl, Nat.le_of_ble_eq_true rfl⟩ ⟨Nat.zero_le _, Nat.zero_le _⟩ hl.1 rfl rfl (Nat.le_of_ble_eq_true rfl) dX6_takeMast_15 (fun q_15 v_15 H locs hv_15 hp => ?_)
  obtain ⟨eq_15, hv9⟩ := hv_15
  rw [hv9] at hp; clear hv9
  refine lv_istore (lv' := [(6, .int q_15), (5, .ref (ad (hh_mI number.toNatClampNeg))), (0, .ref (ad 4)), (1, .ref (ad (hh_rI r))), (2, .int number), (3, .int frequency), (4, .int place)]) hx hb dX6_takeMast_18 hl (by decide) rfl (fun ls hl => ?_)
  refine lv_aload hx hb dX6_takeMast_20 (lv_at hl 1 rfl) ?_
  refine hh_get C0 hp (C := RX3) (T := TX3) (N := 7) (ci := 3) (hh_b_m (hh_lt hin_8)) (hh_E_m (hh_lt hin_8)) rfl hh_uX3 2 (by decide) hm_291 rfl rfl dX6_takeMast_22 ?_
  refine lv_iload_n hx hb dX6_takeMast_25 rfl (lv_at hl 5 rfl) ?_
  refine lv_icmp_ne (tgt := 68) hx hb dX6_takeMast_26 (by decide) (fun c_26 => ?_) (fun c_26 => ?_)
  · refine lv_aload_n hx hb dX6_takeMast_68 rfl (lv_at hl 2 rfl) ?_
    refine hh_get C0 hp (C := RX6) (T := TX6) (N := 3) (ci := 6) (by decide) hh_E_4 rfl hh_uX6 0 (by decide) hm_279 rfl rfl dX6_takeMast_69 ?_
    refine lv_iload hx hb dX6_takeMast_72 (lv_at hl 6 rfl) ?_
    refine lv_aload_n hx hb dX6_takeMast_74 rfl (lv_at hl 2 rfl) ?_
    refine hh_get C0 hp (C := RX6) (T := TX6) (N := 3) (ci := 6) (by decide) hh_E_4 rfl hh_uX6 0 (by decide) hm_279 rfl rfl dX6_takeMast_75 ?_
    refine lv_iload hx hb dX6_takeMast_78 (lv_at hl 6 rfl) ?_
    have hin_80 : vp_in place 100 := by assumption
    refine hh_ial C0 hp (by decide) hh_E_5 hin_80 rfl dX6_takeMast_80 ?_
    refine lv_iload hx hb dX6_takeMast_81 (lv_at hl 0 rfl) ?_
    refine va_mmax hx hb (hml.trans hl.1.symm) hown (hts _ hm_292) (hts _ hm_293) (hts _ hm_294) (hts _ hm_295) (Nat.le_of_ble_eq_true rfl) (Nat.le_of_ble_eq_true rfl) (Nat.zero_le _) (Nat.zero_le _) dX6_takeMast_83 ?_
    refine lv_topi (fun x_83 ex_83 => ?_)
    have hin_86 : vp_in place 100 := by assumption
    refine hh_ias C0 hp (by decide) (fun _ => hh_E_5) hin_86 rfl dX6_takeMast_86 (fun H locs hp => ?_)
    obtain ⟨v_86, ev_86⟩ : ∃ z : hh_M, z = hh_up v 5 place.toNatClampNeg x_83 := ⟨_, rfl⟩
    rw [← ev_86] at hp
    have hTv_86 : hh_T nm nh nc v_86 := by rw [ev_86]; exact hh_T_up hT (hh_Rt_sU)
    have hFv_86 : hh_F hh_Ps v v_86 := by rw [ev_86]; exact hh_F_up hh_F_rf (hh_Ps_5 (hh_lt hin_86))
    exact hh_vret C0 hp dX6_takeMast_87 ⟨(by show _ = _; unfold hf_X6_takeMast; rw [hh_let_eq eq_15, if_neg c_26, hh_let_eq ex_83, hh_let_eq ev_86]), hTv_86, hFv_86⟩
  · refine lv_aload_n hx hb dX6_takeMast_29 rfl (lv_at hl 2 rfl) ?_
    refine hh_get C0 hp (C := RX6) (T := TX6) (N := 3) (ci := 6) (by decide) hh_E_4 rfl hh_uX6 1 (by decide) hm_280 rfl rfl dX6_takeMast_30 ?_
    refine lv_iload hx hb dX6_takeMast_33 (lv_at hl 6 rfl) ?_
    refine lv_aload_n hx hb dX6_takeMast_35 rfl (lv_at hl 2 rfl) ?_
    refine hh_get C0 hp (C := RX6) (T := TX6) (N := 3) (ci := 6) (by decide) hh_E_4 rfl hh_uX6 1 (by decide) hm_280 rfl rfl dX6_takeMast_36 ?_
    refine lv_iload hx hb dX6_takeMast_39 (lv_at hl 6 rfl) ?_
    have hin_41 : vp_in place 100 := by assumption
    refine hh_ial C0 hp (by decide) hh_E_6 hin_41 rfl dX6_takeMast_41 ?_
    refine lv_iload hx hb dX6_takeMast_42 (lv_at hl 0 rfl) ?_
    refine va_mmax hx hb (hml.trans hl.1.symm) hown (hts _ hm_292) (hts _ hm_293) (hts _ hm_294) (hts _ hm_295) (Nat.le_of_ble_eq_true rfl) (Nat.le_of_ble_eq_true rfl) (Nat.zero_le _) (Nat.zero_le _) dX6_takeMast_44 ?_
    refine lv_topi (fun x_44 ex_44 => ?_)
    have hin_47 : vp_in place 100 := by assumption
    refine hh_ias C0 hp (by decide) (fun _ => hh_E_6) hin_47 rfl dX6_takeMast_47 (fun H locs hp => ?_)
    obtain ⟨v_47, ev_47⟩ : ∃ z : hh_M, z = hh_up v 6 place.toNatClampNeg x_44 := ⟨_, rfl⟩
    rw [← ev_47] at hp
    have hTv_47 : hh_T nm nh nc v_47 := by rw [ev_47]; exact hh_T_up hT (hh_Rt_sD)
    have hFv_47 : hh_F hh_Ps v v_47 := by rw [ev_47]; exact hh_F_up hh_F_rf (hh_Ps_6 (hh_lt hin_47))
    refine lv_aload_n hx hb dX6_takeMast_48 rfl (lv_at hl 2 rfl) ?_
    refine hh_get C0 hp (C := RX6) (T := TX6) (N := 3) (ci := 6) (by decide) hh_E_4 rfl hh_uX6 2 (by decide) hm_281 rfl rfl dX6_takeMast_49 ?_
    refine lv_iload hx hb dX6_takeMast_52 (lv_at hl 6 rfl) ?_
    refine lv_dup2_11 hx hb dX6_takeMast_54 rfl rfl ?_
    have hin_55 : vp_in place 100 := by assumption
    refine hh_ial C0 hp (by decide) hh_E_7 hin_55 rfl dX6_takeMast_55 ?_
    refine lv_aload hx hb dX6_takeMast_56 (lv_at hl 1 rfl) ?_
    refine lv_iload hx hb dX6_takeMast_58 (lv_at hl 6 rfl) ?_
    refine hh_cVi C0 hp (As := [.int place]) (rest := [.int (v_47 7 place.toNatClampNeg), .int place, .ref (ad 7)]) (C := RX3) (T := TX3) (N := 7) (ci := 3) (n := 1) (hk_X3_noiseAt l D K ad hTv_47 number.toNatClampNeg place (hh_lt hin_8)) rfl (hh_b_m (hh_lt hin_8)) (hh_E_m (hh_lt hin_8)) (hh_gV hm_297 hm_90 hm_91 hm_63 hm_57) ⟨rfl, rfl⟩ (by decide +kernel) ⟨Nat.le_of_ble_eq_true rfl, Nat.le_of_ble_eq_true rfl⟩ ⟨Nat.zero_le _, Nat.zero_le _⟩ hl.1 rfl rfl (Nat.le_of_ble_eq_true rfl) dX6_takeMast_60 (fun q_60 v_60 H locs hv_60 hp => ?_)
    obtain ⟨eq_60, hv9⟩ := hv_60
    rw [hv9] at hp; clear hv9
    refine lv_iadd hx hb dX6_takeMast_63 ?_
    have hin_64 : vp_in place 100 := by assumption
    refine hh_ias C0 hp (by decide) (fun _ => hh_E_7) hin_64 rfl dX6_takeMast_64 (fun H locs hp => ?_)
    obtain ⟨v_64, ev_64⟩ : ∃ z : hh_M, z = hh_up v_47 7 place.toNatClampNeg ((v_47 7 place.toNatClampNeg) + q_60) := ⟨_, rfl⟩
    rw [← ev_64] at hp
    have hTv_64 : hh_T nm nh nc v_64 := by rw [ev_64]; exact hh_T_up hTv_47 (hh_Rt_sN)
    have hFv_64 : hh_F hh_Ps v v_64 := by rw [ev_64]; exact hh_F_up hFv_47 (hh_Ps_7 (hh_lt hin_64))
    refine lv_goto (tgt := 87) hx hb dX6_takeMast_65 (by decide) ?_
    exact hh_vret C0 hp dX6_takeMast_87 ⟨(by show _ = _; unfold hf_X6_takeMast; rw [hh_let_eq eq_15, if_pos c_26, hh_let_eq ex_44, hh_let_eq ev_47, hh_let_eq eq_60, hh_let_eq ev_64]), hTv_64, hFv_64⟩
def hl_X6_take_36 (r : Nat) (frequency : Int32) (i : Nat) (j : Nat) (w_36 : hh_M) : hh_M := (hh_let (hf_X6_takeMast w_36 r (nI j) frequency (nI i) : hh_M) (fun (v_54 : hh_M) => v_54))
def hl_X6_take_2 (r : Nat) (frequency : Int32) (i : Nat) (w_2 : hh_M) : hh_M := (hh_let (hh_up w_2 5 i (-1000) : hh_M) (fun (v_16 : hh_M) => (hh_let (hh_up v_16 6 i (-1000) : hh_M) (fun (v_25 : hh_M) => (hh_let (hh_up v_25 7 i 0 : hh_M) (fun (v_32 : hh_M) => (hh_let (hh_fld (fun (i9 : Nat) (z : hh_M) => hl_X6_take_36 r frequency i i9 z) ((v_32 1 2).toNatClampNeg) v_32 : hh_M) (fun (w_36 : hh_M) => w_36))))))))
def hf_X6_take (v : hh_M) (r : Nat) (frequency : Int32) : hh_M := (hh_let (hh_fld (fun (i9 : Nat) (z : hh_M) => hl_X6_take_2 r frequency i9 z) 100 v : hh_M) (fun (w_2 : hh_M) => w_2))
set_option maxHeartbeats 4000000 in
set_option maxRecDepth 100000 in
theorem hk_X6_take (l : Launch) (D : va_G) (K : Nat → ClassId) (ad : Nat → Nat) {nm : Nat} {nh nc : Nat → Nat} {v : hh_M} (hT : hh_T nm nh nc v) (r : Nat) (frequency : Int32) (hr : r < 2) : hh_Kv l D K ad yX6_take (hh_wm yX6_take cX6_take 5 none) { frames := 3, cells := 0, slots := 0, locals := 69 } [.ref (ad 4), .ref (ad (hh_rI r)), .int frequency] v (fun (v1 : hh_M) => v1 = hf_X6_take v r frequency ∧ (hh_T nm nh nc v1) ∧ hh_F hh_Ps v v1) := by
  refine hh_Kv_of (by decide) (Nat.le_of_ble_eq_true rfl) ?_
  intro p e s m args below meth c ls A C0 hp hl
  obtain ⟨hx, hb, hr9, hml, hown, hts, hK, hlk, hA⟩ := id C0
  have hnm := hT.1
  have hnh := hT.2.1
  have hnc := hT.2.2.1
  have hbHr := hnh r
  have hbCr := hnc r
  have hl : lv_has ls 5 [(0, .ref (ad 4)), (1, .ref (ad (hh_rI r))), (2, .int frequency)] := hl
  refine lv_iconst (v := 0) hx hb dX6_take_0 (by decide) ?_
  refine lv_istore_n (lv' := [(3, .int 0), (0, .ref (ad 4)), (1, .ref (ad (hh_rI r))), (2, .int frequency)]) hx hb dX6_take_1 rfl hl (by decide) rfl (fun ls hl => ?_)
  have hL_2 : ∀ (n i : Nat) (w_2 : hh_M) (H : Heap) (locs : List Loc) (ls : Array Slot), i ≤ 100 → 100 - i < n → w_2 = hh_fld (fun (i9 : Nat) (z : hh_M) => hl_X6_take_2 r frequency i9 z) i v → hh_T nm nh nc w_2 → hh_F hh_Ps v w_2 → hh_H D K ad A s.heap w_2 H locs → lv_has ls 5 [(3, .int (nI i)), (0, .ref (ad 4)), (1, .ref (ad (hh_rI r))), (2, .int frequency)] → W p l e ({ frames := 3, cells := 0, slots := 0, locals := 69 } : Room) s m args below meth c H locs 0 0 (MQ below (va_Qv (fun (v1 : hh_M) => v1 = hf_X6_take v r frequency ∧ (hh_T nm nh nc v1) ∧ hh_F hh_Ps v v1) (hh_B D K ad A) A) args s 0 0 A) (F0 m 2 ls []) := by
    intro n
    induction n with
    | zero => intro i w_2 H locs ls h1 h2; omega
    | succ n ih =>
      intro i w_2 H locs ls hii hni hsL_2 hTw_2 hFw_2 hp hl
      refine lv_iload_n hx hb dX6_take_2 rfl (lv_at hl 0 rfl) ?_
      refine lv_bipush (v := 100) hx hb dX6_take_3 (by decide) ?_
      refine lv_icmp_ge (tgt := 69) hx hb dX6_take_5 (by decide) (fun c_5 => ?_) (fun c_5 => ?_)
      · have hbc_5 : 100 = nI 100 := rfl
        rw [hbc_5] at c_5
        have hc_5 := (nI_leI (a := 100) (b := i) (by omega) (by omega))
        have hltc_5 : 100 ≤ i := by exact hc_5.mp c_5
        have hNL_2 : i = 100 := by omega
        rw [hNL_2] at hsL_2
        have ew_2 : w_2 = hh_fld (fun (i9 : Nat) (z : hh_M) => hl_X6_take_2 r frequency i9 z) 100 v := hsL_2
        clear ih hsL_2
        exact hh_vret C0 hp dX6_take_69 ⟨(by show _ = _; unfold hf_X6_take; rw [hh_let_eq ew_2]), hTw_2, hFw_2⟩
      · have hbc_5 : 100 = nI 100 := rfl
        rw [hbc_5] at c_5
        have hc_5 := (nI_leI (a := 100) (b := i) (by omega) (by omega))
        have hltc_5 : i < 100 := by exact Nat.not_le.mp (fun z => c_5 (hc_5.mpr z))
        refine lv_aload_n hx hb dX6_take_8 rfl (lv_at hl 1 rfl) ?_
        refine hh_get C0 hp (C := RX6) (T := TX6) (N := 3) (ci := 6) (by decide) hh_E_4 rfl hh_uX6 0 (by decide) hm_279 rfl rfl dX6_take_9 ?_
        refine lv_iload_n hx hb dX6_take_12 rfl (lv_at hl 0 rfl) ?_
        refine lv_sipush (v := (-1000)) hx hb dX6_take_13 (by decide) ?_
        refine hh_ias C0 hp (by decide) (fun _ => hh_E_5) (vp_in_nI (by omega) (by decide)) (nI_clamp (by omega)) dX6_take_16 (fun H locs hp => ?_)
        obtain ⟨v_16, ev_16⟩ : ∃ z : hh_M, z = hh_up w_2 5 i (-1000) := ⟨_, rfl⟩
        rw [← ev_16] at hp
        have hTv_16 : hh_T nm nh nc v_16 := by rw [ev_16]; exact hh_T_up hTw_2 (hh_Rt_sU)
        have hFv_16 : hh_F hh_Ps v v_16 := by rw [ev_16]; exact hh_F_up hFw_2 (hh_Ps_5 (by first | assumption | omega))
        refine lv_aload_n hx hb dX6_take_17 rfl (lv_at hl 1 rfl) ?_
        refine hh_get C0 hp (C := RX6) (T := TX6) (N := 3) (ci := 6) (by decide) hh_E_4 rfl hh_uX6 1 (by decide) hm_280 rfl rfl dX6_take_18 ?_
        refine lv_iload_n hx hb dX6_take_21 rfl (lv_at hl 0 rfl) ?_
        refine lv_sipush (v := (-1000)) hx hb dX6_take_22 (by decide) ?_
        refine hh_ias C0 hp (by decide) (fun _ => hh_E_6) (vp_in_nI (by omega) (by decide)) (nI_clamp (by omega)) dX6_take_25 (fun H locs hp => ?_)
        obtain ⟨v_25, ev_25⟩ : ∃ z : hh_M, z = hh_up v_16 6 i (-1000) := ⟨_, rfl⟩
        rw [← ev_25] at hp
        have hTv_25 : hh_T nm nh nc v_25 := by rw [ev_25]; exact hh_T_up hTv_16 (hh_Rt_sD)
        have hFv_25 : hh_F hh_Ps v v_25 := by rw [ev_25]; exact hh_F_up hFv_16 (hh_Ps_6 (by first | assumption | omega))
        refine lv_aload_n hx hb dX6_take_26 rfl (lv_at hl 1 rfl) ?_
        refine hh_get C0 hp (C := RX6) (T := TX6) (N := 3) (ci := 6) (by decide) hh_E_4 rfl hh_uX6 2 (by decide) hm_281 rfl rfl dX6_take_27 ?_
        refine lv_iload_n hx hb dX6_take_30 rfl (lv_at hl 0 rfl) ?_
        refine lv_iconst (v := 0) hx hb dX6_take_31 (by decide) ?_
        refine hh_ias C0 hp (by decide) (fun _ => hh_E_7) (vp_in_nI (by omega) (by decide)) (nI_clamp (by omega)) dX6_take_32 (fun H locs hp => ?_)
        obtain ⟨v_32, ev_32⟩ : ∃ z : hh_M, z = hh_up v_25 7 i 0 := ⟨_, rfl⟩
        rw [← ev_32] at hp
        have hTv_32 : hh_T nm nh nc v_32 := by rw [ev_32]; exact hh_T_up hTv_25 (hh_Rt_sN)
        have hFv_32 : hh_F hh_Ps v v_32 := by rw [ev_32]; exact hh_F_up hFv_25 (hh_Ps_7 (by first | assumption | omega))
        refine lv_iconst (v := 0) hx hb dX6_take_33 (by decide) ?_
        refine lv_istore (lv' := [(4, .int 0), (3, .int (nI i)), (0, .ref (ad 4)), (1, .ref (ad (hh_rI r))), (2, .int frequency)]) hx hb dX6_take_34 hl (by decide) rfl (fun ls hl => ?_)
        have hL_36 : ∀ (n j : Nat) (w_36 : hh_M) (H : Heap) (locs : List Loc) (ls : Array Slot), j ≤ nm → nm - j < n → w_36 = hh_fld (fun (i9 : Nat) (z : hh_M) => hl_X6_take_36 r frequency i i9 z) j v_32 → hh_T nm nh nc w_36 → hh_F hh_Ps v w_36 → hh_H D K ad A s.heap w_36 H locs → lv_has ls 5 [(4, .int (nI j)), (3, .int (nI i)), (0, .ref (ad 4)), (1, .ref (ad (hh_rI r))), (2, .int frequency)] → W p l e ({ frames := 3, cells := 0, slots := 0, locals := 69 } : Room) s m args below meth c H locs 0 0 (MQ below (va_Qv (fun (v1 : hh_M) => v1 = hf_X6_take v r frequency ∧ (hh_T nm nh nc v1) ∧ hh_F hh_Ps v v1) (hh_B D K ad A) A) args s 0 0 A) (F0 m 36 ls []) := by
          intro n
          induction n with
          | zero => intro j w_36 H locs ls h1 h2; omega
          | succ n ih =>
            intro j w_36 H locs ls hij hnj hsL_36 hTw_36 hFw_36 hp hl
            refine lv_iload hx hb dX6_take_36 (lv_at hl 0 rfl) ?_
            refine lv_aload_n hx hb dX6_take_38 rfl (lv_at hl 3 rfl) ?_
            refine hh_get C0 hp (C := RX5) (T := TX5) (N := 10) (ci := 5) (hh_b_r hr) (hh_E_r r) rfl hh_uX5 0 (by decide) hm_283 rfl rfl dX6_take_39 ?_
            refine hh_get C0 hp (C := RX4) (T := TX4) (N := 3) (ci := 4) (by decide) hh_E_1 rfl hh_uX4 2 (by decide) hm_284 rfl rfl dX6_take_42 ?_
            refine lv_icmp_ge (tgt := 63) hx hb dX6_take_45 (by decide) (fun c_45 => ?_) (fun c_45 => ?_)
            · have hbc_45 : (w_36 1 2) = nI nm := hh_T_M hTw_36
              rw [hbc_45] at c_45
              have hc_45 := (nI_leI (a := nm) (b := j) (by omega) (by omega))
              have hltc_45 : nm ≤ j := by exact hc_45.mp c_45
              have hNL_36 : j = nm := by omega
              rw [hNL_36] at hsL_36
              have hsL_36 : w_36 = hh_fld (fun (i9 : Nat) (z : hh_M) => hl_X6_take_36 r frequency i i9 z) ((v_32 1 2).toNatClampNeg) v_32 := by rw [hsL_36, show (v_32 1 2).toNatClampNeg = nm from by rw [hh_T_M hTv_32]; exact nI_clamp (by omega)]
              have ew_36 : w_36 = hh_fld (fun (i9 : Nat) (z : hh_M) => hl_X6_take_36 r frequency i i9 z) ((v_32 1 2).toNatClampNeg) v_32 := hsL_36
              clear ih hsL_36
              refine lv_iinc (v := (nI (i + 1))) (lv' := [(3, .int (nI (i + 1))), (4, .int (nI j)), (0, .ref (ad 4)), (1, .ref (ad (hh_rI r))), (2, .int frequency)]) hx hb dX6_take_63 hl (k := 1) rfl (nI_1 i) (by decide) rfl (fun ls hl => ?_)
              refine lv_goto (tgt := 2) hx hb dX6_take_66 (by decide) ?_
              exact ih (i + 1) w_36 _ _ _ (by omega) (by omega) (by rw [hh_fld, ← hsL_2]; show _ = hl_X6_take_2 r frequency i w_2; unfold hl_X6_take_2; rw [hh_let_eq ev_16, hh_let_eq ev_25, hh_let_eq ev_32, hh_let_eq ew_36]) hTw_36 hFw_36 hp (lv_sub hl [0, 2, 3, 4] rfl)
            · have hbc_45 : (w_36 1 2) = nI nm := hh_T_M hTw_36
              rw [hbc_45] at c_45
              have hc_45 := (nI_leI (a := nm) (b := j) (by omega) (by omega))
              have hltc_45 : j < nm := by exact Nat.not_le.mp (fun z => c_45 (hc_45.mpr z))
              refine lv_aload_n hx hb dX6_take_48 rfl (lv_at hl 2 rfl) ?_
              refine lv_aload_n hx hb dX6_take_49 rfl (lv_at hl 3 rfl) ?_
              refine lv_iload hx hb dX6_take_50 (lv_at hl 0 rfl) ?_
              refine lv_iload_n hx hb dX6_take_52 rfl (lv_at hl 4 rfl) ?_
              refine lv_iload_n hx hb dX6_take_53 rfl (lv_at hl 1 rfl) ?_
              refine hh_cVv C0 hp (As := [.ref (ad (hh_rI r)), .int (nI j), .int frequency, .int (nI i)]) (rest := []) (C := RX6) (T := TX6) (N := 3) (ci := 6) (n := 4) (hk_X6_takeMast l D K ad hTw_36 r (nI j) frequency (nI i) hr (vp_in_nI (by omega) (by decide)) (vp_in_nI (by omega) (by decide))) rfl (by decide) hh_E_4 (hh_gV hm_285 hm_286 hm_287 hm_288 hm_289) ⟨rfl, rfl⟩ (by decide +kernel) ⟨Nat.le_of_ble_eq_true rfl, Nat.le_of_ble_eq_true rfl⟩ ⟨Nat.zero_le _, Nat.zero_le _⟩ hl.1 rfl rfl (Nat.le_of_ble_eq_true rfl) dX6_take_54 (fun v_54 H locs hv_54 hp => ?_)
              obtain ⟨ev_54, hTv_54, hF9⟩ := hv_54
              have hFv_54 : hh_F hh_Ps v v_54 := hh_F.tr hFw_36 (hh_F.mo hF9 (fun j k hj => by first | exact hj | (obtain ⟨rfl, hj⟩ := hj; (first | exact ⟨rfl, hj⟩ | exact Or.inl ⟨rfl, hj⟩ | exact Or.inr (Or.inl ⟨rfl, hj⟩) | exact Or.inr (Or.inr ⟨rfl, hj⟩) | exact hh_Pn_k hj | exact hh_Pn_h (by first | assumption | omega) hj | exact hh_Pn_c (by first | assumption | omega) hj | exact hh_Pn_g (by first | assumption | omega) (by decide) hj); done) | (rcases hj with ⟨rfl, hj⟩ | ⟨rfl, hj⟩ | ⟨rfl, hj⟩ <;> first | exact hh_Pn_c (by first | assumption | omega) hj | exact hh_Pn_g (by first | assumption | omega) (by decide) hj) | (have hj := hj; simp only [hh_fu_s] at hj; first | exact hj | exact Or.inl hj) | exact Or.inr hj | exact Or.inl hj | (rw [(rfl : True = True), (rfl : True = True)] at hj; exact hj)))
              clear hF9
              refine lv_iinc (v := (nI (j + 1))) (lv' := [(4, .int (nI (j + 1))), (3, .int (nI i)), (0, .ref (ad 4)), (1, .ref (ad (hh_rI r))), (2, .int frequency)]) hx hb dX6_take_57 hl (k := 0) rfl (nI_1 j) (by decide) rfl (fun ls hl => ?_)
              refine lv_goto (tgt := 36) hx hb dX6_take_60 (by decide) ?_
              exact ih (j + 1) v_54 _ _ _ (by omega) (by omega) (by rw [hh_fld, ← hsL_36]; show _ = hl_X6_take_36 r frequency i j w_36; unfold hl_X6_take_36; rw [hh_let_eq ev_54]) hTv_54 hFv_54 hp (lv_sub hl [0, 1, 2, 3, 4] rfl)
        exact hL_36 (nm + 1) 0 v_32 _ _ _ (Nat.zero_le _) (by omega) rfl hTv_32 hFv_32 hp (lv_sub hl [0, 1, 2, 3, 4] rfl)
  exact hL_2 (100 + 1) 0 v _ _ _ (Nat.zero_le _) (by omega) rfl hT hh_F_rf hp (lv_sub hl [0, 1, 2, 3] rfl)
def hl_X6_servedFrom_5 (v : hh_M) (newPlace : Int32) (power : Int32) (i : Nat) (a5_3 : Int32) : Int32 := (hh_let ((if 0 ≤ (newPlace - (nI i)) then (newPlace - (nI i)) else 0 - (newPlace - (nI i))) : Int32) (fun (x_17 : Int32) => (hh_let ((power - x_17) : Int32) (fun (x_21 : Int32) => (hh_let ((if x_21 ≤ 0 then 0 else (x_21 / 3)) : Int32) (fun (j36_0 : Int32) => (if 5 ≤ (v 5 i) then (hh_let ((a5_3 + 1) : Int32) (fun (x_77 : Int32) => x_77)) else (if 5 ≤ ((v 6 i) - j36_0) then (hh_let ((a5_3 + 1) : Int32) (fun (x_77 : Int32) => x_77)) else (if (x_21 - (v 7 i)) < 5 then a5_3 else (hh_let ((a5_3 + 1) : Int32) (fun (x_77 : Int32) => x_77)))))))))))
def hf_X6_servedFrom (v : hh_M) (newPlace : Int32) (power : Int32) : Int32 := (hh_let (hh_fld (fun (i9 : Nat) (z : Int32) => hl_X6_servedFrom_5 v newPlace power i9 z) 100 0 : Int32) (fun (a5_3 : Int32) => a5_3))
set_option maxHeartbeats 4000000 in
set_option maxRecDepth 100000 in
theorem hk_X6_servedFrom (l : Launch) (D : va_G) (K : Nat → ClassId) (ad : Nat → Nat) {nm : Nat} {nh nc : Nat → Nat} {v : hh_M} (hT : hh_T nm nh nc v) (newPlace : Int32) (power : Int32) : hh_Ki l D K ad yX6_servedFrom (hh_wm yX6_servedFrom cX6_servedFrom 7 (some .int)) { frames := 1, cells := 0, slots := 0, locals := 21 } [.ref (ad 4), .int newPlace, .int power] v (fun (q : Int32) (v1 : hh_M) => q = hf_X6_servedFrom v newPlace power ∧ v1 = v) := by
  refine hh_Ki_of (by decide) (Nat.le_of_ble_eq_true rfl) ?_
  intro p e s m args below meth c ls A C0 hp hl
  obtain ⟨hx, hb, hr9, hml, hown, hts, hK, hlk, hA⟩ := id C0
  have hnm := hT.1
  have hnh := hT.2.1
  have hnc := hT.2.2.1
  have hl : lv_has ls 7 [(0, .ref (ad 4)), (1, .int newPlace), (2, .int power)] := hl
  refine lv_iconst (v := 0) hx hb dX6_servedFrom_0 (by decide) ?_
  refine lv_istore_n (lv' := [(3, .int 0), (0, .ref (ad 4)), (1, .int newPlace), (2, .int power)]) hx hb dX6_servedFrom_1 rfl hl (by decide) rfl (fun ls hl => ?_)
  refine lv_iconst (v := 0) hx hb dX6_servedFrom_2 (by decide) ?_
  refine lv_istore (lv' := [(4, .int 0), (3, .int 0), (0, .ref (ad 4)), (1, .int newPlace), (2, .int power)]) hx hb dX6_servedFrom_3 hl (by decide) rfl (fun ls hl => ?_)
  have hL_5 : ∀ (n i : Nat) (a5_3 : Int32) (H : Heap) (locs : List Loc) (ls : Array Slot), i ≤ 100 → 100 - i < n → a5_3 = hh_fld (fun (i9 : Nat) (z : Int32) => hl_X6_servedFrom_5 v newPlace power i9 z) i 0 → hh_H D K ad A s.heap v H locs → lv_has ls 7 [(4, .int (nI i)), (3, .int a5_3), (0, .ref (ad 4)), (1, .int newPlace), (2, .int power)] → W p l e ({ frames := 1, cells := 0, slots := 0, locals := 21 } : Room) s m args below meth c H locs 0 0 (MQ below (va_Qi (fun (q : Int32) (v1 : hh_M) => q = hf_X6_servedFrom v newPlace power ∧ v1 = v) (hh_B D K ad A) A) args s 0 0 A) (F0 m 5 ls []) := by
    intro n
    induction n with
    | zero => intro i a5_3 H locs ls h1 h2; omega
    | succ n ih =>
      intro i a5_3 H locs ls hii hni hsL_5 hp hl
      refine lv_iload hx hb dX6_servedFrom_5 (lv_at hl 0 rfl) ?_
      refine lv_bipush (v := 100) hx hb dX6_servedFrom_7 (by decide) ?_
      refine lv_icmp_ge (tgt := 86) hx hb dX6_servedFrom_9 (by decide) (fun c_9 => ?_) (fun c_9 => ?_)
      · have hbc_9 : 100 = nI 100 := rfl
        rw [hbc_9] at c_9
        have hc_9 := (nI_leI (a := 100) (b := i) (by omega) (by omega))
        have hltc_9 : 100 ≤ i := by exact hc_9.mp c_9
        have hNL_5 : i = 100 := by omega
        rw [hNL_5] at hsL_5
        have ea5_3 : a5_3 = hh_fld (fun (i9 : Nat) (z : Int32) => hl_X6_servedFrom_5 v newPlace power i9 z) 100 0 := hsL_5
        clear ih hsL_5
        refine lv_iload_n hx hb dX6_servedFrom_86 rfl (lv_at hl 1 rfl) ?_
        exact hh_iret C0 hp dX6_servedFrom_87 ⟨(by unfold hf_X6_servedFrom; rw [hh_let_eq ea5_3]), rfl⟩
      · have hbc_9 : 100 = nI 100 := rfl
        rw [hbc_9] at c_9
        have hc_9 := (nI_leI (a := 100) (b := i) (by omega) (by omega))
        have hltc_9 : i < 100 := by exact Nat.not_le.mp (fun z => c_9 (hc_9.mpr z))
        refine lv_iload_n hx hb dX6_servedFrom_12 rfl (lv_at hl 4 rfl) ?_
        refine lv_iload_n hx hb dX6_servedFrom_13 rfl (lv_at hl 3 rfl) ?_
        refine lv_iload hx hb dX6_servedFrom_14 (lv_at hl 0 rfl) ?_
        refine lv_isub hx hb dX6_servedFrom_16 ?_
        refine va_mabs hx hb (hml.trans hl.1.symm) hown (hts _ hm_303) (hts _ hm_304) (hts _ hm_294) (hts _ hm_305) (Nat.le_of_ble_eq_true rfl) (Nat.le_of_ble_eq_true rfl) (Nat.zero_le _) (Nat.zero_le _) dX6_servedFrom_17 ?_
        refine lv_topi (fun x_17 ex_17 => ?_)
        refine lv_isub hx hb dX6_servedFrom_20 ?_
        refine lv_topi (fun x_21 ex_21 => ?_)
        refine lv_istore (lv' := [(5, .int x_21), (4, .int (nI i)), (3, .int a5_3), (0, .ref (ad 4)), (1, .int newPlace), (2, .int power)]) hx hb dX6_servedFrom_21 hl (by decide) rfl (fun ls hl => ?_)
        have hJ_36 : ∀ (j36_0 : Int32) (H : Heap) (locs : List Loc) (ls : Array Slot), j36_0 = (if x_21 ≤ 0 then 0 else (x_21 / 3)) → hh_H D K ad A s.heap v H locs → lv_has ls 7 [(5, .int x_21), (4, .int (nI i)), (3, .int a5_3), (0, .ref (ad 4)), (1, .int newPlace), (2, .int power)] → W p l e ({ frames := 1, cells := 0, slots := 0, locals := 21 } : Room) s m args below meth c H locs 0 0 (MQ below (va_Qi (fun (q : Int32) (v1 : hh_M) => q = hf_X6_servedFrom v newPlace power ∧ v1 = v) (hh_B D K ad A) A) args s 0 0 A) (F0 m 36 ls [.int j36_0]) := by
          intro j36_0 H locs ls eJ_36 hp hl
          have ej36_0 : j36_0 = (if x_21 ≤ 0 then 0 else (x_21 / 3)) := eJ_36
          clear eJ_36
          refine lv_istore (lv' := [(6, .int j36_0), (5, .int x_21), (4, .int (nI i)), (3, .int a5_3), (0, .ref (ad 4)), (1, .int newPlace), (2, .int power)]) hx hb dX6_servedFrom_36 hl (by decide) rfl (fun ls hl => ?_)
          refine lv_aload_n hx hb dX6_servedFrom_38 rfl (lv_at hl 4 rfl) ?_
          refine hh_get C0 hp (C := RX6) (T := TX6) (N := 3) (ci := 6) (by decide) hh_E_4 rfl hh_uX6 0 (by decide) hm_279 rfl rfl dX6_servedFrom_39 ?_
          refine lv_iload hx hb dX6_servedFrom_42 (lv_at hl 2 rfl) ?_
          refine hh_ial C0 hp (by decide) hh_E_5 (vp_in_nI (by omega) (by decide)) (nI_clamp (by omega)) dX6_servedFrom_44 ?_
          refine lv_iconst (v := 5) hx hb dX6_servedFrom_45 (by decide) ?_
          refine lv_icmp_ge (tgt := 77) hx hb dX6_servedFrom_46 (by decide) (fun c_46 => ?_) (fun c_46 => ?_)
          · obtain ⟨x_77, ex_77⟩ : ∃ z : Int32, z = (a5_3 + 1) := ⟨_, rfl⟩
            refine lv_iinc (v := x_77) (lv' := [(3, .int x_77), (6, .int j36_0), (5, .int x_21), (4, .int (nI i)), (0, .ref (ad 4)), (1, .int newPlace), (2, .int power)]) hx hb dX6_servedFrom_77 hl (k := 3) rfl (by rw [ex_77]; rfl) (by decide) rfl (fun ls hl => ?_)
            refine lv_iinc (v := (nI (i + 1))) (lv' := [(4, .int (nI (i + 1))), (3, .int x_77), (6, .int j36_0), (5, .int x_21), (0, .ref (ad 4)), (1, .int newPlace), (2, .int power)]) hx hb dX6_servedFrom_80 hl (k := 3) rfl (nI_1 i) (by decide) rfl (fun ls hl => ?_)
            refine lv_goto (tgt := 5) hx hb dX6_servedFrom_83 (by decide) ?_
            exact ih (i + 1) x_77 _ _ _ (by omega) (by omega) (by rw [hh_fld, ← hsL_5]; show _ = hl_X6_servedFrom_5 v newPlace power i a5_3; unfold hl_X6_servedFrom_5; rw [hh_let_eq ex_17, hh_let_eq ex_21, hh_let_eq ej36_0, if_pos c_46, hh_let_eq ex_77]) hp (lv_sub hl [0, 1, 4, 5, 6] rfl)
          · refine lv_aload_n hx hb dX6_servedFrom_49 rfl (lv_at hl 4 rfl) ?_
            refine hh_get C0 hp (C := RX6) (T := TX6) (N := 3) (ci := 6) (by decide) hh_E_4 rfl hh_uX6 1 (by decide) hm_280 rfl rfl dX6_servedFrom_50 ?_
            refine lv_iload hx hb dX6_servedFrom_53 (lv_at hl 2 rfl) ?_
            refine hh_ial C0 hp (by decide) hh_E_6 (vp_in_nI (by omega) (by decide)) (nI_clamp (by omega)) dX6_servedFrom_55 ?_
            refine lv_iload hx hb dX6_servedFrom_56 (lv_at hl 0 rfl) ?_
            refine lv_isub hx hb dX6_servedFrom_58 ?_
            refine lv_iconst (v := 5) hx hb dX6_servedFrom_59 (by decide) ?_
            refine lv_icmp_ge (tgt := 77) hx hb dX6_servedFrom_60 (by decide) (fun c_60 => ?_) (fun c_60 => ?_)
            · obtain ⟨x_77, ex_77⟩ : ∃ z : Int32, z = (a5_3 + 1) := ⟨_, rfl⟩
              refine lv_iinc (v := x_77) (lv' := [(3, .int x_77), (6, .int j36_0), (5, .int x_21), (4, .int (nI i)), (0, .ref (ad 4)), (1, .int newPlace), (2, .int power)]) hx hb dX6_servedFrom_77 hl (k := 3) rfl (by rw [ex_77]; rfl) (by decide) rfl (fun ls hl => ?_)
              refine lv_iinc (v := (nI (i + 1))) (lv' := [(4, .int (nI (i + 1))), (3, .int x_77), (6, .int j36_0), (5, .int x_21), (0, .ref (ad 4)), (1, .int newPlace), (2, .int power)]) hx hb dX6_servedFrom_80 hl (k := 3) rfl (nI_1 i) (by decide) rfl (fun ls hl => ?_)
              refine lv_goto (tgt := 5) hx hb dX6_servedFrom_83 (by decide) ?_
              exact ih (i + 1) x_77 _ _ _ (by omega) (by omega) (by rw [hh_fld, ← hsL_5]; show _ = hl_X6_servedFrom_5 v newPlace power i a5_3; unfold hl_X6_servedFrom_5; rw [hh_let_eq ex_17, hh_let_eq ex_21, hh_let_eq ej36_0, if_neg c_46, if_pos c_60, hh_let_eq ex_77]) hp (lv_sub hl [0, 1, 4, 5, 6] rfl)
            · refine lv_iload hx hb dX6_servedFrom_63 (lv_at hl 1 rfl) ?_
              refine lv_aload_n hx hb dX6_servedFrom_65 rfl (lv_at hl 4 rfl) ?_
              refine hh_get C0 hp (C := RX6) (T := TX6) (N := 3) (ci := 6) (by decide) hh_E_4 rfl hh_uX6 2 (by decide) hm_281 rfl rfl dX6_servedFrom_66 ?_
              refine lv_iload hx hb dX6_servedFrom_69 (lv_at hl 2 rfl) ?_
              refine hh_ial C0 hp (by decide) hh_E_7 (vp_in_nI (by omega) (by decide)) (nI_clamp (by omega)) dX6_servedFrom_71 ?_
              refine lv_isub hx hb dX6_servedFrom_72 ?_
              refine lv_iconst (v := 5) hx hb dX6_servedFrom_73 (by decide) ?_
              refine lv_icmp_lt (tgt := 80) hx hb dX6_servedFrom_74 (by decide) (fun c_74 => ?_) (fun c_74 => ?_)
              · refine lv_iinc (v := (nI (i + 1))) (lv' := [(4, .int (nI (i + 1))), (6, .int j36_0), (5, .int x_21), (3, .int a5_3), (0, .ref (ad 4)), (1, .int newPlace), (2, .int power)]) hx hb dX6_servedFrom_80 hl (k := 2) rfl (nI_1 i) (by decide) rfl (fun ls hl => ?_)
                refine lv_goto (tgt := 5) hx hb dX6_servedFrom_83 (by decide) ?_
                exact ih (i + 1) a5_3 _ _ _ (by omega) (by omega) (by rw [hh_fld, ← hsL_5]; show _ = hl_X6_servedFrom_5 v newPlace power i a5_3; unfold hl_X6_servedFrom_5; rw [hh_let_eq ex_17, hh_let_eq ex_21, hh_let_eq ej36_0, if_neg c_46, if_neg c_60, if_pos c_74]) hp (lv_sub hl [0, 3, 4, 5, 6] rfl)
              · obtain ⟨x_77, ex_77⟩ : ∃ z : Int32, z = (a5_3 + 1) := ⟨_, rfl⟩
                refine lv_iinc (v := x_77) (lv' := [(3, .int x_77), (6, .int j36_0), (5, .int x_21), (4, .int (nI i)), (0, .ref (ad 4)), (1, .int newPlace), (2, .int power)]) hx hb dX6_servedFrom_77 hl (k := 3) rfl (by rw [ex_77]; rfl) (by decide) rfl (fun ls hl => ?_)
                refine lv_iinc (v := (nI (i + 1))) (lv' := [(4, .int (nI (i + 1))), (3, .int x_77), (6, .int j36_0), (5, .int x_21), (0, .ref (ad 4)), (1, .int newPlace), (2, .int power)]) hx hb dX6_servedFrom_80 hl (k := 3) rfl (nI_1 i) (by decide) rfl (fun ls hl => ?_)
                refine lv_goto (tgt := 5) hx hb dX6_servedFrom_83 (by decide) ?_
                exact ih (i + 1) x_77 _ _ _ (by omega) (by omega) (by rw [hh_fld, ← hsL_5]; show _ = hl_X6_servedFrom_5 v newPlace power i a5_3; unfold hl_X6_servedFrom_5; rw [hh_let_eq ex_17, hh_let_eq ex_21, hh_let_eq ej36_0, if_neg c_46, if_neg c_60, if_neg c_74, hh_let_eq ex_77]) hp (lv_sub hl [0, 1, 4, 5, 6] rfl)
        refine lv_iload hx hb dX6_servedFrom_23 (lv_at hl 0 rfl) ?_
        refine lv_if_le (tgt := 35) hx hb dX6_servedFrom_25 (by decide) (fun c_25 => ?_) (fun c_25 => ?_)
        · refine lv_iconst (v := 0) hx hb dX6_servedFrom_35 (by decide) ?_
          exact hJ_36 0 _ _ _ (by rw [if_pos c_25]) hp (lv_sub hl [0, 1, 2, 3, 4, 5] rfl)
        · refine lv_iload hx hb dX6_servedFrom_28 (lv_at hl 0 rfl) ?_
          refine lv_iconst (v := 3) hx hb dX6_servedFrom_30 (by decide) ?_
          refine lv_idiv hx hb dX6_servedFrom_31 (by decide) ?_
          refine lv_goto (tgt := 36) hx hb dX6_servedFrom_32 (by decide) ?_
          exact hJ_36 (x_21 / 3) _ _ _ (by rw [if_neg c_25]) hp (lv_sub hl [0, 1, 2, 3, 4, 5] rfl)
  exact hL_5 (100 + 1) 0 0 _ _ _ (Nat.zero_le _) (by omega) rfl hp (lv_sub hl [0, 1, 2, 3, 4] rfl)
def hl_X6_placeFor_7 (v : hh_M) (power : Int32) (i : Nat) (a7_2 : Int32) (a7_3 : Int32) : Int32 × Int32 := (hh_let (hf_X6_servedFrom v (nI i) power : Int32) (fun (q_18 : Int32) => (if q_18 ≤ a7_3 then (a7_2, a7_3) else ((nI i), q_18))))
def hf_X6_placeFor (v : hh_M) (power : Int32) : Int32 := (hh_let ((hh_fld (fun (i9 : Nat) (z : Int32 × Int32) => hl_X6_placeFor_7 v power i9 z.1 z.2) 100 ((-1), (-1))).1 : Int32) (fun (a7_2 : Int32) => (hh_let ((hh_fld (fun (i9 : Nat) (z : Int32 × Int32) => hl_X6_placeFor_7 v power i9 z.1 z.2) 100 ((-1), (-1))).2 : Int32) (fun (a7_3 : Int32) => a7_2))))
set_option maxHeartbeats 4000000 in
set_option maxRecDepth 100000 in
theorem hk_X6_placeFor (l : Launch) (D : va_G) (K : Nat → ClassId) (ad : Nat → Nat) {nm : Nat} {nh nc : Nat → Nat} {v : hh_M} (hT : hh_T nm nh nc v) (power : Int32) : hh_Ki l D K ad yX6_placeFor (hh_wm yX6_placeFor cX6_placeFor 6 (some .int)) { frames := 2, cells := 0, slots := 0, locals := 47 } [.ref (ad 4), .int power] v (fun (q : Int32) (v1 : hh_M) => q = hf_X6_placeFor v power ∧ v1 = v ∧ (-1 ≤ q ∧ q < nI 100)) := by
  refine hh_Ki_of (by decide) (Nat.le_of_ble_eq_true rfl) ?_
  intro p e s m args below meth c ls A C0 hp hl
  obtain ⟨hx, hb, hr9, hml, hown, hts, hK, hlk, hA⟩ := id C0
  have hnm := hT.1
  have hnh := hT.2.1
  have hnc := hT.2.2.1
  have hl : lv_has ls 6 [(0, .ref (ad 4)), (1, .int power)] := hl
  refine lv_iconst (v := (-1)) hx hb dX6_placeFor_0 (by decide) ?_
  refine lv_istore_n (lv' := [(2, .int (-1)), (0, .ref (ad 4)), (1, .int power)]) hx hb dX6_placeFor_1 rfl hl (by decide) rfl (fun ls hl => ?_)
  refine lv_iconst (v := (-1)) hx hb dX6_placeFor_2 (by decide) ?_
  refine lv_istore_n (lv' := [(3, .int (-1)), (2, .int (-1)), (0, .ref (ad 4)), (1, .int power)]) hx hb dX6_placeFor_3 rfl hl (by decide) rfl (fun ls hl => ?_)
  refine lv_iconst (v := 0) hx hb dX6_placeFor_4 (by decide) ?_
  refine lv_istore (lv' := [(4, .int 0), (3, .int (-1)), (2, .int (-1)), (0, .ref (ad 4)), (1, .int power)]) hx hb dX6_placeFor_5 hl (by decide) rfl (fun ls hl => ?_)
  have hL_7 : ∀ (n i : Nat) (a7_2 : Int32) (a7_3 : Int32) (H : Heap) (locs : List Loc) (ls : Array Slot), i ≤ 100 → 100 - i < n → (a7_2, a7_3) = hh_fld (fun (i9 : Nat) (z : Int32 × Int32) => hl_X6_placeFor_7 v power i9 z.1 z.2) i ((-1), (-1)) → hh_H D K ad A s.heap v H locs → lv_has ls 6 [(4, .int (nI i)), (3, .int a7_3), (2, .int a7_2), (0, .ref (ad 4)), (1, .int power)] → -1 ≤ a7_2 ∧ a7_2 < nI 100 → W p l e ({ frames := 2, cells := 0, slots := 0, locals := 47 } : Room) s m args below meth c H locs 0 0 (MQ below (va_Qi (fun (q : Int32) (v1 : hh_M) => q = hf_X6_placeFor v power ∧ v1 = v ∧ (-1 ≤ q ∧ q < nI 100)) (hh_B D K ad A) A) args s 0 0 A) (F0 m 7 ls []) := by
    intro n
    induction n with
    | zero => intro i a7_2 a7_3 H locs ls h1 h2; omega
    | succ n ih =>
      intro i a7_2 a7_3 H locs ls hii hni hsL_7 hp hl hf1
      refine lv_iload hx hb dX6_placeFor_7 (lv_at hl 0 rfl) ?_
      refine lv_bipush (v := 100) hx hb dX6_placeFor_9 (by decide) ?_
      refine lv_icmp_ge (tgt := 41) hx hb dX6_placeFor_11 (by decide) (fun c_11 => ?_) (fun c_11 => ?_)
      · have hbc_11 : 100 = nI 100 := rfl
        rw [hbc_11] at c_11
        have hc_11 := (nI_leI (a := 100) (b := i) (by omega) (by omega))
        have hltc_11 : 100 ≤ i := by exact hc_11.mp c_11
        have hNL_7 : i = 100 := by omega
        rw [hNL_7] at hsL_7
        have ea7_2 : a7_2 = (hh_fld (fun (i9 : Nat) (z : Int32 × Int32) => hl_X6_placeFor_7 v power i9 z.1 z.2) 100 ((-1), (-1))).1 := congrArg (fun z => z.1) hsL_7
        have ea7_3 : a7_3 = (hh_fld (fun (i9 : Nat) (z : Int32 × Int32) => hl_X6_placeFor_7 v power i9 z.1 z.2) 100 ((-1), (-1))).2 := congrArg (fun z => z.2) hsL_7
        clear ih hsL_7
        refine lv_iload_n hx hb dX6_placeFor_41 rfl (lv_at hl 2 rfl) ?_
        exact hh_iret C0 hp dX6_placeFor_42 ⟨(by unfold hf_X6_placeFor; rw [hh_let_eq ea7_2, hh_let_eq ea7_3]), rfl, (by assumption)⟩
      · have hbc_11 : 100 = nI 100 := rfl
        rw [hbc_11] at c_11
        have hc_11 := (nI_leI (a := 100) (b := i) (by omega) (by omega))
        have hltc_11 : i < 100 := by exact Nat.not_le.mp (fun z => c_11 (hc_11.mpr z))
        refine lv_aload_n hx hb dX6_placeFor_14 rfl (lv_at hl 3 rfl) ?_
        refine lv_iload hx hb dX6_placeFor_15 (lv_at hl 0 rfl) ?_
        refine lv_iload_n hx hb dX6_placeFor_17 rfl (lv_at hl 4 rfl) ?_
        refine hh_cVi C0 hp (As := [.int (nI i), .int power]) (rest := []) (C := RX6) (T := TX6) (N := 3) (ci := 6) (n := 2) (hk_X6_servedFrom l D K ad hT (nI i) power) rfl (by decide) hh_E_4 (hh_gV hm_299 hm_300 hm_301 hm_288 hm_302) ⟨rfl, rfl⟩ (by decide +kernel) ⟨Nat.le_of_ble_eq_true rfl, Nat.le_of_ble_eq_true rfl⟩ ⟨Nat.zero_le _, Nat.zero_le _⟩ hl.1 rfl rfl (Nat.le_of_ble_eq_true rfl) dX6_placeFor_18 (fun q_18 v_18 H locs hv_18 hp => ?_)
        obtain ⟨eq_18, hv9⟩ := hv_18
        rw [hv9] at hp; clear hv9
        refine lv_istore (lv' := [(5, .int q_18), (4, .int (nI i)), (3, .int a7_3), (2, .int a7_2), (0, .ref (ad 4)), (1, .int power)]) hx hb dX6_placeFor_21 hl (by decide) rfl (fun ls hl => ?_)
        refine lv_iload hx hb dX6_placeFor_23 (lv_at hl 0 rfl) ?_
        refine lv_iload_n hx hb dX6_placeFor_25 rfl (lv_at hl 2 rfl) ?_
        refine lv_icmp_le (tgt := 35) hx hb dX6_placeFor_26 (by decide) (fun c_26 => ?_) (fun c_26 => ?_)
        · refine lv_iinc (v := (nI (i + 1))) (lv' := [(4, .int (nI (i + 1))), (5, .int q_18), (3, .int a7_3), (2, .int a7_2), (0, .ref (ad 4)), (1, .int power)]) hx hb dX6_placeFor_35 hl (k := 1) rfl (nI_1 i) (by decide) rfl (fun ls hl => ?_)
          refine lv_goto (tgt := 7) hx hb dX6_placeFor_38 (by decide) ?_
          exact ih (i + 1) a7_2 a7_3 _ _ _ (by omega) (by omega) (by rw [hh_fld, ← hsL_7]; show _ = hl_X6_placeFor_7 v power i a7_2 a7_3; unfold hl_X6_placeFor_7; rw [hh_let_eq eq_18, if_pos c_26]) hp (lv_sub hl [0, 2, 3, 4, 5] rfl) (by first | assumption | exact hh_rg (by omega) (by omega))
        · refine lv_iload hx hb dX6_placeFor_29 (lv_at hl 1 rfl) ?_
          refine lv_istore_n (lv' := [(2, .int (nI i)), (5, .int q_18), (4, .int (nI i)), (3, .int a7_3), (0, .ref (ad 4)), (1, .int power)]) hx hb dX6_placeFor_31 rfl hl (by decide) rfl (fun ls hl => ?_)
          refine lv_iload hx hb dX6_placeFor_32 (lv_at hl 1 rfl) ?_
          refine lv_istore_n (lv' := [(3, .int q_18), (2, .int (nI i)), (5, .int q_18), (4, .int (nI i)), (0, .ref (ad 4)), (1, .int power)]) hx hb dX6_placeFor_34 rfl hl (by decide) rfl (fun ls hl => ?_)
          refine lv_iinc (v := (nI (i + 1))) (lv' := [(4, .int (nI (i + 1))), (3, .int q_18), (2, .int (nI i)), (5, .int q_18), (0, .ref (ad 4)), (1, .int power)]) hx hb dX6_placeFor_35 hl (k := 3) rfl (nI_1 i) (by decide) rfl (fun ls hl => ?_)
          refine lv_goto (tgt := 7) hx hb dX6_placeFor_38 (by decide) ?_
          exact ih (i + 1) (nI i) q_18 _ _ _ (by omega) (by omega) (by rw [hh_fld, ← hsL_7]; show _ = hl_X6_placeFor_7 v power i a7_2 a7_3; unfold hl_X6_placeFor_7; rw [hh_let_eq eq_18, if_neg c_26]) hp (lv_sub hl [0, 1, 2, 4, 5] rfl) (by first | assumption | exact hh_rg (by omega) (by omega))
  exact hL_7 (100 + 1) 0 (-1) (-1) _ _ _ (Nat.zero_le _) (by omega) rfl hp (lv_sub hl [0, 1, 2, 3, 4] rfl) (by exact hh_rg0 (by decide))
def hl_X4_measure_12 (i : Nat) (j : Nat) (w_12 : hh_M) : hh_M := (hh_let (hf_X4_measureOne w_12 (nI i) (nI j) : Int32) (fun (q_28 : Int32) => (hh_let (hh_up w_12 (hh_bI i) j q_28 : hh_M) (fun (v_31 : hh_M) => v_31))))
def hl_X4_measure_2 (i : Nat) (w_2 : hh_M) : hh_M := (hh_let (hh_fld (fun (i9 : Nat) (z : hh_M) => hl_X4_measure_12 i i9 z) 100 w_2 : hh_M) (fun (w_12 : hh_M) => w_12))
def hf_X4_measure (v : hh_M) : hh_M := (hh_let (hh_fld (fun (i9 : Nat) (z : hh_M) => hl_X4_measure_2 i9 z) ((v 1 2).toNatClampNeg) v : hh_M) (fun (w_2 : hh_M) => w_2))
set_option maxHeartbeats 4000000 in
set_option maxRecDepth 100000 in
theorem hk_X4_measure (l : Launch) (D : va_G) (K : Nat → ClassId) (ad : Nat → Nat) {nm : Nat} {nh nc : Nat → Nat} {v : hh_M} (hT : hh_T nm nh nc v) : hh_Kv l D K ad yX4_measure (hh_wm yX4_measure cX4_measure 3 none) { frames := 3, cells := 0, slots := 0, locals := 68 } [.ref (ad 1)] v (fun (v1 : hh_M) => v1 = hf_X4_measure v ∧ hh_T nm nh nc v1) := by
  refine hh_Kv_of (by decide) (Nat.le_of_ble_eq_true rfl) ?_
  intro p e s m args below meth c ls A C0 hp hl
  obtain ⟨hx, hb, hr9, hml, hown, hts, hK, hlk, hA⟩ := id C0
  have hnm := hT.1
  have hnh := hT.2.1
  have hnc := hT.2.2.1
  have hl : lv_has ls 3 [(0, .ref (ad 1))] := hl
  refine lv_iconst (v := 0) hx hb dX4_measure_0 (by decide) ?_
  refine lv_istore_n (lv' := [(1, .int 0), (0, .ref (ad 1))]) hx hb dX4_measure_1 rfl hl (by decide) rfl (fun ls hl => ?_)
  have hL_2 : ∀ (n i : Nat) (w_2 : hh_M) (H : Heap) (locs : List Loc) (ls : Array Slot), i ≤ nm → nm - i < n → w_2 = hh_fld (fun (i9 : Nat) (z : hh_M) => hl_X4_measure_2 i9 z) i v → hh_T nm nh nc w_2 → hh_H D K ad A s.heap w_2 H locs → lv_has ls 3 [(1, .int (nI i)), (0, .ref (ad 1))] → W p l e ({ frames := 3, cells := 0, slots := 0, locals := 68 } : Room) s m args below meth c H locs 0 0 (MQ below (va_Qv (fun (v1 : hh_M) => v1 = hf_X4_measure v ∧ hh_T nm nh nc v1) (hh_B D K ad A) A) args s 0 0 A) (F0 m 2 ls []) := by
    intro n
    induction n with
    | zero => intro i w_2 H locs ls h1 h2; omega
    | succ n ih =>
      intro i w_2 H locs ls hii hni hsL_2 hTw_2 hp hl
      refine lv_iload_n hx hb dX4_measure_2 rfl (lv_at hl 0 rfl) ?_
      refine lv_aload_n hx hb dX4_measure_3 rfl (lv_at hl 1 rfl) ?_
      refine hh_get C0 hp (C := RX4) (T := TX4) (N := 3) (ci := 4) (by decide) hh_E_1 rfl hh_uX4 2 (by decide) hm_79 rfl rfl dX4_measure_4 ?_
      refine lv_icmp_ge (tgt := 44) hx hb dX4_measure_7 (by decide) (fun c_7 => ?_) (fun c_7 => ?_)
      · have hbc_7 : (w_2 1 2) = nI nm := hh_T_M hTw_2
        rw [hbc_7] at c_7
        have hc_7 := (nI_leI (a := nm) (b := i) (by omega) (by omega))
        have hltc_7 : nm ≤ i := by exact hc_7.mp c_7
        have hNL_2 : i = nm := by omega
        rw [hNL_2] at hsL_2
        have hsL_2 : w_2 = hh_fld (fun (i9 : Nat) (z : hh_M) => hl_X4_measure_2 i9 z) ((v 1 2).toNatClampNeg) v := by rw [hsL_2, show (v 1 2).toNatClampNeg = nm from by rw [hh_T_M hT]; exact nI_clamp (by omega)]
        have ew_2 : w_2 = hh_fld (fun (i9 : Nat) (z : hh_M) => hl_X4_measure_2 i9 z) ((v 1 2).toNatClampNeg) v := hsL_2
        clear ih hsL_2
        exact hh_vret C0 hp dX4_measure_44 ⟨(by show _ = _; unfold hf_X4_measure; rw [hh_let_eq ew_2]), hTw_2⟩
      · have hbc_7 : (w_2 1 2) = nI nm := hh_T_M hTw_2
        rw [hbc_7] at c_7
        have hc_7 := (nI_leI (a := nm) (b := i) (by omega) (by omega))
        have hltc_7 : i < nm := by exact Nat.not_le.mp (fun z => c_7 (hc_7.mpr z))
        refine lv_iconst (v := 0) hx hb dX4_measure_10 (by decide) ?_
        refine lv_istore_n (lv' := [(2, .int 0), (1, .int (nI i)), (0, .ref (ad 1))]) hx hb dX4_measure_11 rfl hl (by decide) rfl (fun ls hl => ?_)
        have hL_12 : ∀ (n j : Nat) (w_12 : hh_M) (H : Heap) (locs : List Loc) (ls : Array Slot), j ≤ 100 → 100 - j < n → w_12 = hh_fld (fun (i9 : Nat) (z : hh_M) => hl_X4_measure_12 i i9 z) j w_2 → hh_T nm nh nc w_12 → hh_H D K ad A s.heap w_12 H locs → lv_has ls 3 [(2, .int (nI j)), (1, .int (nI i)), (0, .ref (ad 1))] → W p l e ({ frames := 3, cells := 0, slots := 0, locals := 68 } : Room) s m args below meth c H locs 0 0 (MQ below (va_Qv (fun (v1 : hh_M) => v1 = hf_X4_measure v ∧ hh_T nm nh nc v1) (hh_B D K ad A) A) args s 0 0 A) (F0 m 12 ls []) := by
          intro n
          induction n with
          | zero => intro j w_12 H locs ls h1 h2; omega
          | succ n ih =>
            intro j w_12 H locs ls hij hnj hsL_12 hTw_12 hp hl
            refine lv_iload_n hx hb dX4_measure_12 rfl (lv_at hl 0 rfl) ?_
            refine lv_bipush (v := 100) hx hb dX4_measure_13 (by decide) ?_
            refine lv_icmp_ge (tgt := 38) hx hb dX4_measure_15 (by decide) (fun c_15 => ?_) (fun c_15 => ?_)
            · have hbc_15 : 100 = nI 100 := rfl
              rw [hbc_15] at c_15
              have hc_15 := (nI_leI (a := 100) (b := j) (by omega) (by omega))
              have hltc_15 : 100 ≤ j := by exact hc_15.mp c_15
              have hNL_12 : j = 100 := by omega
              rw [hNL_12] at hsL_12
              have ew_12 : w_12 = hh_fld (fun (i9 : Nat) (z : hh_M) => hl_X4_measure_12 i i9 z) 100 w_2 := hsL_12
              clear ih hsL_12
              refine lv_iinc (v := (nI (i + 1))) (lv' := [(1, .int (nI (i + 1))), (2, .int (nI j)), (0, .ref (ad 1))]) hx hb dX4_measure_38 hl (k := 1) rfl (nI_1 i) (by decide) rfl (fun ls hl => ?_)
              refine lv_goto (tgt := 2) hx hb dX4_measure_41 (by decide) ?_
              exact ih (i + 1) w_12 _ _ _ (by omega) (by omega) (by rw [hh_fld, ← hsL_2]; show _ = hl_X4_measure_2 i w_2; unfold hl_X4_measure_2; rw [hh_let_eq ew_12]) hTw_12 hp (lv_sub hl [0, 2] rfl)
            · have hbc_15 : 100 = nI 100 := rfl
              rw [hbc_15] at c_15
              have hc_15 := (nI_leI (a := 100) (b := j) (by omega) (by omega))
              have hltc_15 : j < 100 := by exact Nat.not_le.mp (fun z => c_15 (hc_15.mpr z))
              refine lv_aload_n hx hb dX4_measure_18 rfl (lv_at hl 2 rfl) ?_
              refine hh_get C0 hp (C := RX4) (T := TX4) (N := 3) (ci := 4) (by decide) hh_E_1 rfl hh_uX4 1 (by decide) hm_76 rfl rfl dX4_measure_19 ?_
              refine lv_iload_n hx hb dX4_measure_22 rfl (lv_at hl 1 rfl) ?_
              refine hh_aal C0 hp (t0 := 1) (f := hh_bI) (by decide) hh_E_3 rfl rfl (vp_in_nI (by omega) (by decide)) (nI_clamp (by omega)) dX4_measure_23 ?_
              refine lv_iload_n hx hb dX4_measure_24 rfl (lv_at hl 0 rfl) ?_
              refine lv_aload_n hx hb dX4_measure_25 rfl (lv_at hl 2 rfl) ?_
              refine lv_iload_n hx hb dX4_measure_26 rfl (lv_at hl 1 rfl) ?_
              refine lv_iload_n hx hb dX4_measure_27 rfl (lv_at hl 0 rfl) ?_
              refine hh_cVi C0 hp (As := [.int (nI i), .int (nI j)]) (rest := [.int (nI j), .ref (ad (hh_bI i))]) (C := RX4) (T := TX4) (N := 3) (ci := 4) (n := 2) (hk_X4_measureOne l D K ad hTw_12 (nI i) (nI j) (vp_in_nI (by omega) (by decide))) rfl (by decide) hh_E_1 (hh_gV hm_80 hm_81 hm_82 hm_83 hm_84) ⟨rfl, rfl⟩ (by decide +kernel) ⟨Nat.le_of_ble_eq_true rfl, Nat.le_of_ble_eq_true rfl⟩ ⟨Nat.zero_le _, Nat.zero_le _⟩ hl.1 rfl rfl (Nat.le_of_ble_eq_true rfl) dX4_measure_28 (fun q_28 v_28 H locs hv_28 hp => ?_)
              obtain ⟨eq_28, hv9⟩ := hv_28
              rw [hv9] at hp; clear hv9
              refine hh_ias C0 hp (hh_b_b (by omega : i < 6)) (fun _ => (hh_E_b (by omega : i < 6))) (vp_in_nI (by omega) (by decide)) (nI_clamp (by omega)) dX4_measure_31 (fun H locs hp => ?_)
              obtain ⟨v_31, ev_31⟩ : ∃ z : hh_M, z = hh_up w_12 (hh_bI i) j q_28 := ⟨_, rfl⟩
              rw [← ev_31] at hp
              have hTv_31 : hh_T nm nh nc v_31 := by rw [ev_31]; exact hh_T_up hTw_12 (hh_Rt_b (by omega : i < 6))
              refine lv_iinc (v := (nI (j + 1))) (lv' := [(2, .int (nI (j + 1))), (1, .int (nI i)), (0, .ref (ad 1))]) hx hb dX4_measure_32 hl (k := 0) rfl (nI_1 j) (by decide) rfl (fun ls hl => ?_)
              refine lv_goto (tgt := 12) hx hb dX4_measure_35 (by decide) ?_
              exact ih (j + 1) v_31 _ _ _ (by omega) (by omega) (by rw [hh_fld, ← hsL_12]; show _ = hl_X4_measure_12 i j w_12; unfold hl_X4_measure_12; rw [hh_let_eq eq_28, hh_let_eq ev_31]) hTv_31 hp (lv_sub hl [0, 1, 2] rfl)
        exact hL_12 (100 + 1) 0 w_2 _ _ _ (Nat.zero_le _) (by omega) rfl hTw_2 hp (lv_sub hl [0, 1, 2] rfl)
  exact hL_2 (nm + 1) 0 v _ _ _ (Nat.zero_le _) (by omega) rfl hT hp (lv_sub hl [0, 1] rfl)
