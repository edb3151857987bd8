/-! 18.face: laid by program (wip/gen/mk10.py) -/
def hf_X7_mast (v : hh_M) (pl : Int32) (pw : Int32) (fr : Int32) (ch : Int32) (ar : Int32) (op : Int32) : Int32 × hh_M := (hh_let (hh_up v (hh_mI ((v 1 2).toNatClampNeg)) 0 pl : hh_M) (fun (v_84 : hh_M) => (hh_let (hh_up v_84 (hh_mI ((v 1 2).toNatClampNeg)) 1 pw : hh_M) (fun (v_90 : hh_M) => (hh_let (hh_up v_90 (hh_mI ((v 1 2).toNatClampNeg)) 2 fr : hh_M) (fun (v_96 : hh_M) => (hh_let (hh_up v_96 (hh_mI ((v 1 2).toNatClampNeg)) 3 ch : hh_M) (fun (v_103 : hh_M) => (hh_let (hh_up v_103 (hh_mI ((v 1 2).toNatClampNeg)) 4 ar : hh_M) (fun (v_110 : hh_M) => (hh_let (hh_up v_110 (hh_mI ((v 1 2).toNatClampNeg)) 5 op : hh_M) (fun (v_117 : hh_M) => (hh_let (hh_up v_117 (hh_mI ((v 1 2).toNatClampNeg)) 6 1 : hh_M) (fun (v_123 : hh_M) => (hh_let (hh_up v_123 1 2 ((v_123 1 2) + 1) : hh_M) (fun (v_136 : hh_M) => (hh_let (hf_X4_measure v_136 : hh_M) (fun (v_143 : hh_M) => (((v_143 1 2) - 1), v_143)))))))))))))))))))
set_option maxHeartbeats 4000000 in
set_option maxRecDepth 100000 in
theorem hk_X7_mast (l : Launch) (D : va_G) (K : Nat → ClassId) (ad : Nat → Nat) {nm : Nat} {nh nc : Nat → Nat} {v : hh_M} (hT : hh_T nm nh nc v) (pl : Int32) (pw : Int32) (fr : Int32) (ch : Int32) (ar : Int32) (op : Int32) (hpl0 : 0 ≤ pl) (hpl1 : pl ≤ 99) (hpw0 : 10 ≤ pw) (hpw1 : pw ≤ 60) (hfr0 : 0 ≤ fr) (hfr1 : fr ≤ 2) (hch0 : 1 ≤ ch) (hch1 : ch ≤ 4) (har0 : 0 ≤ ar) (har1 : ar ≤ 3) (hop0 : 0 ≤ op) (hop1 : op ≤ 1) (hm6 : nm < 6) : hh_Ki l D K ad yX7_mast (hh_wm yX7_mast cX7_mast 8 (some .int)) { frames := 4, cells := 0, slots := 0, locals := 90 } [.ref (ad 0), .int pl, .int pw, .int fr, .int ch, .int ar, .int op] v (fun (q : Int32) (v1 : hh_M) => (q, v1) = hf_X7_mast v pl pw fr ch ar op ∧ hh_T (nm + 1) nh nc v1) := by
  refine hh_Ki_of (by decide) (Nat.le_of_ble_eq_true rfl) ?_
  intro p e s m args below meth c ls A C0 hp hl
  obtain ⟨hx, hb, hr9, hml, hown, hts, hK, hlk, hA⟩ := id C0
  have hnm := hT.1
  have hnh := hT.2.1
  have hnc := hT.2.2.1
  have hbH0 := hnh 0
  have hbC0 := hnc 0
  have hbH1 := hnh 1
  have hbC1 := hnc 1
  have hl : lv_has ls 8 [(0, .ref (ad 0)), (1, .int pl), (2, .int pw), (3, .int fr), (4, .int ch), (5, .int ar), (6, .int op)] := hl
  refine lv_iload_n hx hb dX7_mast_0 rfl (lv_at hl 1 rfl) ?_
  refine lv_iconst (v := 0) hx hb dX7_mast_1 (by decide) ?_
  refine lv_bipush (v := 99) hx hb dX7_mast_2 (by decide) ?_
  refine hh_cSv C0 hp (As := [.int pl, .int 0, .int 99]) (rest := []) (n := 3) (hk_X7_demandWithin l D K ad hT pl 0 99 hpl0 hpl1) (hh_gS hm_333 hm_334 hm_335 hm_336) ⟨rfl, rfl⟩ (by decide +kernel) ⟨Nat.le_of_ble_eq_true rfl, Nat.le_of_ble_eq_true rfl⟩ ⟨Nat.zero_le _, Nat.zero_le _⟩ hl.1 rfl rfl (Nat.le_of_ble_eq_true rfl) dX7_mast_4 (fun v_4 H locs hv_4 hp => ?_)
  rw [hv_4] at hp
  refine lv_iload_n hx hb dX7_mast_7 rfl (lv_at hl 2 rfl) ?_
  refine lv_bipush (v := 10) hx hb dX7_mast_8 (by decide) ?_
  refine lv_bipush (v := 60) hx hb dX7_mast_10 (by decide) ?_
  refine hh_cSv C0 hp (As := [.int pw, .int 10, .int 60]) (rest := []) (n := 3) (hk_X7_demandWithin l D K ad hT pw 10 60 hpw0 hpw1) (hh_gS hm_333 hm_334 hm_335 hm_336) ⟨rfl, rfl⟩ (by decide +kernel) ⟨Nat.le_of_ble_eq_true rfl, Nat.le_of_ble_eq_true rfl⟩ ⟨Nat.zero_le _, Nat.zero_le _⟩ hl.1 rfl rfl (Nat.le_of_ble_eq_true rfl) dX7_mast_12 (fun v_12 H locs hv_12 hp => ?_)
  rw [hv_12] at hp
  refine lv_iload_n hx hb dX7_mast_15 rfl (lv_at hl 3 rfl) ?_
  refine lv_iconst (v := 0) hx hb dX7_mast_16 (by decide) ?_
  refine lv_iconst (v := 2) hx hb dX7_mast_17 (by decide) ?_
  refine hh_cSv C0 hp (As := [.int fr, .int 0, .int 2]) (rest := []) (n := 3) (hk_X7_demandWithin l D K ad hT fr 0 2 hfr0 hfr1) (hh_gS hm_333 hm_334 hm_335 hm_336) ⟨rfl, rfl⟩ (by decide +kernel) ⟨Nat.le_of_ble_eq_true rfl, Nat.le_of_ble_eq_true rfl⟩ ⟨Nat.zero_le _, Nat.zero_le _⟩ hl.1 rfl rfl (Nat.le_of_ble_eq_true rfl) dX7_mast_18 (fun v_18 H locs hv_18 hp => ?_)
  rw [hv_18] at hp
  refine lv_iload hx hb dX7_mast_21 (lv_at hl 4 rfl) ?_
  refine lv_iconst (v := 1) hx hb dX7_mast_23 (by decide) ?_
  refine lv_iconst (v := 4) hx hb dX7_mast_24 (by decide) ?_
  refine hh_cSv C0 hp (As := [.int ch, .int 1, .int 4]) (rest := []) (n := 3) (hk_X7_demandWithin l D K ad hT ch 1 4 hch0 hch1) (hh_gS hm_333 hm_334 hm_335 hm_336) ⟨rfl, rfl⟩ (by decide +kernel) ⟨Nat.le_of_ble_eq_true rfl, Nat.le_of_ble_eq_true rfl⟩ ⟨Nat.zero_le _, Nat.zero_le _⟩ hl.1 rfl rfl (Nat.le_of_ble_eq_true rfl) dX7_mast_25 (fun v_25 H locs hv_25 hp => ?_)
  rw [hv_25] at hp
  refine lv_iload hx hb dX7_mast_28 (lv_at hl 5 rfl) ?_
  refine lv_iconst (v := 0) hx hb dX7_mast_30 (by decide) ?_
  refine lv_iconst (v := 3) hx hb dX7_mast_31 (by decide) ?_
  refine hh_cSv C0 hp (As := [.int ar, .int 0, .int 3]) (rest := []) (n := 3) (hk_X7_demandWithin l D K ad hT ar 0 3 har0 har1) (hh_gS hm_333 hm_334 hm_335 hm_336) ⟨rfl, rfl⟩ (by decide +kernel) ⟨Nat.le_of_ble_eq_true rfl, Nat.le_of_ble_eq_true rfl⟩ ⟨Nat.zero_le _, Nat.zero_le _⟩ hl.1 rfl rfl (Nat.le_of_ble_eq_true rfl) dX7_mast_32 (fun v_32 H locs hv_32 hp => ?_)
  rw [hv_32] at hp
  refine lv_iload hx hb dX7_mast_35 (lv_at hl 6 rfl) ?_
  refine lv_iconst (v := 0) hx hb dX7_mast_37 (by decide) ?_
  refine lv_iconst (v := 1) hx hb dX7_mast_38 (by decide) ?_
  refine hh_cSv C0 hp (As := [.int op, .int 0, .int 1]) (rest := []) (n := 3) (hk_X7_demandWithin l D K ad hT op 0 1 hop0 hop1) (hh_gS hm_333 hm_334 hm_335 hm_336) ⟨rfl, rfl⟩ (by decide +kernel) ⟨Nat.le_of_ble_eq_true rfl, Nat.le_of_ble_eq_true rfl⟩ ⟨Nat.zero_le _, Nat.zero_le _⟩ hl.1 rfl rfl (Nat.le_of_ble_eq_true rfl) dX7_mast_39 (fun v_39 H locs hv_39 hp => ?_)
  rw [hv_39] at hp
  refine lv_aload_n hx hb dX7_mast_42 rfl (lv_at hl 0 rfl) ?_
  refine hh_get C0 hp (C := RX7) (T := TX7) (N := 4) (ci := 7) (by decide) hh_E_0 rfl hh_uX7 0 (by decide) hm_310 rfl rfl dX7_mast_43 ?_
  refine hh_get C0 hp (C := RX4) (T := TX4) (N := 3) (ci := 4) (by decide) hh_E_1 rfl hh_uX4 2 (by decide) hm_324 rfl rfl dX7_mast_46 ?_
  refine lv_bipush (v := 6) hx hb dX7_mast_49 (by decide) ?_
  refine lv_icmp_lt (tgt := 64) hx hb dX7_mast_51 (by decide) (fun c_51 => ?_) (fun c_51 => ?_)
  · refine lv_aload_n hx hb dX7_mast_64 rfl (lv_at hl 0 rfl) ?_
    refine hh_get C0 hp (C := RX7) (T := TX7) (N := 4) (ci := 7) (by decide) hh_E_0 rfl hh_uX7 0 (by decide) hm_310 rfl rfl dX7_mast_65 ?_
    refine hh_get C0 hp (C := RX4) (T := TX4) (N := 3) (ci := 4) (by decide) hh_E_1 rfl hh_uX4 0 (by decide) hm_325 rfl rfl dX7_mast_68 ?_
    refine lv_aload_n hx hb dX7_mast_71 rfl (lv_at hl 0 rfl) ?_
    refine hh_get C0 hp (C := RX7) (T := TX7) (N := 4) (ci := 7) (by decide) hh_E_0 rfl hh_uX7 0 (by decide) hm_310 rfl rfl dX7_mast_72 ?_
    refine hh_get C0 hp (C := RX4) (T := TX4) (N := 3) (ci := 4) (by decide) hh_E_1 rfl hh_uX4 2 (by decide) hm_324 rfl rfl dX7_mast_75 ?_
    have hin_78 : vp_in (v 1 2) 6 := by rw [hh_T_M hT]; exact vp_in_nI hm6 (by decide)
    refine hh_aal C0 hp (t0 := 2) (f := hh_mI) (by decide) hh_E_2 rfl rfl hin_78 rfl dX7_mast_78 ?_
    refine lv_astore (lv' := [(7, .ref (ad (hh_mI ((v 1 2).toNatClampNeg)))), (0, .ref (ad 0)), (1, .int pl), (2, .int pw), (3, .int fr), (4, .int ch), (5, .int ar), (6, .int op)]) hx hb dX7_mast_79 hl (by decide) rfl (fun ls hl => ?_)
    refine lv_aload hx hb dX7_mast_81 (lv_at hl 0 rfl) ?_
    refine lv_iload_n hx hb dX7_mast_83 rfl (lv_at hl 2 rfl) ?_
    refine hh_put C0 hp (C := RX3) (T := TX3) (N := 7) (ci := 3) (k := 0) (ty := .int) (hh_b_m (hh_lt hin_78)) (hh_E_m (hh_lt hin_78)) (hh_pm0 (hh_lt hin_78)) rfl hh_uX3 tyX3_ok nmX3 (by decide) hm_326 rfl rfl (by decide +kernel) rfl rfl (Nat.le_of_ble_eq_true rfl) dX7_mast_84 (fun H locs hp => ?_)
    obtain ⟨v_84, ev_84⟩ : ∃ z : hh_M, z = hh_up v (hh_mI ((v 1 2).toNatClampNeg)) 0 pl := ⟨_, rfl⟩
    rw [← ev_84] at hp
    have hTv_84 : hh_T nm nh nc v_84 := by rw [ev_84]; exact hh_T_up hT (hh_Rt_m (hh_lt hin_78) (by decide))
    refine lv_aload hx hb dX7_mast_87 (lv_at hl 0 rfl) ?_
    refine lv_iload_n hx hb dX7_mast_89 rfl (lv_at hl 3 rfl) ?_
    refine hh_put C0 hp (C := RX3) (T := TX3) (N := 7) (ci := 3) (k := 1) (ty := .int) (hh_b_m (hh_lt hin_78)) (hh_E_m (hh_lt hin_78)) (hh_pm1 (hh_lt hin_78)) rfl hh_uX3 tyX3_ok nmX3 (by decide) hm_327 rfl rfl (by decide +kernel) rfl rfl (Nat.le_of_ble_eq_true rfl) dX7_mast_90 (fun H locs hp => ?_)
    obtain ⟨v_90, ev_90⟩ : ∃ z : hh_M, z = hh_up v_84 (hh_mI ((v 1 2).toNatClampNeg)) 1 pw := ⟨_, rfl⟩
    rw [← ev_90] at hp
    have hTv_90 : hh_T nm nh nc v_90 := by rw [ev_90]; exact hh_T_up hTv_84 (hh_Rt_m (hh_lt hin_78) (by decide))
    refine lv_aload hx hb dX7_mast_93 (lv_at hl 0 rfl) ?_
    refine lv_iload_n hx hb dX7_mast_95 rfl (lv_at hl 4 rfl) ?_
    refine hh_put C0 hp (C := RX3) (T := TX3) (N := 7) (ci := 3) (k := 2) (ty := .int) (hh_b_m (hh_lt hin_78)) (hh_E_m (hh_lt hin_78)) (hh_pm2 (hh_lt hin_78)) rfl hh_uX3 tyX3_ok nmX3 (by decide) hm_328 rfl rfl (by decide +kernel) rfl rfl (Nat.le_of_ble_eq_true rfl) dX7_mast_96 (fun H locs hp => ?_)
    obtain ⟨v_96, ev_96⟩ : ∃ z : hh_M, z = hh_up v_90 (hh_mI ((v 1 2).toNatClampNeg)) 2 fr := ⟨_, rfl⟩
    rw [← ev_96] at hp
    have hTv_96 : hh_T nm nh nc v_96 := by rw [ev_96]; exact hh_T_up hTv_90 (hh_Rt_m (hh_lt hin_78) (by decide))
    refine lv_aload hx hb dX7_mast_99 (lv_at hl 0 rfl) ?_
    refine lv_iload hx hb dX7_mast_101 (lv_at hl 5 rfl) ?_
    refine hh_put C0 hp (C := RX3) (T := TX3) (N := 7) (ci := 3) (k := 3) (ty := .int) (hh_b_m (hh_lt hin_78)) (hh_E_m (hh_lt hin_78)) (hh_pm3 (hh_lt hin_78)) rfl hh_uX3 tyX3_ok nmX3 (by decide) hm_329 rfl rfl (by decide +kernel) rfl rfl (Nat.le_of_ble_eq_true rfl) dX7_mast_103 (fun H locs hp => ?_)
    obtain ⟨v_103, ev_103⟩ : ∃ z : hh_M, z = hh_up v_96 (hh_mI ((v 1 2).toNatClampNeg)) 3 ch := ⟨_, rfl⟩
    rw [← ev_103] at hp
    have hTv_103 : hh_T nm nh nc v_103 := by rw [ev_103]; exact hh_T_up hTv_96 (hh_Rt_m (hh_lt hin_78) (by decide))
    refine lv_aload hx hb dX7_mast_106 (lv_at hl 0 rfl) ?_
    refine lv_iload hx hb dX7_mast_108 (lv_at hl 6 rfl) ?_
    refine hh_put C0 hp (C := RX3) (T := TX3) (N := 7) (ci := 3) (k := 4) (ty := .int) (hh_b_m (hh_lt hin_78)) (hh_E_m (hh_lt hin_78)) (hh_pm4 (hh_lt hin_78)) rfl hh_uX3 tyX3_ok nmX3 (by decide) hm_330 rfl rfl (by decide +kernel) rfl rfl (Nat.le_of_ble_eq_true rfl) dX7_mast_110 (fun H locs hp => ?_)
    obtain ⟨v_110, ev_110⟩ : ∃ z : hh_M, z = hh_up v_103 (hh_mI ((v 1 2).toNatClampNeg)) 4 ar := ⟨_, rfl⟩
    rw [← ev_110] at hp
    have hTv_110 : hh_T nm nh nc v_110 := by rw [ev_110]; exact hh_T_up hTv_103 (hh_Rt_m (hh_lt hin_78) (by decide))
    refine lv_aload hx hb dX7_mast_113 (lv_at hl 0 rfl) ?_
    refine lv_iload hx hb dX7_mast_115 (lv_at hl 7 rfl) ?_
    refine hh_put C0 hp (C := RX3) (T := TX3) (N := 7) (ci := 3) (k := 5) (ty := .int) (hh_b_m (hh_lt hin_78)) (hh_E_m (hh_lt hin_78)) (hh_pm5 (hh_lt hin_78)) rfl hh_uX3 tyX3_ok nmX3 (by decide) hm_331 rfl rfl (by decide +kernel) rfl rfl (Nat.le_of_ble_eq_true rfl) dX7_mast_117 (fun H locs hp => ?_)
    obtain ⟨v_117, ev_117⟩ : ∃ z : hh_M, z = hh_up v_110 (hh_mI ((v 1 2).toNatClampNeg)) 5 op := ⟨_, rfl⟩
    rw [← ev_117] at hp
    have hTv_117 : hh_T nm nh nc v_117 := by rw [ev_117]; exact hh_T_up hTv_110 (hh_Rt_m (hh_lt hin_78) (by decide))
    refine lv_aload hx hb dX7_mast_120 (lv_at hl 0 rfl) ?_
    refine lv_iconst (v := 1) hx hb dX7_mast_122 (by decide) ?_
    refine hh_put C0 hp (C := RX3) (T := TX3) (N := 7) (ci := 3) (k := 6) (ty := .boolean) (hh_b_m (hh_lt hin_78)) (hh_E_m (hh_lt hin_78)) (hh_pm6 (hh_lt hin_78)) rfl hh_uX3 tyX3_ok nmX3 (by decide) hm_332 rfl rfl (by decide +kernel) (hh_nz (Or.inr rfl)) (hh_fz (Or.inr rfl)) (Nat.le_of_ble_eq_true rfl) dX7_mast_123 (fun H locs hp => ?_)
    obtain ⟨v_123, ev_123⟩ : ∃ z : hh_M, z = hh_up v_117 (hh_mI ((v 1 2).toNatClampNeg)) 6 1 := ⟨_, rfl⟩
    rw [← ev_123] at hp
    have hTv_123 : hh_T nm nh nc v_123 := by rw [ev_123]; exact hh_T_up hTv_117 (hh_R_m6 (hh_lt hin_78) (Or.inr rfl))
    refine lv_aload_n hx hb dX7_mast_126 rfl (lv_at hl 1 rfl) ?_
    refine hh_get C0 hp (C := RX7) (T := TX7) (N := 4) (ci := 7) (by decide) hh_E_0 rfl hh_uX7 0 (by decide) hm_310 rfl rfl dX7_mast_127 ?_
    refine lv_dup hx hb dX7_mast_130 rfl ?_
    refine hh_get C0 hp (C := RX4) (T := TX4) (N := 3) (ci := 4) (by decide) hh_E_1 rfl hh_uX4 2 (by decide) hm_324 rfl rfl dX7_mast_131 ?_
    refine lv_iconst (v := 1) hx hb dX7_mast_134 (by decide) ?_
    refine lv_iadd hx hb dX7_mast_135 ?_
    refine hh_put C0 hp (C := RX4) (T := TX4) (N := 3) (ci := 4) (k := 2) (ty := .int) (by decide) hh_E_1 hh_pM2 rfl hh_uX4 tyX4_ok nmX4 (by decide) hm_324 rfl rfl (by decide +kernel) rfl rfl (Nat.le_of_ble_eq_true rfl) dX7_mast_136 (fun H locs hp => ?_)
    obtain ⟨v_136, ev_136⟩ : ∃ z : hh_M, z = hh_up v_123 1 2 ((v_123 1 2) + 1) := ⟨_, rfl⟩
    rw [← ev_136] at hp
    have hTv_136 : hh_T (nm + 1) nh nc v_136 := by rw [ev_136]; exact hh_T_nm hTv_123 (by omega) (by omega) (by rw [hh_T_M hTv_123]; exact nI_1 nm)
    refine lv_aload_n hx hb dX7_mast_139 rfl (lv_at hl 1 rfl) ?_
    refine hh_get C0 hp (C := RX7) (T := TX7) (N := 4) (ci := 7) (by decide) hh_E_0 rfl hh_uX7 0 (by decide) hm_310 rfl rfl dX7_mast_140 ?_
    refine hh_cVv C0 hp (As := []) (rest := []) (C := RX4) (T := TX4) (N := 3) (ci := 4) (n := 0) (hk_X4_measure l D K ad hTv_136 ) rfl (by decide) hh_E_1 (hh_gV hm_337 hm_338 hm_339 hm_83 hm_78) ⟨rfl, rfl⟩ (by decide +kernel) ⟨Nat.le_of_ble_eq_true rfl, Nat.le_of_ble_eq_true rfl⟩ ⟨Nat.zero_le _, Nat.zero_le _⟩ hl.1 rfl rfl (Nat.le_of_ble_eq_true rfl) dX7_mast_143 (fun v_143 H locs hv_143 hp => ?_)
    obtain ⟨ev_143, hTv_143⟩ := hv_143
    refine lv_aload_n hx hb dX7_mast_146 rfl (lv_at hl 1 rfl) ?_
    refine hh_get C0 hp (C := RX7) (T := TX7) (N := 4) (ci := 7) (by decide) hh_E_0 rfl hh_uX7 0 (by decide) hm_310 rfl rfl dX7_mast_147 ?_
    refine hh_get C0 hp (C := RX4) (T := TX4) (N := 3) (ci := 4) (by decide) hh_E_1 rfl hh_uX4 2 (by decide) hm_324 rfl rfl dX7_mast_150 ?_
    refine lv_iconst (v := 1) hx hb dX7_mast_153 (by decide) ?_
    refine lv_isub hx hb dX7_mast_154 ?_
    exact hh_iret C0 hp dX7_mast_155 ⟨(by show (_, _) = _; unfold hf_X7_mast; rw [hh_let_eq ev_84, hh_let_eq ev_90, hh_let_eq ev_96, hh_let_eq ev_103, hh_let_eq ev_110, hh_let_eq ev_117, hh_let_eq ev_123, hh_let_eq ev_136, hh_let_eq ev_143]), hTv_143⟩
  · exact absurd (by rw [hh_T_M hT]; exact nI_lt hm6 (by decide) : v 1 2 < 6) c_51
def hf_X7_handset (v : hh_M) (op : Int32) (pl : Int32) (sp : Int32) (ba : Int32) : Int32 × hh_M := (hh_let (hh_up v (hh_hI 0 ((v (hh_rI 0) 5).toNatClampNeg)) 0 op : hh_M) (fun (v_71 : hh_M) => (hh_let (hh_up v_71 (hh_hI 0 ((v (hh_rI 0) 5).toNatClampNeg)) 1 pl : hh_M) (fun (v_77 : hh_M) => (hh_let (hh_up v_77 (hh_hI 0 ((v (hh_rI 0) 5).toNatClampNeg)) 2 sp : hh_M) (fun (v_83 : hh_M) => (hh_let (hh_up v_83 (hh_hI 0 ((v (hh_rI 0) 5).toNatClampNeg)) 3 ba : hh_M) (fun (v_90 : hh_M) => (hh_let (hh_up v_90 (hh_hI 0 ((v (hh_rI 0) 5).toNatClampNeg)) 4 1 : hh_M) (fun (v_96 : hh_M) => (hh_let (hh_up v_96 (hh_rI 0) 5 ((v_96 (hh_rI 0) 5) + 1) : hh_M) (fun (v_109 : hh_M) => (((v_109 (hh_rI 0) 5) - 1), v_109)))))))))))))
set_option maxHeartbeats 4000000 in
set_option maxRecDepth 100000 in
theorem hk_X7_handset (l : Launch) (D : va_G) (K : Nat → ClassId) (ad : Nat → Nat) {nm : Nat} {nh nc : Nat → Nat} {v : hh_M} (hT : hh_T nm nh nc v) (op : Int32) (pl : Int32) (sp : Int32) (ba : Int32) (hop0 : 0 ≤ op) (hop1 : op ≤ 1) (hpl0 : 0 ≤ pl) (hpl1 : pl ≤ 99) (hsp0 : (-3) ≤ sp) (hsp1 : sp ≤ 3) (hba0 : 0 ≤ ba) (hba1 : ba ≤ 999) (hh8 : nh 0 < 8) : hh_Ki l D K ad yX7_handset (hh_wm yX7_handset cX7_handset 6 (some .int)) { frames := 1, cells := 0, slots := 0, locals := 22 } [.ref (ad 0), .int op, .int pl, .int sp, .int ba] v (fun (q : Int32) (v1 : hh_M) => (q, v1) = hf_X7_handset v op pl sp ba ∧ hh_T nm (hh_fu nh 0 (nh 0 + 1)) nc v1) := by
  refine hh_Ki_of (by decide) (Nat.le_of_ble_eq_true rfl) ?_
  intro p e s m args below meth c ls A C0 hp hl
  obtain ⟨hx, hb, hr9, hml, hown, hts, hK, hlk, hA⟩ := id C0
  have hnm := hT.1
  have hnh := hT.2.1
  have hnc := hT.2.2.1
  have hbH0 := hnh 0
  have hbC0 := hnc 0
  have hbH1 := hnh 1
  have hbC1 := hnc 1
  have hl : lv_has ls 6 [(0, .ref (ad 0)), (1, .int op), (2, .int pl), (3, .int sp), (4, .int ba)] := hl
  refine lv_iload_n hx hb dX7_handset_0 rfl (lv_at hl 1 rfl) ?_
  refine lv_iconst (v := 0) hx hb dX7_handset_1 (by decide) ?_
  refine lv_iconst (v := 1) hx hb dX7_handset_2 (by decide) ?_
  refine hh_cSv C0 hp (As := [.int op, .int 0, .int 1]) (rest := []) (n := 3) (hk_X7_demandWithin l D K ad hT op 0 1 hop0 hop1) (hh_gS hm_333 hm_334 hm_335 hm_336) ⟨rfl, rfl⟩ (by decide +kernel) ⟨Nat.le_of_ble_eq_true rfl, Nat.le_of_ble_eq_true rfl⟩ ⟨Nat.zero_le _, Nat.zero_le _⟩ hl.1 rfl rfl (Nat.le_of_ble_eq_true rfl) dX7_handset_3 (fun v_3 H locs hv_3 hp => ?_)
  rw [hv_3] at hp
  refine lv_iload_n hx hb dX7_handset_6 rfl (lv_at hl 2 rfl) ?_
  refine lv_iconst (v := 0) hx hb dX7_handset_7 (by decide) ?_
  refine lv_bipush (v := 99) hx hb dX7_handset_8 (by decide) ?_
  refine hh_cSv C0 hp (As := [.int pl, .int 0, .int 99]) (rest := []) (n := 3) (hk_X7_demandWithin l D K ad hT pl 0 99 hpl0 hpl1) (hh_gS hm_333 hm_334 hm_335 hm_336) ⟨rfl, rfl⟩ (by decide +kernel) ⟨Nat.le_of_ble_eq_true rfl, Nat.le_of_ble_eq_true rfl⟩ ⟨Nat.zero_le _, Nat.zero_le _⟩ hl.1 rfl rfl (Nat.le_of_ble_eq_true rfl) dX7_handset_10 (fun v_10 H locs hv_10 hp => ?_)
  rw [hv_10] at hp
  refine lv_iload_n hx hb dX7_handset_13 rfl (lv_at hl 3 rfl) ?_
  refine lv_bipush (v := (-3)) hx hb dX7_handset_14 (by decide) ?_
  refine lv_iconst (v := 3) hx hb dX7_handset_16 (by decide) ?_
  refine hh_cSv C0 hp (As := [.int sp, .int (-3), .int 3]) (rest := []) (n := 3) (hk_X7_demandWithin l D K ad hT sp (-3) 3 hsp0 hsp1) (hh_gS hm_333 hm_334 hm_335 hm_336) ⟨rfl, rfl⟩ (by decide +kernel) ⟨Nat.le_of_ble_eq_true rfl, Nat.le_of_ble_eq_true rfl⟩ ⟨Nat.zero_le _, Nat.zero_le _⟩ hl.1 rfl rfl (Nat.le_of_ble_eq_true rfl) dX7_handset_17 (fun v_17 H locs hv_17 hp => ?_)
  rw [hv_17] at hp
  refine lv_iload hx hb dX7_handset_20 (lv_at hl 4 rfl) ?_
  refine lv_iconst (v := 0) hx hb dX7_handset_22 (by decide) ?_
  refine lv_sipush (v := 999) hx hb dX7_handset_23 (by decide) ?_
  refine hh_cSv C0 hp (As := [.int ba, .int 0, .int 999]) (rest := []) (n := 3) (hk_X7_demandWithin l D K ad hT ba 0 999 hba0 hba1) (hh_gS hm_333 hm_334 hm_335 hm_336) ⟨rfl, rfl⟩ (by decide +kernel) ⟨Nat.le_of_ble_eq_true rfl, Nat.le_of_ble_eq_true rfl⟩ ⟨Nat.zero_le _, Nat.zero_le _⟩ hl.1 rfl rfl (Nat.le_of_ble_eq_true rfl) dX7_handset_26 (fun v_26 H locs hv_26 hp => ?_)
  rw [hv_26] at hp
  refine lv_aload_n hx hb dX7_handset_29 rfl (lv_at hl 0 rfl) ?_
  refine hh_get C0 hp (C := RX7) (T := TX7) (N := 4) (ci := 7) (by decide) hh_E_0 rfl hh_uX7 1 (by decide) hm_313 rfl rfl dX7_handset_30 ?_
  refine hh_get C0 hp (C := RX5) (T := TX5) (N := 10) (ci := 5) (hh_b_r (by decide : 0 < 2)) (hh_E_r 0) rfl hh_uX5 5 (by decide) hm_341 rfl rfl dX7_handset_33 ?_
  refine lv_bipush (v := 8) hx hb dX7_handset_36 (by decide) ?_
  refine lv_icmp_lt (tgt := 51) hx hb dX7_handset_38 (by decide) (fun c_38 => ?_) (fun c_38 => ?_)
  · refine lv_aload_n hx hb dX7_handset_51 rfl (lv_at hl 0 rfl) ?_
    refine hh_get C0 hp (C := RX7) (T := TX7) (N := 4) (ci := 7) (by decide) hh_E_0 rfl hh_uX7 1 (by decide) hm_313 rfl rfl dX7_handset_52 ?_
    refine hh_get C0 hp (C := RX5) (T := TX5) (N := 10) (ci := 5) (hh_b_r (by decide : 0 < 2)) (hh_E_r 0) rfl hh_uX5 3 (by decide) hm_342 rfl rfl dX7_handset_55 ?_
    refine lv_aload_n hx hb dX7_handset_58 rfl (lv_at hl 0 rfl) ?_
    refine hh_get C0 hp (C := RX7) (T := TX7) (N := 4) (ci := 7) (by decide) hh_E_0 rfl hh_uX7 1 (by decide) hm_313 rfl rfl dX7_handset_59 ?_
    refine hh_get C0 hp (C := RX5) (T := TX5) (N := 10) (ci := 5) (hh_b_r (by decide : 0 < 2)) (hh_E_r 0) rfl hh_uX5 5 (by decide) hm_341 rfl rfl dX7_handset_62 ?_
    have hin_65 : vp_in (v (hh_rI 0) 5) 8 := by rw [hh_T_r5 hT 0]; exact vp_in_nI hh8 (by decide)
    refine hh_aal C0 hp (t0 := 3) (f := (hh_hI 0)) (hh_b_H (by decide : 0 < 2)) (hh_E_H 0) rfl rfl hin_65 rfl dX7_handset_65 ?_
    refine lv_astore (lv' := [(5, .ref (ad (hh_hI 0 ((v (hh_rI 0) 5).toNatClampNeg)))), (0, .ref (ad 0)), (1, .int op), (2, .int pl), (3, .int sp), (4, .int ba)]) hx hb dX7_handset_66 hl (by decide) rfl (fun ls hl => ?_)
    refine lv_aload hx hb dX7_handset_68 (lv_at hl 0 rfl) ?_
    refine lv_iload_n hx hb dX7_handset_70 rfl (lv_at hl 2 rfl) ?_
    refine hh_put C0 hp (C := RX1) (T := TX1) (N := 13) (ci := 1) (k := 0) (ty := .int) (hh_b_h (by decide : 0 < 2) (hh_lt hin_65)) (hh_E_h 0 (hh_lt hin_65)) (hh_ph0 0 (hh_lt hin_65)) rfl hh_uX1 tyX1_ok nmX1 (by decide) hm_343 rfl rfl (by decide +kernel) rfl rfl (Nat.le_of_ble_eq_true rfl) dX7_handset_71 (fun H locs hp => ?_)
    obtain ⟨v_71, ev_71⟩ : ∃ z : hh_M, z = hh_up v (hh_hI 0 ((v (hh_rI 0) 5).toNatClampNeg)) 0 op := ⟨_, rfl⟩
    rw [← ev_71] at hp
    have hTv_71 : hh_T nm nh nc v_71 := by rw [ev_71]; exact hh_T_up hT (hh_Rt_h (by decide : 0 < 2) (hh_lt hin_65) (by decide))
    refine lv_aload hx hb dX7_handset_74 (lv_at hl 0 rfl) ?_
    refine lv_iload_n hx hb dX7_handset_76 rfl (lv_at hl 3 rfl) ?_
    refine hh_put C0 hp (C := RX1) (T := TX1) (N := 13) (ci := 1) (k := 1) (ty := .int) (hh_b_h (by decide : 0 < 2) (hh_lt hin_65)) (hh_E_h 0 (hh_lt hin_65)) (hh_ph1 0 (hh_lt hin_65)) rfl hh_uX1 tyX1_ok nmX1 (by decide) hm_344 rfl rfl (by decide +kernel) rfl rfl (Nat.le_of_ble_eq_true rfl) dX7_handset_77 (fun H locs hp => ?_)
    obtain ⟨v_77, ev_77⟩ : ∃ z : hh_M, z = hh_up v_71 (hh_hI 0 ((v (hh_rI 0) 5).toNatClampNeg)) 1 pl := ⟨_, rfl⟩
    rw [← ev_77] at hp
    have hTv_77 : hh_T nm nh nc v_77 := by rw [ev_77]; exact hh_T_up hTv_71 (hh_R_h1 (by decide : 0 < 2) (hh_lt hin_65) ⟨hpl0, hpl1⟩)
    refine lv_aload hx hb dX7_handset_80 (lv_at hl 0 rfl) ?_
    refine lv_iload_n hx hb dX7_handset_82 rfl (lv_at hl 4 rfl) ?_
    refine hh_put C0 hp (C := RX1) (T := TX1) (N := 13) (ci := 1) (k := 2) (ty := .int) (hh_b_h (by decide : 0 < 2) (hh_lt hin_65)) (hh_E_h 0 (hh_lt hin_65)) (hh_ph2 0 (hh_lt hin_65)) rfl hh_uX1 tyX1_ok nmX1 (by decide) hm_345 rfl rfl (by decide +kernel) rfl rfl (Nat.le_of_ble_eq_true rfl) dX7_handset_83 (fun H locs hp => ?_)
    obtain ⟨v_83, ev_83⟩ : ∃ z : hh_M, z = hh_up v_77 (hh_hI 0 ((v (hh_rI 0) 5).toNatClampNeg)) 2 sp := ⟨_, rfl⟩
    rw [← ev_83] at hp
    have hTv_83 : hh_T nm nh nc v_83 := by rw [ev_83]; exact hh_T_up hTv_77 (hh_R_h2 (by decide : 0 < 2) (hh_lt hin_65) ⟨hsp0, hsp1⟩)
    refine lv_aload hx hb dX7_handset_86 (lv_at hl 0 rfl) ?_
    refine lv_iload hx hb dX7_handset_88 (lv_at hl 5 rfl) ?_
    refine hh_put C0 hp (C := RX1) (T := TX1) (N := 13) (ci := 1) (k := 3) (ty := .int) (hh_b_h (by decide : 0 < 2) (hh_lt hin_65)) (hh_E_h 0 (hh_lt hin_65)) (hh_ph3 0 (hh_lt hin_65)) rfl hh_uX1 tyX1_ok nmX1 (by decide) hm_346 rfl rfl (by decide +kernel) rfl rfl (Nat.le_of_ble_eq_true rfl) dX7_handset_90 (fun H locs hp => ?_)
    obtain ⟨v_90, ev_90⟩ : ∃ z : hh_M, z = hh_up v_83 (hh_hI 0 ((v (hh_rI 0) 5).toNatClampNeg)) 3 ba := ⟨_, rfl⟩
    rw [← ev_90] at hp
    have hTv_90 : hh_T nm nh nc v_90 := by rw [ev_90]; exact hh_T_up hTv_83 (hh_Rt_h (by decide : 0 < 2) (hh_lt hin_65) (by decide))
    refine lv_aload hx hb dX7_handset_93 (lv_at hl 0 rfl) ?_
    refine lv_iconst (v := 1) hx hb dX7_handset_95 (by decide) ?_
    refine hh_put C0 hp (C := RX1) (T := TX1) (N := 13) (ci := 1) (k := 4) (ty := .boolean) (hh_b_h (by decide : 0 < 2) (hh_lt hin_65)) (hh_E_h 0 (hh_lt hin_65)) (hh_ph4 0 (hh_lt hin_65)) rfl hh_uX1 tyX1_ok nmX1 (by decide) hm_347 rfl rfl (by decide +kernel) (hh_nz (Or.inr rfl)) (hh_fz (Or.inr rfl)) (Nat.le_of_ble_eq_true rfl) dX7_handset_96 (fun H locs hp => ?_)
    obtain ⟨v_96, ev_96⟩ : ∃ z : hh_M, z = hh_up v_90 (hh_hI 0 ((v (hh_rI 0) 5).toNatClampNeg)) 4 1 := ⟨_, rfl⟩
    rw [← ev_96] at hp
    have hTv_96 : hh_T nm nh nc v_96 := by rw [ev_96]; exact hh_T_up hTv_90 (hh_R_h4 (by decide : 0 < 2) (hh_lt hin_65) (Or.inr rfl))
    refine lv_aload_n hx hb dX7_handset_99 rfl (lv_at hl 1 rfl) ?_
    refine hh_get C0 hp (C := RX7) (T := TX7) (N := 4) (ci := 7) (by decide) hh_E_0 rfl hh_uX7 1 (by decide) hm_313 rfl rfl dX7_handset_100 ?_
    refine lv_dup hx hb dX7_handset_103 rfl ?_
    refine hh_get C0 hp (C := RX5) (T := TX5) (N := 10) (ci := 5) (hh_b_r (by decide : 0 < 2)) (hh_E_r 0) rfl hh_uX5 5 (by decide) hm_341 rfl rfl dX7_handset_104 ?_
    refine lv_iconst (v := 1) hx hb dX7_handset_107 (by decide) ?_
    refine lv_iadd hx hb dX7_handset_108 ?_
    refine hh_put C0 hp (C := RX5) (T := TX5) (N := 10) (ci := 5) (k := 5) (ty := .int) (hh_b_r (by decide : 0 < 2)) (hh_E_r 0) (hh_pr5 0) rfl hh_uX5 tyX5_ok nmX5 (by decide) hm_341 rfl rfl (by decide +kernel) rfl rfl (Nat.le_of_ble_eq_true rfl) dX7_handset_109 (fun H locs hp => ?_)
    obtain ⟨v_109, ev_109⟩ : ∃ z : hh_M, z = hh_up v_96 (hh_rI 0) 5 ((v_96 (hh_rI 0) 5) + 1) := ⟨_, rfl⟩
    rw [← ev_109] at hp
    have hTv_109 : hh_T nm (hh_fu nh 0 (nh 0 + 1)) nc v_109 := by rw [ev_109]; exact hh_T_nh hTv_96 (by decide) (by omega) (by omega) (by rw [hh_T_r5 hTv_96 0]; exact nI_1 _)
    refine lv_aload_n hx hb dX7_handset_112 rfl (lv_at hl 1 rfl) ?_
    refine hh_get C0 hp (C := RX7) (T := TX7) (N := 4) (ci := 7) (by decide) hh_E_0 rfl hh_uX7 1 (by decide) hm_313 rfl rfl dX7_handset_113 ?_
    refine hh_get C0 hp (C := RX5) (T := TX5) (N := 10) (ci := 5) (hh_b_r (by decide : 0 < 2)) (hh_E_r 0) rfl hh_uX5 5 (by decide) hm_341 rfl rfl dX7_handset_116 ?_
    refine lv_iconst (v := 1) hx hb dX7_handset_119 (by decide) ?_
    refine lv_isub hx hb dX7_handset_120 ?_
    exact hh_iret C0 hp dX7_handset_121 ⟨(by show (_, _) = _; unfold hf_X7_handset; rw [hh_let_eq ev_71, hh_let_eq ev_77, hh_let_eq ev_83, hh_let_eq ev_90, hh_let_eq ev_96, hh_let_eq ev_109]), hTv_109⟩
  · exact absurd (by rw [hh_T_r5 hT 0]; exact nI_lt hh8 (by decide) : v (hh_rI 0) 5 < 8) c_38
def hf_X7_speed (v : hh_M) (ha : Int32) (sp : Int32) : Int32 × hh_M := (hh_let ((v (hh_hI 0 ha.toNatClampNeg) 2) : Int32) (fun (x_30 : Int32) => (hh_let (hh_up v (hh_hI 0 ha.toNatClampNeg) 2 sp : hh_M) (fun (v_41 : hh_M) => (x_30, v_41)))))
set_option maxHeartbeats 4000000 in
set_option maxRecDepth 100000 in
theorem hk_X7_speed (l : Launch) (D : va_G) (K : Nat → ClassId) (ad : Nat → Nat) {nm : Nat} {nh nc : Nat → Nat} {v : hh_M} (hT : hh_T nm nh nc v) (ha : Int32) (sp : Int32) (hha0 : 0 ≤ ha) (hha1 : ha < nI (nh 0)) (hsp0 : (-3) ≤ sp) (hsp1 : sp ≤ 3) : hh_Ki l D K ad yX7_speed (hh_wm yX7_speed cX7_speed 4 (some .int)) { frames := 1, cells := 0, slots := 0, locals := 22 } [.ref (ad 0), .int ha, .int sp] v (fun (q : Int32) (v1 : hh_M) => (q, v1) = hf_X7_speed v ha sp ∧ hh_T nm nh nc v1) := by
  refine hh_Ki_of (by decide) (Nat.le_of_ble_eq_true rfl) ?_
  intro p e s m args below meth c ls A C0 hp hl
  obtain ⟨hx, hb, hr9, hml, hown, hts, hK, hlk, hA⟩ := id C0
  have hnm := hT.1
  have hnh := hT.2.1
  have hnc := hT.2.2.1
  have hbH0 := hnh 0
  have hbC0 := hnc 0
  have hbH1 := hnh 1
  have hbC1 := hnc 1
  have hl : lv_has ls 4 [(0, .ref (ad 0)), (1, .int ha), (2, .int sp)] := hl
  refine lv_iload_n hx hb dX7_speed_0 rfl (lv_at hl 1 rfl) ?_
  refine lv_aload_n hx hb dX7_speed_1 rfl (lv_at hl 0 rfl) ?_
  refine hh_get C0 hp (C := RX7) (T := TX7) (N := 4) (ci := 7) (by decide) hh_E_0 rfl hh_uX7 1 (by decide) hm_313 rfl rfl dX7_speed_2 ?_
  refine hh_get C0 hp (C := RX5) (T := TX5) (N := 10) (ci := 5) (hh_b_r (by decide : 0 < 2)) (hh_E_r 0) rfl hh_uX5 5 (by decide) hm_341 rfl rfl dX7_speed_5 ?_
  refine hh_cSv C0 hp (As := [.int ha, .int (v (hh_rI 0) 5)]) (rest := []) (n := 2) (hk_X7_demandNumber l D K ad hT ha (v (hh_rI 0) 5) hha0 (by rw [hh_T_r5 hT 0]; exact hha1)) (hh_gS hm_349 hm_350 hm_335 hm_351) ⟨rfl, rfl⟩ (by decide +kernel) ⟨Nat.le_of_ble_eq_true rfl, Nat.le_of_ble_eq_true rfl⟩ ⟨Nat.zero_le _, Nat.zero_le _⟩ hl.1 rfl rfl (Nat.le_of_ble_eq_true rfl) dX7_speed_8 (fun v_8 H locs hv_8 hp => ?_)
  rw [hv_8] at hp
  refine lv_iload_n hx hb dX7_speed_11 rfl (lv_at hl 2 rfl) ?_
  refine lv_bipush (v := (-3)) hx hb dX7_speed_12 (by decide) ?_
  refine lv_iconst (v := 3) hx hb dX7_speed_14 (by decide) ?_
  refine hh_cSv C0 hp (As := [.int sp, .int (-3), .int 3]) (rest := []) (n := 3) (hk_X7_demandWithin l D K ad hT sp (-3) 3 hsp0 hsp1) (hh_gS hm_333 hm_334 hm_335 hm_336) ⟨rfl, rfl⟩ (by decide +kernel) ⟨Nat.le_of_ble_eq_true rfl, Nat.le_of_ble_eq_true rfl⟩ ⟨Nat.zero_le _, Nat.zero_le _⟩ hl.1 rfl rfl (Nat.le_of_ble_eq_true rfl) dX7_speed_15 (fun v_15 H locs hv_15 hp => ?_)
  rw [hv_15] at hp
  refine lv_aload_n hx hb dX7_speed_18 rfl (lv_at hl 0 rfl) ?_
  refine hh_get C0 hp (C := RX7) (T := TX7) (N := 4) (ci := 7) (by decide) hh_E_0 rfl hh_uX7 1 (by decide) hm_313 rfl rfl dX7_speed_19 ?_
  refine hh_get C0 hp (C := RX5) (T := TX5) (N := 10) (ci := 5) (hh_b_r (by decide : 0 < 2)) (hh_E_r 0) rfl hh_uX5 3 (by decide) hm_342 rfl rfl dX7_speed_22 ?_
  refine lv_iload_n hx hb dX7_speed_25 rfl (lv_at hl 1 rfl) ?_
  have hin_26 : vp_in ha 8 := hh_inZ hha0 hha1 hbH0 (by decide)
  refine hh_aal C0 hp (t0 := 3) (f := (hh_hI 0)) (hh_b_H (by decide : 0 < 2)) (hh_E_H 0) rfl rfl hin_26 rfl dX7_speed_26 ?_
  refine hh_get C0 hp (C := RX1) (T := TX1) (N := 13) (ci := 1) (hh_b_h (by decide : 0 < 2) (hh_lt hin_26)) (hh_E_h 0 (hh_lt hin_26)) rfl hh_uX1 2 (by decide) hm_345 rfl rfl dX7_speed_27 ?_
  refine lv_topi (fun x_30 ex_30 => ?_)
  refine lv_istore_n (lv' := [(3, .int x_30), (0, .ref (ad 0)), (1, .int ha), (2, .int sp)]) hx hb dX7_speed_30 rfl hl (by decide) rfl (fun ls hl => ?_)
  refine lv_aload_n hx hb dX7_speed_31 rfl (lv_at hl 1 rfl) ?_
  refine hh_get C0 hp (C := RX7) (T := TX7) (N := 4) (ci := 7) (by decide) hh_E_0 rfl hh_uX7 1 (by decide) hm_313 rfl rfl dX7_speed_32 ?_
  refine hh_get C0 hp (C := RX5) (T := TX5) (N := 10) (ci := 5) (hh_b_r (by decide : 0 < 2)) (hh_E_r 0) rfl hh_uX5 3 (by decide) hm_342 rfl rfl dX7_speed_35 ?_
  refine lv_iload_n hx hb dX7_speed_38 rfl (lv_at hl 2 rfl) ?_
  have hin_39 : vp_in ha 8 := hh_inZ hha0 hha1 hbH0 (by decide)
  refine hh_aal C0 hp (t0 := 3) (f := (hh_hI 0)) (hh_b_H (by decide : 0 < 2)) (hh_E_H 0) rfl rfl hin_39 rfl dX7_speed_39 ?_
  refine lv_iload_n hx hb dX7_speed_40 rfl (lv_at hl 3 rfl) ?_
  refine hh_put C0 hp (C := RX1) (T := TX1) (N := 13) (ci := 1) (k := 2) (ty := .int) (hh_b_h (by decide : 0 < 2) (hh_lt hin_39)) (hh_E_h 0 (hh_lt hin_39)) (hh_ph2 0 (hh_lt hin_39)) rfl hh_uX1 tyX1_ok nmX1 (by decide) hm_345 rfl rfl (by decide +kernel) rfl rfl (Nat.le_of_ble_eq_true rfl) dX7_speed_41 (fun H locs hp => ?_)
  obtain ⟨v_41, ev_41⟩ : ∃ z : hh_M, z = hh_up v (hh_hI 0 ha.toNatClampNeg) 2 sp := ⟨_, rfl⟩
  rw [← ev_41] at hp
  have hTv_41 : hh_T nm nh nc v_41 := by rw [ev_41]; exact hh_T_up hT (hh_R_h2 (by decide : 0 < 2) (hh_lt hin_39) ⟨hsp0, hsp1⟩)
  refine lv_iload_n hx hb dX7_speed_44 rfl (lv_at hl 0 rfl) ?_
  exact hh_iret C0 hp dX7_speed_45 ⟨(by show (_, _) = _; unfold hf_X7_speed; rw [hh_let_eq ex_30, hh_let_eq ev_41]), hTv_41⟩
def hf_X7_call (v : hh_M) (from_ : Int32) (to_ : Int32) : Int32 × hh_M := (hh_let ((hf_X5_tryCall v 0 from_ to_).1 : Int32) (fun (q_37 : Int32) => (hh_let ((hf_X5_tryCall v 0 from_ to_).2 : hh_M) (fun (v_37 : hh_M) => (q_37, v_37)))))
set_option maxHeartbeats 4000000 in
set_option maxRecDepth 100000 in
theorem hk_X7_call (l : Launch) (D : va_G) (K : Nat → ClassId) (ad : Nat → Nat) {nm : Nat} {nh nc : Nat → Nat} {v : hh_M} (hT : hh_T nm nh nc v) (from_ : Int32) (to_ : Int32) (hfrom_0 : 0 ≤ from_) (hfrom_1 : from_ < nI (nh 0)) (hto_0 : 0 ≤ to_) (hto_1 : to_ < nI (nh 0)) (hne : ¬ from_ = to_) (hc24 : nc 0 < 24) : hh_Ki l D K ad yX7_call (hh_wm yX7_call cX7_call 3 (some .int)) { frames := 3, cells := 0, slots := 0, locals := 70 } [.ref (ad 0), .int from_, .int to_] v (fun (q : Int32) (v1 : hh_M) => (q, v1) = hf_X7_call v from_ to_ ∧ ∃ nc1, hh_T nm nh nc1 v1) := by
  refine hh_Ki_of (by decide) (Nat.le_of_ble_eq_true rfl) ?_
  intro p e s m args below meth c ls A C0 hp hl
  obtain ⟨hx, hb, hr9, hml, hown, hts, hK, hlk, hA⟩ := id C0
  have hnm := hT.1
  have hnh := hT.2.1
  have hnc := hT.2.2.1
  have hbH0 := hnh 0
  have hbC0 := hnc 0
  have hbH1 := hnh 1
  have hbC1 := hnc 1
  have hl : lv_has ls 3 [(0, .ref (ad 0)), (1, .int from_), (2, .int to_)] := hl
  refine lv_iload_n hx hb dX7_call_0 rfl (lv_at hl 1 rfl) ?_
  refine lv_aload_n hx hb dX7_call_1 rfl (lv_at hl 0 rfl) ?_
  refine hh_get C0 hp (C := RX7) (T := TX7) (N := 4) (ci := 7) (by decide) hh_E_0 rfl hh_uX7 1 (by decide) hm_313 rfl rfl dX7_call_2 ?_
  refine hh_get C0 hp (C := RX5) (T := TX5) (N := 10) (ci := 5) (hh_b_r (by decide : 0 < 2)) (hh_E_r 0) rfl hh_uX5 5 (by decide) hm_341 rfl rfl dX7_call_5 ?_
  refine hh_cSv C0 hp (As := [.int from_, .int (v (hh_rI 0) 5)]) (rest := []) (n := 2) (hk_X7_demandNumber l D K ad hT from_ (v (hh_rI 0) 5) hfrom_0 (by rw [hh_T_r5 hT 0]; exact hfrom_1)) (hh_gS hm_349 hm_350 hm_335 hm_351) ⟨rfl, rfl⟩ (by decide +kernel) ⟨Nat.le_of_ble_eq_true rfl, Nat.le_of_ble_eq_true rfl⟩ ⟨Nat.zero_le _, Nat.zero_le _⟩ hl.1 rfl rfl (Nat.le_of_ble_eq_true rfl) dX7_call_8 (fun v_8 H locs hv_8 hp => ?_)
  rw [hv_8] at hp
  refine lv_iload_n hx hb dX7_call_11 rfl (lv_at hl 2 rfl) ?_
  refine lv_aload_n hx hb dX7_call_12 rfl (lv_at hl 0 rfl) ?_
  refine hh_get C0 hp (C := RX7) (T := TX7) (N := 4) (ci := 7) (by decide) hh_E_0 rfl hh_uX7 1 (by decide) hm_313 rfl rfl dX7_call_13 ?_
  refine hh_get C0 hp (C := RX5) (T := TX5) (N := 10) (ci := 5) (hh_b_r (by decide : 0 < 2)) (hh_E_r 0) rfl hh_uX5 5 (by decide) hm_341 rfl rfl dX7_call_16 ?_
  refine hh_cSv C0 hp (As := [.int to_, .int (v (hh_rI 0) 5)]) (rest := []) (n := 2) (hk_X7_demandNumber l D K ad hT to_ (v (hh_rI 0) 5) hto_0 (by rw [hh_T_r5 hT 0]; exact hto_1)) (hh_gS hm_349 hm_350 hm_335 hm_351) ⟨rfl, rfl⟩ (by decide +kernel) ⟨Nat.le_of_ble_eq_true rfl, Nat.le_of_ble_eq_true rfl⟩ ⟨Nat.zero_le _, Nat.zero_le _⟩ hl.1 rfl rfl (Nat.le_of_ble_eq_true rfl) dX7_call_19 (fun v_19 H locs hv_19 hp => ?_)
  rw [hv_19] at hp
  refine lv_iload_n hx hb dX7_call_22 rfl (lv_at hl 1 rfl) ?_
  refine lv_iload_n hx hb dX7_call_23 rfl (lv_at hl 2 rfl) ?_
  refine hh_cSv C0 hp (As := [.int from_, .int to_]) (rest := []) (n := 2) (hk_X7_demandOthers l D K ad hT from_ to_ hne) (hh_gS hm_363 hm_364 hm_335 hm_365) ⟨rfl, rfl⟩ (by decide +kernel) ⟨Nat.le_of_ble_eq_true rfl, Nat.le_of_ble_eq_true rfl⟩ ⟨Nat.zero_le _, Nat.zero_le _⟩ hl.1 rfl rfl (Nat.le_of_ble_eq_true rfl) dX7_call_24 (fun v_24 H locs hv_24 hp => ?_)
  rw [hv_24] at hp
  refine lv_aload_n hx hb dX7_call_27 rfl (lv_at hl 0 rfl) ?_
  refine hh_cVv C0 hp (As := []) (rest := []) (C := RX7) (T := TX7) (N := 4) (ci := 7) (n := 0) (hk_X7_demandRoomForCall l D K ad hT hc24) rfl (by decide) hh_E_0 (hh_gV hm_366 hm_367 hm_368 hm_335 hm_369) ⟨rfl, rfl⟩ (by decide +kernel) ⟨Nat.le_of_ble_eq_true rfl, Nat.le_of_ble_eq_true rfl⟩ ⟨Nat.zero_le _, Nat.zero_le _⟩ hl.1 rfl rfl (Nat.le_of_ble_eq_true rfl) dX7_call_28 (fun v_28 H locs hv_28 hp => ?_)
  rw [hv_28] at hp
  refine lv_aload_n hx hb dX7_call_31 rfl (lv_at hl 0 rfl) ?_
  refine hh_get C0 hp (C := RX7) (T := TX7) (N := 4) (ci := 7) (by decide) hh_E_0 rfl hh_uX7 1 (by decide) hm_313 rfl rfl dX7_call_32 ?_
  refine lv_iload_n hx hb dX7_call_35 rfl (lv_at hl 1 rfl) ?_
  refine lv_iload_n hx hb dX7_call_36 rfl (lv_at hl 2 rfl) ?_
  refine hh_cVi C0 hp (As := [.int from_, .int to_]) (rest := []) (C := RX5) (T := TX5) (N := 10) (ci := 5) (n := 2) (hk_X5_tryCall l D K ad hT 0 from_ to_ (by decide : 0 < 2) hfrom_0 hfrom_1 hto_0 hto_1 (by assumption)) rfl (hh_b_r (by decide : 0 < 2)) (hh_E_r 0) (hh_gV hm_371 hm_372 hm_373 hm_128 hm_248) ⟨rfl, rfl⟩ (by decide +kernel) ⟨Nat.le_of_ble_eq_true rfl, Nat.le_of_ble_eq_true rfl⟩ ⟨Nat.zero_le _, Nat.zero_le _⟩ hl.1 rfl rfl (Nat.le_of_ble_eq_true rfl) dX7_call_37 (fun q_37 v_37 H locs hv_37 hp => ?_)
  obtain ⟨h9, hTv_37⟩ := hv_37
  have eq_37 : q_37 = (hf_X5_tryCall v 0 from_ to_).1 := congrArg Prod.fst h9
  have ev_37 : v_37 = (hf_X5_tryCall v 0 from_ to_).2 := congrArg Prod.snd h9
  clear h9
  exact hh_iret C0 hp dX7_call_40 ⟨(by show (_, _) = _; unfold hf_X7_call; rw [hh_let_eq eq_37, hh_let_eq ev_37]), hTv_37⟩
def hf_X7_text (v : hh_M) (from_ : Int32) (to_ : Int32) : Int32 × hh_M := (hh_let (hh_up v (hh_rI 0) 7 ((v (hh_rI 0) 7) + 1) : hh_M) (fun (v_59 : hh_M) => (hh_let (hh_up v_59 (hh_hI 0 to_.toNatClampNeg) 12 ((v_59 (hh_hI 0 to_.toNatClampNeg) 12) + 1) : hh_M) (fun (v_77 : hh_M) => ((v_77 (hh_hI 0 to_.toNatClampNeg) 12), v_77)))))
set_option maxHeartbeats 4000000 in
set_option maxRecDepth 100000 in
theorem hk_X7_text (l : Launch) (D : va_G) (K : Nat → ClassId) (ad : Nat → Nat) {nm : Nat} {nh nc : Nat → Nat} {v : hh_M} (hT : hh_T nm nh nc v) (from_ : Int32) (to_ : Int32) (hfrom_0 : 0 ≤ from_) (hfrom_1 : from_ < nI (nh 0)) (hto_0 : 0 ≤ to_) (hto_1 : to_ < nI (nh 0)) (hne : ¬ from_ = to_) (ht24 : v (hh_rI 0) 7 < 24) : hh_Ki l D K ad yX7_text (hh_wm yX7_text cX7_text 3 (some .int)) { frames := 1, cells := 0, slots := 0, locals := 21 } [.ref (ad 0), .int from_, .int to_] v (fun (q : Int32) (v1 : hh_M) => (q, v1) = hf_X7_text v from_ to_ ∧ hh_T nm nh nc v1) := by
  refine hh_Ki_of (by decide) (Nat.le_of_ble_eq_true rfl) ?_
  intro p e s m args below meth c ls A C0 hp hl
  obtain ⟨hx, hb, hr9, hml, hown, hts, hK, hlk, hA⟩ := id C0
  have hnm := hT.1
  have hnh := hT.2.1
  have hnc := hT.2.2.1
  have hbH0 := hnh 0
  have hbC0 := hnc 0
  have hbH1 := hnh 1
  have hbC1 := hnc 1
  have hl : lv_has ls 3 [(0, .ref (ad 0)), (1, .int from_), (2, .int to_)] := hl
  refine lv_iload_n hx hb dX7_text_0 rfl (lv_at hl 1 rfl) ?_
  refine lv_aload_n hx hb dX7_text_1 rfl (lv_at hl 0 rfl) ?_
  refine hh_get C0 hp (C := RX7) (T := TX7) (N := 4) (ci := 7) (by decide) hh_E_0 rfl hh_uX7 1 (by decide) hm_313 rfl rfl dX7_text_2 ?_
  refine hh_get C0 hp (C := RX5) (T := TX5) (N := 10) (ci := 5) (hh_b_r (by decide : 0 < 2)) (hh_E_r 0) rfl hh_uX5 5 (by decide) hm_341 rfl rfl dX7_text_5 ?_
  refine hh_cSv C0 hp (As := [.int from_, .int (v (hh_rI 0) 5)]) (rest := []) (n := 2) (hk_X7_demandNumber l D K ad hT from_ (v (hh_rI 0) 5) hfrom_0 (by rw [hh_T_r5 hT 0]; exact hfrom_1)) (hh_gS hm_349 hm_350 hm_335 hm_351) ⟨rfl, rfl⟩ (by decide +kernel) ⟨Nat.le_of_ble_eq_true rfl, Nat.le_of_ble_eq_true rfl⟩ ⟨Nat.zero_le _, Nat.zero_le _⟩ hl.1 rfl rfl (Nat.le_of_ble_eq_true rfl) dX7_text_8 (fun v_8 H locs hv_8 hp => ?_)
  rw [hv_8] at hp
  refine lv_iload_n hx hb dX7_text_11 rfl (lv_at hl 2 rfl) ?_
  refine lv_aload_n hx hb dX7_text_12 rfl (lv_at hl 0 rfl) ?_
  refine hh_get C0 hp (C := RX7) (T := TX7) (N := 4) (ci := 7) (by decide) hh_E_0 rfl hh_uX7 1 (by decide) hm_313 rfl rfl dX7_text_13 ?_
  refine hh_get C0 hp (C := RX5) (T := TX5) (N := 10) (ci := 5) (hh_b_r (by decide : 0 < 2)) (hh_E_r 0) rfl hh_uX5 5 (by decide) hm_341 rfl rfl dX7_text_16 ?_
  refine hh_cSv C0 hp (As := [.int to_, .int (v (hh_rI 0) 5)]) (rest := []) (n := 2) (hk_X7_demandNumber l D K ad hT to_ (v (hh_rI 0) 5) hto_0 (by rw [hh_T_r5 hT 0]; exact hto_1)) (hh_gS hm_349 hm_350 hm_335 hm_351) ⟨rfl, rfl⟩ (by decide +kernel) ⟨Nat.le_of_ble_eq_true rfl, Nat.le_of_ble_eq_true rfl⟩ ⟨Nat.zero_le _, Nat.zero_le _⟩ hl.1 rfl rfl (Nat.le_of_ble_eq_true rfl) dX7_text_19 (fun v_19 H locs hv_19 hp => ?_)
  rw [hv_19] at hp
  refine lv_iload_n hx hb dX7_text_22 rfl (lv_at hl 1 rfl) ?_
  refine lv_iload_n hx hb dX7_text_23 rfl (lv_at hl 2 rfl) ?_
  refine hh_cSv C0 hp (As := [.int from_, .int to_]) (rest := []) (n := 2) (hk_X7_demandOthers l D K ad hT from_ to_ hne) (hh_gS hm_363 hm_364 hm_335 hm_365) ⟨rfl, rfl⟩ (by decide +kernel) ⟨Nat.le_of_ble_eq_true rfl, Nat.le_of_ble_eq_true rfl⟩ ⟨Nat.zero_le _, Nat.zero_le _⟩ hl.1 rfl rfl (Nat.le_of_ble_eq_true rfl) dX7_text_24 (fun v_24 H locs hv_24 hp => ?_)
  rw [hv_24] at hp
  refine lv_aload_n hx hb dX7_text_27 rfl (lv_at hl 0 rfl) ?_
  refine hh_get C0 hp (C := RX7) (T := TX7) (N := 4) (ci := 7) (by decide) hh_E_0 rfl hh_uX7 1 (by decide) hm_313 rfl rfl dX7_text_28 ?_
  refine hh_get C0 hp (C := RX5) (T := TX5) (N := 10) (ci := 5) (hh_b_r (by decide : 0 < 2)) (hh_E_r 0) rfl hh_uX5 7 (by decide) hm_384 rfl rfl dX7_text_31 ?_
  refine lv_bipush (v := 24) hx hb dX7_text_34 (by decide) ?_
  refine lv_icmp_lt (tgt := 49) hx hb dX7_text_36 (by decide) (fun c_36 => ?_) (fun c_36 => ?_)
  · refine lv_aload_n hx hb dX7_text_49 rfl (lv_at hl 0 rfl) ?_
    refine hh_get C0 hp (C := RX7) (T := TX7) (N := 4) (ci := 7) (by decide) hh_E_0 rfl hh_uX7 1 (by decide) hm_313 rfl rfl dX7_text_50 ?_
    refine lv_dup hx hb dX7_text_53 rfl ?_
    refine hh_get C0 hp (C := RX5) (T := TX5) (N := 10) (ci := 5) (hh_b_r (by decide : 0 < 2)) (hh_E_r 0) rfl hh_uX5 7 (by decide) hm_384 rfl rfl dX7_text_54 ?_
    refine lv_iconst (v := 1) hx hb dX7_text_57 (by decide) ?_
    refine lv_iadd hx hb dX7_text_58 ?_
    refine hh_put C0 hp (C := RX5) (T := TX5) (N := 10) (ci := 5) (k := 7) (ty := .int) (hh_b_r (by decide : 0 < 2)) (hh_E_r 0) (hh_pr7 0) rfl hh_uX5 tyX5_ok nmX5 (by decide) hm_384 rfl rfl (by decide +kernel) rfl rfl (Nat.le_of_ble_eq_true rfl) dX7_text_59 (fun H locs hp => ?_)
    obtain ⟨v_59, ev_59⟩ : ∃ z : hh_M, z = hh_up v (hh_rI 0) 7 ((v (hh_rI 0) 7) + 1) := ⟨_, rfl⟩
    rw [← ev_59] at hp
    have hTv_59 : hh_T nm nh nc v_59 := by rw [ev_59]; exact hh_T_up hT (hh_Rt_r (by decide : 0 < 2) (by decide))
    refine lv_aload_n hx hb dX7_text_62 rfl (lv_at hl 0 rfl) ?_
    refine hh_get C0 hp (C := RX7) (T := TX7) (N := 4) (ci := 7) (by decide) hh_E_0 rfl hh_uX7 1 (by decide) hm_313 rfl rfl dX7_text_63 ?_
    refine hh_get C0 hp (C := RX5) (T := TX5) (N := 10) (ci := 5) (hh_b_r (by decide : 0 < 2)) (hh_E_r 0) rfl hh_uX5 3 (by decide) hm_342 rfl rfl dX7_text_66 ?_
    refine lv_iload_n hx hb dX7_text_69 rfl (lv_at hl 2 rfl) ?_
    have hin_70 : vp_in to_ 8 := hh_inZ hto_0 hto_1 hbH0 (by decide)
    refine hh_aal C0 hp (t0 := 3) (f := (hh_hI 0)) (hh_b_H (by decide : 0 < 2)) (hh_E_H 0) rfl rfl hin_70 rfl dX7_text_70 ?_
    refine lv_dup hx hb dX7_text_71 rfl ?_
    refine hh_get C0 hp (C := RX1) (T := TX1) (N := 13) (ci := 1) (hh_b_h (by decide : 0 < 2) (hh_lt hin_70)) (hh_E_h 0 (hh_lt hin_70)) rfl hh_uX1 12 (by decide) hm_385 rfl rfl dX7_text_72 ?_
    refine lv_iconst (v := 1) hx hb dX7_text_75 (by decide) ?_
    refine lv_iadd hx hb dX7_text_76 ?_
    refine hh_put C0 hp (C := RX1) (T := TX1) (N := 13) (ci := 1) (k := 12) (ty := .int) (hh_b_h (by decide : 0 < 2) (hh_lt hin_70)) (hh_E_h 0 (hh_lt hin_70)) (hh_ph12 0 (hh_lt hin_70)) rfl hh_uX1 tyX1_ok nmX1 (by decide) hm_385 rfl rfl (by decide +kernel) rfl rfl (Nat.le_of_ble_eq_true rfl) dX7_text_77 (fun H locs hp => ?_)
    obtain ⟨v_77, ev_77⟩ : ∃ z : hh_M, z = hh_up v_59 (hh_hI 0 to_.toNatClampNeg) 12 ((v_59 (hh_hI 0 to_.toNatClampNeg) 12) + 1) := ⟨_, rfl⟩
    rw [← ev_77] at hp
    have hTv_77 : hh_T nm nh nc v_77 := by rw [ev_77]; exact hh_T_up hTv_59 (hh_Rt_h (by decide : 0 < 2) (hh_lt hin_70) (by decide))
    refine lv_aload_n hx hb dX7_text_80 rfl (lv_at hl 0 rfl) ?_
    refine hh_get C0 hp (C := RX7) (T := TX7) (N := 4) (ci := 7) (by decide) hh_E_0 rfl hh_uX7 1 (by decide) hm_313 rfl rfl dX7_text_81 ?_
    refine hh_get C0 hp (C := RX5) (T := TX5) (N := 10) (ci := 5) (hh_b_r (by decide : 0 < 2)) (hh_E_r 0) rfl hh_uX5 3 (by decide) hm_342 rfl rfl dX7_text_84 ?_
    refine lv_iload_n hx hb dX7_text_87 rfl (lv_at hl 2 rfl) ?_
    have hin_88 : vp_in to_ 8 := hh_inZ hto_0 hto_1 hbH0 (by decide)
    refine hh_aal C0 hp (t0 := 3) (f := (hh_hI 0)) (hh_b_H (by decide : 0 < 2)) (hh_E_H 0) rfl rfl hin_88 rfl dX7_text_88 ?_
    refine hh_get C0 hp (C := RX1) (T := TX1) (N := 13) (ci := 1) (hh_b_h (by decide : 0 < 2) (hh_lt hin_88)) (hh_E_h 0 (hh_lt hin_88)) rfl hh_uX1 12 (by decide) hm_385 rfl rfl dX7_text_89 ?_
    exact hh_iret C0 hp dX7_text_92 ⟨(by show (_, _) = _; unfold hf_X7_text; rw [hh_let_eq ev_59, hh_let_eq ev_77]), hTv_77⟩
  · exact absurd ht24 c_36
def hl_X7_pass_18 (i : Nat) (w_18 : hh_M) : hh_M := (hh_let (hf_X5_second w_18 0 : hh_M) (fun (v_27 : hh_M) => v_27))
def hf_X7_pass (v : hh_M) (se : Int32) : Int32 × hh_M := (hh_let (hf_X5_callsThat v 0 0 : Int32) (fun (q_12 : Int32) => (hh_let (hh_fld (fun (i9 : Nat) (z : hh_M) => hl_X7_pass_18 i9 z) se.toNatClampNeg v : hh_M) (fun (w_18 : hh_M) => (hh_let (hf_X5_callsThat w_18 0 0 : Int32) (fun (q_42 : Int32) => ((q_12 - q_42), w_18)))))))
set_option maxHeartbeats 4000000 in
set_option maxRecDepth 100000 in
theorem hk_X7_pass (l : Launch) (D : va_G) (K : Nat → ClassId) (ad : Nat → Nat) {nm : Nat} {nh nc : Nat → Nat} {v : hh_M} (hT : hh_T nm nh nc v) (se : Int32) (hse0 : 1 ≤ se) (hse1 : se ≤ 99) : hh_Ki l D K ad yX7_pass (hh_wm yX7_pass cX7_pass 4 (some .int)) { frames := 4, cells := 0, slots := 0, locals := 95 } [.ref (ad 0), .int se] v (fun (q : Int32) (v1 : hh_M) => (q, v1) = hf_X7_pass v se ∧ hh_T nm nh nc v1) := by
  refine hh_Ki_of (by decide) (Nat.le_of_ble_eq_true rfl) ?_
  intro p e s m args below meth c ls A C0 hp hl
  obtain ⟨hx, hb, hr9, hml, hown, hts, hK, hlk, hA⟩ := id C0
  have hnm := hT.1
  have hnh := hT.2.1
  have hnc := hT.2.2.1
  have hbH0 := hnh 0
  have hbC0 := hnc 0
  have hbH1 := hnh 1
  have hbC1 := hnc 1
  have hl : lv_has ls 4 [(0, .ref (ad 0)), (1, .int se)] := hl
  have hS0 : 0 ≤ se := by first | assumption | exact Int32.le_trans (by decide) hse0
  have hS : se = nI se.toNatClampNeg := hh_nat hS0
  have hS9 : se.toNatClampNeg ≤ 99 := hh_nat_le hS0 (by assumption) (by decide)
  refine lv_iload_n hx hb dX7_pass_0 rfl (lv_at hl 1 rfl) ?_
  refine lv_iconst (v := 1) hx hb dX7_pass_1 (by decide) ?_
  refine lv_bipush (v := 99) hx hb dX7_pass_2 (by decide) ?_
  refine hh_cSv C0 hp (As := [.int se, .int 1, .int 99]) (rest := []) (n := 3) (hk_X7_demandWithin l D K ad hT se 1 99 hse0 hse1) (hh_gS hm_333 hm_334 hm_335 hm_336) ⟨rfl, rfl⟩ (by decide +kernel) ⟨Nat.le_of_ble_eq_true rfl, Nat.le_of_ble_eq_true rfl⟩ ⟨Nat.zero_le _, Nat.zero_le _⟩ hl.1 rfl rfl (Nat.le_of_ble_eq_true rfl) dX7_pass_4 (fun v_4 H locs hv_4 hp => ?_)
  rw [hv_4] at hp
  refine lv_aload_n hx hb dX7_pass_7 rfl (lv_at hl 0 rfl) ?_
  refine hh_get C0 hp (C := RX7) (T := TX7) (N := 4) (ci := 7) (by decide) hh_E_0 rfl hh_uX7 1 (by decide) hm_313 rfl rfl dX7_pass_8 ?_
  refine lv_iconst (v := 0) hx hb dX7_pass_11 (by decide) ?_
  refine hh_cVi C0 hp (As := [.int 0]) (rest := []) (C := RX5) (T := TX5) (N := 10) (ci := 5) (n := 1) (hk_X5_callsThat l D K ad hT 0 0 (by decide : 0 < 2)) rfl (hh_b_r (by decide : 0 < 2)) (hh_E_r 0) (hh_gV hm_391 hm_392 hm_393 hm_128 hm_267) ⟨rfl, rfl⟩ (by decide +kernel) ⟨Nat.le_of_ble_eq_true rfl, Nat.le_of_ble_eq_true rfl⟩ ⟨Nat.zero_le _, Nat.zero_le _⟩ hl.1 rfl rfl (Nat.le_of_ble_eq_true rfl) dX7_pass_12 (fun q_12 v_12 H locs hv_12 hp => ?_)
  obtain ⟨eq_12, hv9⟩ := hv_12
  rw [hv9] at hp; clear hv9
  refine lv_istore_n (lv' := [(2, .int q_12), (0, .ref (ad 0)), (1, .int se)]) hx hb dX7_pass_15 rfl hl (by decide) rfl (fun ls hl => ?_)
  refine lv_iconst (v := 0) hx hb dX7_pass_16 (by decide) ?_
  refine lv_istore_n (lv' := [(3, .int 0), (2, .int q_12), (0, .ref (ad 0)), (1, .int se)]) hx hb dX7_pass_17 rfl hl (by decide) rfl (fun ls hl => ?_)
  have hL_18 : ∀ (n i : Nat) (w_18 : hh_M) (H : Heap) (locs : List Loc) (ls : Array Slot), i ≤ se.toNatClampNeg → se.toNatClampNeg - i < n → w_18 = hh_fld (fun (i9 : Nat) (z : hh_M) => hl_X7_pass_18 i9 z) i v → hh_T nm nh nc w_18 → hh_H D K ad A s.heap w_18 H locs → lv_has ls 4 [(3, .int (nI i)), (2, .int q_12), (0, .ref (ad 0)), (1, .int se)] → W p l e ({ frames := 4, cells := 0, slots := 0, locals := 95 } : Room) s m args below meth c H locs 0 0 (MQ below (va_Qi (fun (q : Int32) (v1 : hh_M) => (q, v1) = hf_X7_pass v se ∧ hh_T nm nh nc v1) (hh_B D K ad A) A) args s 0 0 A) (F0 m 18 ls []) := by
    intro n
    induction n with
    | zero => intro i w_18 H locs ls h1 h2; omega
    | succ n ih =>
      intro i w_18 H locs ls hii hni hsL_18 hTw_18 hp hl
      refine lv_iload_n hx hb dX7_pass_18 rfl (lv_at hl 0 rfl) ?_
      refine lv_iload_n hx hb dX7_pass_19 rfl (lv_at hl 3 rfl) ?_
      refine lv_icmp_ge (tgt := 36) hx hb dX7_pass_20 (by decide) (fun c_20 => ?_) (fun c_20 => ?_)
      · have hbc_20 : se = nI se.toNatClampNeg := hS
        rw [hbc_20] at c_20
        have hc_20 := (nI_leI (a := se.toNatClampNeg) (b := i) (by omega) (by omega))
        have hltc_20 : se.toNatClampNeg ≤ i := by exact hc_20.mp c_20
        have hNL_18 : i = se.toNatClampNeg := by omega
        rw [hNL_18] at hsL_18
        have ew_18 : w_18 = hh_fld (fun (i9 : Nat) (z : hh_M) => hl_X7_pass_18 i9 z) se.toNatClampNeg v := hsL_18
        clear ih hsL_18
        refine lv_iload_n hx hb dX7_pass_36 rfl (lv_at hl 1 rfl) ?_
        refine lv_aload_n hx hb dX7_pass_37 rfl (lv_at hl 2 rfl) ?_
        refine hh_get C0 hp (C := RX7) (T := TX7) (N := 4) (ci := 7) (by decide) hh_E_0 rfl hh_uX7 1 (by decide) hm_313 rfl rfl dX7_pass_38 ?_
        refine lv_iconst (v := 0) hx hb dX7_pass_41 (by decide) ?_
        refine hh_cVi C0 hp (As := [.int 0]) (rest := [.int q_12]) (C := RX5) (T := TX5) (N := 10) (ci := 5) (n := 1) (hk_X5_callsThat l D K ad hTw_18 0 0 (by decide : 0 < 2)) rfl (hh_b_r (by decide : 0 < 2)) (hh_E_r 0) (hh_gV hm_391 hm_392 hm_393 hm_128 hm_267) ⟨rfl, rfl⟩ (by decide +kernel) ⟨Nat.le_of_ble_eq_true rfl, Nat.le_of_ble_eq_true rfl⟩ ⟨Nat.zero_le _, Nat.zero_le _⟩ hl.1 rfl rfl (Nat.le_of_ble_eq_true rfl) dX7_pass_42 (fun q_42 v_42 H locs hv_42 hp => ?_)
        obtain ⟨eq_42, hv9⟩ := hv_42
        rw [hv9] at hp; clear hv9
        refine lv_isub hx hb dX7_pass_45 ?_
        exact hh_iret C0 hp dX7_pass_46 ⟨(by show (_, _) = _; unfold hf_X7_pass; rw [hh_let_eq eq_12, hh_let_eq ew_18, hh_let_eq eq_42]), hTw_18⟩
      · have hbc_20 : se = nI se.toNatClampNeg := hS
        rw [hbc_20] at c_20
        have hc_20 := (nI_leI (a := se.toNatClampNeg) (b := i) (by omega) (by omega))
        have hltc_20 : i < se.toNatClampNeg := by exact Nat.not_le.mp (fun z => c_20 (hc_20.mpr z))
        refine lv_aload_n hx hb dX7_pass_23 rfl (lv_at hl 2 rfl) ?_
        refine hh_get C0 hp (C := RX7) (T := TX7) (N := 4) (ci := 7) (by decide) hh_E_0 rfl hh_uX7 1 (by decide) hm_313 rfl rfl dX7_pass_24 ?_
        refine hh_cVv C0 hp (As := []) (rest := []) (C := RX5) (T := TX5) (N := 10) (ci := 5) (n := 0) (hk_X5_second l D K ad hTw_18 0 (by decide : 0 < 2)) rfl (hh_b_r (by decide : 0 < 2)) (hh_E_r 0) (hh_gV hm_394 hm_395 hm_396 hm_128 hm_158) ⟨rfl, rfl⟩ (by decide +kernel) ⟨Nat.le_of_ble_eq_true rfl, Nat.le_of_ble_eq_true rfl⟩ ⟨Nat.zero_le _, Nat.zero_le _⟩ hl.1 rfl rfl (Nat.le_of_ble_eq_true rfl) dX7_pass_27 (fun v_27 H locs hv_27 hp => ?_)
        obtain ⟨ev_27, hTv_27, hF9⟩ := hv_27
        refine lv_iinc (v := (nI (i + 1))) (lv' := [(3, .int (nI (i + 1))), (2, .int q_12), (0, .ref (ad 0)), (1, .int se)]) hx hb dX7_pass_30 hl (k := 0) rfl (nI_1 i) (by decide) rfl (fun ls hl => ?_)
        refine lv_goto (tgt := 18) hx hb dX7_pass_33 (by decide) ?_
        exact ih (i + 1) v_27 _ _ _ (by omega) (by omega) (by rw [hh_fld, ← hsL_18]; show _ = hl_X7_pass_18 i w_18; unfold hl_X7_pass_18; rw [hh_let_eq ev_27]) hTv_27 hp (lv_sub hl [0, 1, 2, 3] rfl)
  exact hL_18 (se.toNatClampNeg + 1) 0 v _ _ _ (Nat.zero_le _) (by omega) rfl hT hp (lv_sub hl [0, 1, 2, 3] rfl)
def hf_X7_quality (v : hh_M) (ma : Int32) (pl : Int32) : Int32 := (hh_let (hf_X5_qualityAt v 0 ma pl : Int32) (fun (q_24 : Int32) => q_24))
set_option maxHeartbeats 4000000 in
set_option maxRecDepth 100000 in
theorem hk_X7_quality (l : Launch) (D : va_G) (K : Nat → ClassId) (ad : Nat → Nat) {nm : Nat} {nh nc : Nat → Nat} {v : hh_M} (hT : hh_T nm nh nc v) (ma : Int32) (pl : Int32) (hma0 : 0 ≤ ma) (hma1 : ma < nI nm) (hpl0 : 0 ≤ pl) (hpl1 : pl ≤ 99) : hh_Ki l D K ad yX7_quality (hh_wm yX7_quality cX7_quality 3 (some .int)) { frames := 1, cells := 0, slots := 0, locals := 22 } [.ref (ad 0), .int ma, .int pl] v (fun (q : Int32) (v1 : hh_M) => q = hf_X7_quality v ma pl ∧ v1 = v) := by
  refine hh_Ki_of (by decide) (Nat.le_of_ble_eq_true rfl) ?_
  intro p e s m args below meth c ls A C0 hp hl
  obtain ⟨hx, hb, hr9, hml, hown, hts, hK, hlk, hA⟩ := id C0
  have hnm := hT.1
  have hnh := hT.2.1
  have hnc := hT.2.2.1
  have hbH0 := hnh 0
  have hbC0 := hnc 0
  have hbH1 := hnh 1
  have hbC1 := hnc 1
  have hl : lv_has ls 3 [(0, .ref (ad 0)), (1, .int ma), (2, .int pl)] := hl
  refine lv_iload_n hx hb dX7_quality_0 rfl (lv_at hl 1 rfl) ?_
  refine lv_aload_n hx hb dX7_quality_1 rfl (lv_at hl 0 rfl) ?_
  refine hh_get C0 hp (C := RX7) (T := TX7) (N := 4) (ci := 7) (by decide) hh_E_0 rfl hh_uX7 0 (by decide) hm_310 rfl rfl dX7_quality_2 ?_
  refine hh_get C0 hp (C := RX4) (T := TX4) (N := 3) (ci := 4) (by decide) hh_E_1 rfl hh_uX4 2 (by decide) hm_324 rfl rfl dX7_quality_5 ?_
  refine hh_cSv C0 hp (As := [.int ma, .int (v 1 2)]) (rest := []) (n := 2) (hk_X7_demandNumber l D K ad hT ma (v 1 2) hma0 (by rw [hh_T_M hT]; exact hma1)) (hh_gS hm_349 hm_350 hm_335 hm_351) ⟨rfl, rfl⟩ (by decide +kernel) ⟨Nat.le_of_ble_eq_true rfl, Nat.le_of_ble_eq_true rfl⟩ ⟨Nat.zero_le _, Nat.zero_le _⟩ hl.1 rfl rfl (Nat.le_of_ble_eq_true rfl) dX7_quality_8 (fun v_8 H locs hv_8 hp => ?_)
  rw [hv_8] at hp
  refine lv_iload_n hx hb dX7_quality_11 rfl (lv_at hl 2 rfl) ?_
  refine lv_iconst (v := 0) hx hb dX7_quality_12 (by decide) ?_
  refine lv_bipush (v := 99) hx hb dX7_quality_13 (by decide) ?_
  refine hh_cSv C0 hp (As := [.int pl, .int 0, .int 99]) (rest := []) (n := 3) (hk_X7_demandWithin l D K ad hT pl 0 99 hpl0 hpl1) (hh_gS hm_333 hm_334 hm_335 hm_336) ⟨rfl, rfl⟩ (by decide +kernel) ⟨Nat.le_of_ble_eq_true rfl, Nat.le_of_ble_eq_true rfl⟩ ⟨Nat.zero_le _, Nat.zero_le _⟩ hl.1 rfl rfl (Nat.le_of_ble_eq_true rfl) dX7_quality_15 (fun v_15 H locs hv_15 hp => ?_)
  rw [hv_15] at hp
  refine lv_aload_n hx hb dX7_quality_18 rfl (lv_at hl 0 rfl) ?_
  refine hh_get C0 hp (C := RX7) (T := TX7) (N := 4) (ci := 7) (by decide) hh_E_0 rfl hh_uX7 1 (by decide) hm_313 rfl rfl dX7_quality_19 ?_
  refine lv_iload_n hx hb dX7_quality_22 rfl (lv_at hl 1 rfl) ?_
  refine lv_iload_n hx hb dX7_quality_23 rfl (lv_at hl 2 rfl) ?_
  refine hh_cVi C0 hp (As := [.int ma, .int pl]) (rest := []) (C := RX5) (T := TX5) (N := 10) (ci := 5) (n := 2) (hk_X5_qualityAt l D K ad hT 0 ma pl (by decide : 0 < 2) (hh_inZ hma0 hma1 (by omega) (by decide)) (hh_in99 ⟨hpl0, hpl1⟩)) rfl (hh_b_r (by decide : 0 < 2)) (hh_E_r 0) (hh_gV hm_398 hm_126 hm_127 hm_128 hm_122) ⟨rfl, rfl⟩ (by decide +kernel) ⟨Nat.le_of_ble_eq_true rfl, Nat.le_of_ble_eq_true rfl⟩ ⟨Nat.zero_le _, Nat.zero_le _⟩ hl.1 rfl rfl (Nat.le_of_ble_eq_true rfl) dX7_quality_24 (fun q_24 v_24 H locs hv_24 hp => ?_)
  obtain ⟨eq_24, hv9⟩ := hv_24
  rw [hv9] at hp; clear hv9
  exact hh_iret C0 hp dX7_quality_27 ⟨(by unfold hf_X7_quality; rw [hh_let_eq eq_24]), rfl⟩
def hf_X7_best (v : hh_M) (pl : Int32) : Int32 := (hh_let (hf_X5_bestHeardAt v 0 pl : Int32) (fun (q_12 : Int32) => q_12))
set_option maxHeartbeats 4000000 in
set_option maxRecDepth 100000 in
theorem hk_X7_best (l : Launch) (D : va_G) (K : Nat → ClassId) (ad : Nat → Nat) {nm : Nat} {nh nc : Nat → Nat} {v : hh_M} (hT : hh_T nm nh nc v) (pl : Int32) (hpl0 : 0 ≤ pl) (hpl1 : pl ≤ 99) : hh_Ki l D K ad yX7_best (hh_wm yX7_best cX7_best 2 (some .int)) { frames := 2, cells := 0, slots := 0, locals := 47 } [.ref (ad 0), .int pl] v (fun (q : Int32) (v1 : hh_M) => q = hf_X7_best v pl ∧ v1 = v ∧ (-1 ≤ q ∧ q < nI nm)) := by
  refine hh_Ki_of (by decide) (Nat.le_of_ble_eq_true rfl) ?_
  intro p e s m args below meth c ls A C0 hp hl
  obtain ⟨hx, hb, hr9, hml, hown, hts, hK, hlk, hA⟩ := id C0
  have hnm := hT.1
  have hnh := hT.2.1
  have hnc := hT.2.2.1
  have hbH0 := hnh 0
  have hbC0 := hnc 0
  have hbH1 := hnh 1
  have hbC1 := hnc 1
  have hl : lv_has ls 2 [(0, .ref (ad 0)), (1, .int pl)] := hl
  refine lv_iload_n hx hb dX7_best_0 rfl (lv_at hl 1 rfl) ?_
  refine lv_iconst (v := 0) hx hb dX7_best_1 (by decide) ?_
  refine lv_bipush (v := 99) hx hb dX7_best_2 (by decide) ?_
  refine hh_cSv C0 hp (As := [.int pl, .int 0, .int 99]) (rest := []) (n := 3) (hk_X7_demandWithin l D K ad hT pl 0 99 hpl0 hpl1) (hh_gS hm_333 hm_334 hm_335 hm_336) ⟨rfl, rfl⟩ (by decide +kernel) ⟨Nat.le_of_ble_eq_true rfl, Nat.le_of_ble_eq_true rfl⟩ ⟨Nat.zero_le _, Nat.zero_le _⟩ hl.1 rfl rfl (Nat.le_of_ble_eq_true rfl) dX7_best_4 (fun v_4 H locs hv_4 hp => ?_)
  rw [hv_4] at hp
  refine lv_aload_n hx hb dX7_best_7 rfl (lv_at hl 0 rfl) ?_
  refine hh_get C0 hp (C := RX7) (T := TX7) (N := 4) (ci := 7) (by decide) hh_E_0 rfl hh_uX7 1 (by decide) hm_313 rfl rfl dX7_best_8 ?_
  refine lv_iload_n hx hb dX7_best_11 rfl (lv_at hl 1 rfl) ?_
  refine hh_cVi C0 hp (As := [.int pl]) (rest := []) (C := RX5) (T := TX5) (N := 10) (ci := 5) (n := 1) (hk_X5_bestHeardAt l D K ad hT 0 pl (by decide : 0 < 2) (hh_in99 ⟨hpl0, hpl1⟩)) rfl (hh_b_r (by decide : 0 < 2)) (hh_E_r 0) (hh_gV hm_400 hm_133 hm_134 hm_128 hm_129) ⟨rfl, rfl⟩ (by decide +kernel) ⟨Nat.le_of_ble_eq_true rfl, Nat.le_of_ble_eq_true rfl⟩ ⟨Nat.zero_le _, Nat.zero_le _⟩ hl.1 rfl rfl (Nat.le_of_ble_eq_true rfl) dX7_best_12 (fun q_12 v_12 H locs hv_12 hp => ?_)
  obtain ⟨eq_12, hv9, hpq_12a⟩ := hv_12
  rw [hv9] at hp; clear hv9
  exact hh_iret C0 hp dX7_best_15 ⟨(by unfold hf_X7_best; rw [hh_let_eq eq_12]), rfl, (by assumption)⟩
def hf_X7_ofMast (v : hh_M) (ma : Int32) (wh : Int32) : Int32 := (if wh = 7 then (v (hh_lI 0) ma.toNatClampNeg) else (if wh = 8 then (hh_let (hf_X5_campersOn v 0 ma : Int32) (fun (q_59 : Int32) => q_59)) else (if wh = 9 then (v (hh_kI 0) ma.toNatClampNeg) else (hh_let (hf_X3_fact v ma.toNatClampNeg wh : Int32) (fun (q_83 : Int32) => q_83)))))
set_option maxHeartbeats 4000000 in
set_option maxRecDepth 100000 in
theorem hk_X7_ofMast (l : Launch) (D : va_G) (K : Nat → ClassId) (ad : Nat → Nat) {nm : Nat} {nh nc : Nat → Nat} {v : hh_M} (hT : hh_T nm nh nc v) (ma : Int32) (wh : Int32) (hma0 : 0 ≤ ma) (hma1 : ma < nI nm) (hwh0 : 0 ≤ wh) (hwh1 : wh ≤ 9) : hh_Ki l D K ad yX7_ofMast (hh_wm yX7_ofMast cX7_ofMast 3 (some .int)) { frames := 2, cells := 0, slots := 0, locals := 43 } [.ref (ad 0), .int ma, .int wh] v (fun (q : Int32) (v1 : hh_M) => q = hf_X7_ofMast v ma wh ∧ v1 = v) := by
  refine hh_Ki_of (by decide) (Nat.le_of_ble_eq_true rfl) ?_
  intro p e s m args below meth c ls A C0 hp hl
  obtain ⟨hx, hb, hr9, hml, hown, hts, hK, hlk, hA⟩ := id C0
  have hnm := hT.1
  have hnh := hT.2.1
  have hnc := hT.2.2.1
  have hbH0 := hnh 0
  have hbC0 := hnc 0
  have hbH1 := hnh 1
  have hbC1 := hnc 1
  have hl : lv_has ls 3 [(0, .ref (ad 0)), (1, .int ma), (2, .int wh)] := hl
  refine lv_iload_n hx hb dX7_ofMast_0 rfl (lv_at hl 1 rfl) ?_
  refine lv_aload_n hx hb dX7_ofMast_1 rfl (lv_at hl 0 rfl) ?_
  refine hh_get C0 hp (C := RX7) (T := TX7) (N := 4) (ci := 7) (by decide) hh_E_0 rfl hh_uX7 0 (by decide) hm_310 rfl rfl dX7_ofMast_2 ?_
  refine hh_get C0 hp (C := RX4) (T := TX4) (N := 3) (ci := 4) (by decide) hh_E_1 rfl hh_uX4 2 (by decide) hm_324 rfl rfl dX7_ofMast_5 ?_
  refine hh_cSv C0 hp (As := [.int ma, .int (v 1 2)]) (rest := []) (n := 2) (hk_X7_demandNumber l D K ad hT ma (v 1 2) hma0 (by rw [hh_T_M hT]; exact hma1)) (hh_gS hm_349 hm_350 hm_335 hm_351) ⟨rfl, rfl⟩ (by decide +kernel) ⟨Nat.le_of_ble_eq_true rfl, Nat.le_of_ble_eq_true rfl⟩ ⟨Nat.zero_le _, Nat.zero_le _⟩ hl.1 rfl rfl (Nat.le_of_ble_eq_true rfl) dX7_ofMast_8 (fun v_8 H locs hv_8 hp => ?_)
  rw [hv_8] at hp
  refine lv_iload_n hx hb dX7_ofMast_11 rfl (lv_at hl 2 rfl) ?_
  refine lv_iconst (v := 0) hx hb dX7_ofMast_12 (by decide) ?_
  refine lv_bipush (v := 9) hx hb dX7_ofMast_13 (by decide) ?_
  refine hh_cSv C0 hp (As := [.int wh, .int 0, .int 9]) (rest := []) (n := 3) (hk_X7_demandWithin l D K ad hT wh 0 9 hwh0 hwh1) (hh_gS hm_333 hm_334 hm_335 hm_336) ⟨rfl, rfl⟩ (by decide +kernel) ⟨Nat.le_of_ble_eq_true rfl, Nat.le_of_ble_eq_true rfl⟩ ⟨Nat.zero_le _, Nat.zero_le _⟩ hl.1 rfl rfl (Nat.le_of_ble_eq_true rfl) dX7_ofMast_15 (fun v_15 H locs hv_15 hp => ?_)
  rw [hv_15] at hp
  refine lv_iload_n hx hb dX7_ofMast_18 rfl (lv_at hl 2 rfl) ?_
  by_cases c_19_7 : wh = 7
  · refine lv_tableIn (off := 25) (tgt := 44) hx hb dX7_ofMast_19 (by rw [c_19_7]; decide) (by rw [c_19_7]; decide) (by rw [c_19_7]; rfl) (by decide) ?_
    refine lv_aload_n hx hb dX7_ofMast_44 rfl (lv_at hl 0 rfl) ?_
    refine hh_get C0 hp (C := RX7) (T := TX7) (N := 4) (ci := 7) (by decide) hh_E_0 rfl hh_uX7 1 (by decide) hm_313 rfl rfl dX7_ofMast_45 ?_
    refine hh_get C0 hp (C := RX5) (T := TX5) (N := 10) (ci := 5) (hh_b_r (by decide : 0 < 2)) (hh_E_r 0) rfl hh_uX5 1 (by decide) hm_358 rfl rfl dX7_ofMast_48 ?_
    refine lv_iload_n hx hb dX7_ofMast_51 rfl (lv_at hl 1 rfl) ?_
    have hin_52 : vp_in ma 6 := hh_inZ hma0 hma1 (by omega) (by decide)
    refine hh_ial C0 hp (hh_b_l (by decide : 0 < 2)) (hh_E_l 0) hin_52 rfl dX7_ofMast_52 ?_
    exact hh_iret C0 hp dX7_ofMast_53 ⟨(by unfold hf_X7_ofMast; rw [if_pos c_19_7]), rfl⟩
  by_cases c_19_8 : wh = 8
  · refine lv_tableIn (off := 35) (tgt := 54) hx hb dX7_ofMast_19 (by rw [c_19_8]; decide) (by rw [c_19_8]; decide) (by rw [c_19_8]; rfl) (by decide) ?_
    refine lv_aload_n hx hb dX7_ofMast_54 rfl (lv_at hl 0 rfl) ?_
    refine hh_get C0 hp (C := RX7) (T := TX7) (N := 4) (ci := 7) (by decide) hh_E_0 rfl hh_uX7 1 (by decide) hm_313 rfl rfl dX7_ofMast_55 ?_
    refine lv_iload_n hx hb dX7_ofMast_58 rfl (lv_at hl 1 rfl) ?_
    refine hh_cVi C0 hp (As := [.int ma]) (rest := []) (C := RX5) (T := TX5) (N := 10) (ci := 5) (n := 1) (hk_X5_campersOn l D K ad hT 0 ma (by decide : 0 < 2)) rfl (hh_b_r (by decide : 0 < 2)) (hh_E_r 0) (hh_gV hm_403 hm_404 hm_405 hm_128 hm_266) ⟨rfl, rfl⟩ (by decide +kernel) ⟨Nat.le_of_ble_eq_true rfl, Nat.le_of_ble_eq_true rfl⟩ ⟨Nat.zero_le _, Nat.zero_le _⟩ hl.1 rfl rfl (Nat.le_of_ble_eq_true rfl) dX7_ofMast_59 (fun q_59 v_59 H locs hv_59 hp => ?_)
    obtain ⟨eq_59, hv9⟩ := hv_59
    rw [hv9] at hp; clear hv9
    exact hh_iret C0 hp dX7_ofMast_62 ⟨(by unfold hf_X7_ofMast; rw [if_neg c_19_7, if_pos c_19_8, hh_let_eq eq_59]), rfl⟩
  by_cases c_19_9 : wh = 9
  · refine lv_tableIn (off := 44) (tgt := 63) hx hb dX7_ofMast_19 (by rw [c_19_9]; decide) (by rw [c_19_9]; decide) (by rw [c_19_9]; rfl) (by decide) ?_
    refine lv_aload_n hx hb dX7_ofMast_63 rfl (lv_at hl 0 rfl) ?_
    refine hh_get C0 hp (C := RX7) (T := TX7) (N := 4) (ci := 7) (by decide) hh_E_0 rfl hh_uX7 1 (by decide) hm_313 rfl rfl dX7_ofMast_64 ?_
    refine hh_get C0 hp (C := RX5) (T := TX5) (N := 10) (ci := 5) (hh_b_r (by decide : 0 < 2)) (hh_E_r 0) rfl hh_uX5 2 (by decide) hm_402 rfl rfl dX7_ofMast_67 ?_
    refine lv_iload_n hx hb dX7_ofMast_70 rfl (lv_at hl 1 rfl) ?_
    have hin_71 : vp_in ma 6 := hh_inZ hma0 hma1 (by omega) (by decide)
    refine hh_ial C0 hp (hh_b_k (by decide : 0 < 2)) (hh_E_k 0) hin_71 rfl dX7_ofMast_71 ?_
    exact hh_iret C0 hp dX7_ofMast_72 ⟨(by unfold hf_X7_ofMast; rw [if_neg c_19_7, if_neg c_19_8, if_pos c_19_9]), rfl⟩
  refine lv_tableOut (tgt := 73) hx hb dX7_ofMast_19 (hh_sw2 c_19_7 c_19_8 c_19_9) (by decide) ?_
  refine lv_aload_n hx hb dX7_ofMast_73 rfl (lv_at hl 0 rfl) ?_
  refine hh_get C0 hp (C := RX7) (T := TX7) (N := 4) (ci := 7) (by decide) hh_E_0 rfl hh_uX7 0 (by decide) hm_310 rfl rfl dX7_ofMast_74 ?_
  refine hh_get C0 hp (C := RX4) (T := TX4) (N := 3) (ci := 4) (by decide) hh_E_1 rfl hh_uX4 0 (by decide) hm_325 rfl rfl dX7_ofMast_77 ?_
  refine lv_iload_n hx hb dX7_ofMast_80 rfl (lv_at hl 1 rfl) ?_
  have hin_81 : vp_in ma 6 := hh_inZ hma0 hma1 (by omega) (by decide)
  refine hh_aal C0 hp (t0 := 2) (f := hh_mI) (by decide) hh_E_2 rfl rfl hin_81 rfl dX7_ofMast_81 ?_
  refine lv_iload_n hx hb dX7_ofMast_82 rfl (lv_at hl 2 rfl) ?_
  refine hh_cVi C0 hp (As := [.int wh]) (rest := []) (C := RX3) (T := TX3) (N := 7) (ci := 3) (n := 1) (hk_X3_fact l D K ad hT ma.toNatClampNeg wh (hh_lt hin_81)) rfl (hh_b_m (hh_lt hin_81)) (hh_E_m (hh_lt hin_81)) (hh_gV hm_406 hm_407 hm_408 hm_63 hm_64) ⟨rfl, rfl⟩ (by decide +kernel) ⟨Nat.le_of_ble_eq_true rfl, Nat.le_of_ble_eq_true rfl⟩ ⟨Nat.zero_le _, Nat.zero_le _⟩ hl.1 rfl rfl (Nat.le_of_ble_eq_true rfl) dX7_ofMast_83 (fun q_83 v_83 H locs hv_83 hp => ?_)
  obtain ⟨eq_83, hv9⟩ := hv_83
  rw [hv9] at hp; clear hv9
  exact hh_iret C0 hp dX7_ofMast_86 ⟨(by unfold hf_X7_ofMast; rw [if_neg c_19_7, if_neg c_19_8, if_neg c_19_9, hh_let_eq eq_83]), rfl⟩
def hf_X7_ofHandset (v : hh_M) (ha : Int32) (wh : Int32) : Int32 := (hh_let (hf_X1_fact v 0 ha.toNatClampNeg wh : Int32) (fun (q_28 : Int32) => q_28))
set_option maxHeartbeats 4000000 in
set_option maxRecDepth 100000 in
theorem hk_X7_ofHandset (l : Launch) (D : va_G) (K : Nat → ClassId) (ad : Nat → Nat) {nm : Nat} {nh nc : Nat → Nat} {v : hh_M} (hT : hh_T nm nh nc v) (ha : Int32) (wh : Int32) (hha0 : 0 ≤ ha) (hha1 : ha < nI (nh 0)) (hwh0 : 0 ≤ wh) (hwh1 : wh ≤ 10) : hh_Ki l D K ad yX7_ofHandset (hh_wm yX7_ofHandset cX7_ofHandset 3 (some .int)) { frames := 1, cells := 0, slots := 0, locals := 22 } [.ref (ad 0), .int ha, .int wh] v (fun (q : Int32) (v1 : hh_M) => q = hf_X7_ofHandset v ha wh ∧ v1 = v) := by
  refine hh_Ki_of (by decide) (Nat.le_of_ble_eq_true rfl) ?_
  intro p e s m args below meth c ls A C0 hp hl
  obtain ⟨hx, hb, hr9, hml, hown, hts, hK, hlk, hA⟩ := id C0
  have hnm := hT.1
  have hnh := hT.2.1
  have hnc := hT.2.2.1
  have hbH0 := hnh 0
  have hbC0 := hnc 0
  have hbH1 := hnh 1
  have hbC1 := hnc 1
  have hl : lv_has ls 3 [(0, .ref (ad 0)), (1, .int ha), (2, .int wh)] := hl
  refine lv_iload_n hx hb dX7_ofHandset_0 rfl (lv_at hl 1 rfl) ?_
  refine lv_aload_n hx hb dX7_ofHandset_1 rfl (lv_at hl 0 rfl) ?_
  refine hh_get C0 hp (C := RX7) (T := TX7) (N := 4) (ci := 7) (by decide) hh_E_0 rfl hh_uX7 1 (by decide) hm_313 rfl rfl dX7_ofHandset_2 ?_
  refine hh_get C0 hp (C := RX5) (T := TX5) (N := 10) (ci := 5) (hh_b_r (by decide : 0 < 2)) (hh_E_r 0) rfl hh_uX5 5 (by decide) hm_341 rfl rfl dX7_ofHandset_5 ?_
  refine hh_cSv C0 hp (As := [.int ha, .int (v (hh_rI 0) 5)]) (rest := []) (n := 2) (hk_X7_demandNumber l D K ad hT ha (v (hh_rI 0) 5) hha0 (by rw [hh_T_r5 hT 0]; exact hha1)) (hh_gS hm_349 hm_350 hm_335 hm_351) ⟨rfl, rfl⟩ (by decide +kernel) ⟨Nat.le_of_ble_eq_true rfl, Nat.le_of_ble_eq_true rfl⟩ ⟨Nat.zero_le _, Nat.zero_le _⟩ hl.1 rfl rfl (Nat.le_of_ble_eq_true rfl) dX7_ofHandset_8 (fun v_8 H locs hv_8 hp => ?_)
  rw [hv_8] at hp
  refine lv_iload_n hx hb dX7_ofHandset_11 rfl (lv_at hl 2 rfl) ?_
  refine lv_iconst (v := 0) hx hb dX7_ofHandset_12 (by decide) ?_
  refine lv_bipush (v := 10) hx hb dX7_ofHandset_13 (by decide) ?_
  refine hh_cSv C0 hp (As := [.int wh, .int 0, .int 10]) (rest := []) (n := 3) (hk_X7_demandWithin l D K ad hT wh 0 10 hwh0 hwh1) (hh_gS hm_333 hm_334 hm_335 hm_336) ⟨rfl, rfl⟩ (by decide +kernel) ⟨Nat.le_of_ble_eq_true rfl, Nat.le_of_ble_eq_true rfl⟩ ⟨Nat.zero_le _, Nat.zero_le _⟩ hl.1 rfl rfl (Nat.le_of_ble_eq_true rfl) dX7_ofHandset_15 (fun v_15 H locs hv_15 hp => ?_)
  rw [hv_15] at hp
  refine lv_aload_n hx hb dX7_ofHandset_18 rfl (lv_at hl 0 rfl) ?_
  refine hh_get C0 hp (C := RX7) (T := TX7) (N := 4) (ci := 7) (by decide) hh_E_0 rfl hh_uX7 1 (by decide) hm_313 rfl rfl dX7_ofHandset_19 ?_
  refine hh_get C0 hp (C := RX5) (T := TX5) (N := 10) (ci := 5) (hh_b_r (by decide : 0 < 2)) (hh_E_r 0) rfl hh_uX5 3 (by decide) hm_342 rfl rfl dX7_ofHandset_22 ?_
  refine lv_iload_n hx hb dX7_ofHandset_25 rfl (lv_at hl 1 rfl) ?_
  have hin_26 : vp_in ha 8 := hh_inZ hha0 hha1 hbH0 (by decide)
  refine hh_aal C0 hp (t0 := 3) (f := (hh_hI 0)) (hh_b_H (by decide : 0 < 2)) (hh_E_H 0) rfl rfl hin_26 rfl dX7_ofHandset_26 ?_
  refine lv_iload_n hx hb dX7_ofHandset_27 rfl (lv_at hl 2 rfl) ?_
  refine hh_cVi C0 hp (As := [.int wh]) (rest := []) (C := RX1) (T := TX1) (N := 13) (ci := 1) (n := 1) (hk_X1_fact l D K ad hT 0 ha.toNatClampNeg wh (by decide : 0 < 2) (hh_lt hin_26)) rfl (hh_b_h (by decide : 0 < 2) (hh_lt hin_26)) (hh_E_h 0 (hh_lt hin_26)) (hh_gV hm_410 hm_274 hm_275 hm_103 hm_51) ⟨rfl, rfl⟩ (by decide +kernel) ⟨Nat.le_of_ble_eq_true rfl, Nat.le_of_ble_eq_true rfl⟩ ⟨Nat.zero_le _, Nat.zero_le _⟩ hl.1 rfl rfl (Nat.le_of_ble_eq_true rfl) dX7_ofHandset_28 (fun q_28 v_28 H locs hv_28 hp => ?_)
  obtain ⟨eq_28, hv9⟩ := hv_28
  rw [hv9] at hp; clear hv9
  exact hh_iret C0 hp dX7_ofHandset_31 ⟨(by unfold hf_X7_ofHandset; rw [hh_let_eq eq_28]), rfl⟩
def hf_X7_ofCall (v : hh_M) (ca : Int32) (wh : Int32) : Int32 := (hh_let (hf_X0_fact v 0 ca.toNatClampNeg wh : Int32) (fun (q_28 : Int32) => q_28))
set_option maxHeartbeats 4000000 in
set_option maxRecDepth 100000 in
theorem hk_X7_ofCall (l : Launch) (D : va_G) (K : Nat → ClassId) (ad : Nat → Nat) {nm : Nat} {nh nc : Nat → Nat} {v : hh_M} (hT : hh_T nm nh nc v) (ca : Int32) (wh : Int32) (hca0 : 0 ≤ ca) (hca1 : ca < nI (nc 0)) (hwh0 : 0 ≤ wh) (hwh1 : wh ≤ 8) : hh_Ki l D K ad yX7_ofCall (hh_wm yX7_ofCall cX7_ofCall 3 (some .int)) { frames := 1, cells := 0, slots := 0, locals := 22 } [.ref (ad 0), .int ca, .int wh] v (fun (q : Int32) (v1 : hh_M) => q = hf_X7_ofCall v ca wh ∧ v1 = v) := by
  refine hh_Ki_of (by decide) (Nat.le_of_ble_eq_true rfl) ?_
  intro p e s m args below meth c ls A C0 hp hl
  obtain ⟨hx, hb, hr9, hml, hown, hts, hK, hlk, hA⟩ := id C0
  have hnm := hT.1
  have hnh := hT.2.1
  have hnc := hT.2.2.1
  have hbH0 := hnh 0
  have hbC0 := hnc 0
  have hbH1 := hnh 1
  have hbC1 := hnc 1
  have hl : lv_has ls 3 [(0, .ref (ad 0)), (1, .int ca), (2, .int wh)] := hl
  refine lv_iload_n hx hb dX7_ofCall_0 rfl (lv_at hl 1 rfl) ?_
  refine lv_aload_n hx hb dX7_ofCall_1 rfl (lv_at hl 0 rfl) ?_
  refine hh_get C0 hp (C := RX7) (T := TX7) (N := 4) (ci := 7) (by decide) hh_E_0 rfl hh_uX7 1 (by decide) hm_313 rfl rfl dX7_ofCall_2 ?_
  refine hh_get C0 hp (C := RX5) (T := TX5) (N := 10) (ci := 5) (hh_b_r (by decide : 0 < 2)) (hh_E_r 0) rfl hh_uX5 6 (by decide) hm_370 rfl rfl dX7_ofCall_5 ?_
  refine hh_cSv C0 hp (As := [.int ca, .int (v (hh_rI 0) 6)]) (rest := []) (n := 2) (hk_X7_demandNumber l D K ad hT ca (v (hh_rI 0) 6) hca0 (by rw [hh_T_r6 hT 0]; exact hca1)) (hh_gS hm_349 hm_350 hm_335 hm_351) ⟨rfl, rfl⟩ (by decide +kernel) ⟨Nat.le_of_ble_eq_true rfl, Nat.le_of_ble_eq_true rfl⟩ ⟨Nat.zero_le _, Nat.zero_le _⟩ hl.1 rfl rfl (Nat.le_of_ble_eq_true rfl) dX7_ofCall_8 (fun v_8 H locs hv_8 hp => ?_)
  rw [hv_8] at hp
  refine lv_iload_n hx hb dX7_ofCall_11 rfl (lv_at hl 2 rfl) ?_
  refine lv_iconst (v := 0) hx hb dX7_ofCall_12 (by decide) ?_
  refine lv_bipush (v := 8) hx hb dX7_ofCall_13 (by decide) ?_
  refine hh_cSv C0 hp (As := [.int wh, .int 0, .int 8]) (rest := []) (n := 3) (hk_X7_demandWithin l D K ad hT wh 0 8 hwh0 hwh1) (hh_gS hm_333 hm_334 hm_335 hm_336) ⟨rfl, rfl⟩ (by decide +kernel) ⟨Nat.le_of_ble_eq_true rfl, Nat.le_of_ble_eq_true rfl⟩ ⟨Nat.zero_le _, Nat.zero_le _⟩ hl.1 rfl rfl (Nat.le_of_ble_eq_true rfl) dX7_ofCall_15 (fun v_15 H locs hv_15 hp => ?_)
  rw [hv_15] at hp
  refine lv_aload_n hx hb dX7_ofCall_18 rfl (lv_at hl 0 rfl) ?_
  refine hh_get C0 hp (C := RX7) (T := TX7) (N := 4) (ci := 7) (by decide) hh_E_0 rfl hh_uX7 1 (by decide) hm_313 rfl rfl dX7_ofCall_19 ?_
  refine hh_get C0 hp (C := RX5) (T := TX5) (N := 10) (ci := 5) (hh_b_r (by decide : 0 < 2)) (hh_E_r 0) rfl hh_uX5 4 (by decide) hm_379 rfl rfl dX7_ofCall_22 ?_
  refine lv_iload_n hx hb dX7_ofCall_25 rfl (lv_at hl 1 rfl) ?_
  have hin_26 : vp_in ca 24 := hh_inZ hca0 hca1 hbC0 (by decide)
  refine hh_aal C0 hp (t0 := 4) (f := (hh_cI 0)) (hh_b_C (by decide : 0 < 2)) (hh_E_C 0) rfl rfl hin_26 rfl dX7_ofCall_26 ?_
  refine lv_iload_n hx hb dX7_ofCall_27 rfl (lv_at hl 2 rfl) ?_
  refine hh_cVi C0 hp (As := [.int wh]) (rest := []) (C := RX0) (T := TX0) (N := 7) (ci := 0) (n := 1) (hk_X0_fact l D K ad hT 0 ca.toNatClampNeg wh (by decide : 0 < 2) (hh_lt hin_26)) rfl (hh_b_c (by decide : 0 < 2) (hh_lt hin_26)) (hh_E_c 0 (hh_lt hin_26)) (hh_gV hm_412 hm_270 hm_271 hm_107 hm_30) ⟨rfl, rfl⟩ (by decide +kernel) ⟨Nat.le_of_ble_eq_true rfl, Nat.le_of_ble_eq_true rfl⟩ ⟨Nat.zero_le _, Nat.zero_le _⟩ hl.1 rfl rfl (Nat.le_of_ble_eq_true rfl) dX7_ofCall_28 (fun q_28 v_28 H locs hv_28 hp => ?_)
  obtain ⟨eq_28, hv9⟩ := hv_28
  rw [hv9] at hp; clear hv9
  exact hh_iret C0 hp dX7_ofCall_31 ⟨(by unfold hf_X7_ofCall; rw [hh_let_eq eq_28]), rfl⟩
def hf_X7_many (v : hh_M) (wh : Int32) : Int32 := (if wh = 0 then (v (hh_rI 0) 8) else (if wh = 1 then (v 1 2) else (if wh = 2 then (v (hh_rI 0) 5) else (if wh = 3 then (v (hh_rI 0) 6) else (if wh = 4 then (hh_let (hf_X5_callsThat v 0 0 : Int32) (fun (q_117 : Int32) => q_117)) else (if wh = 5 then (hh_let (hf_X5_callsThat v 0 2 : Int32) (fun (q_126 : Int32) => q_126)) else (if wh = 6 then (hh_let (hf_X5_sumOfCalls v 0 4 : Int32) (fun (q_135 : Int32) => q_135)) else (if wh = 7 then (hh_let (hf_X5_sumOfCalls v 0 5 : Int32) (fun (q_144 : Int32) => q_144)) else (if wh = 8 then (v (hh_rI 0) 9) else (if wh = 9 then (v (hh_rI 0) 7) else (if wh = 10 then (hh_let (hf_X5_sumOfHandsets v 0 10 : Int32) (fun (q_170 : Int32) => q_170)) else (if wh = 11 then (hh_let (hf_X5_sumOfHandsets v 0 8 : Int32) (fun (q_180 : Int32) => q_180)) else (if wh = 12 then (hh_let (hf_X5_sumOfCalls v 0 3 : Int32) (fun (q_189 : Int32) => q_189)) else (if wh = 13 then (hh_let (hf_X5_handsetsToBeFound v 0 : Int32) (fun (q_197 : Int32) => q_197)) else (hh_let (hf_X5_placesHeardWell v 0 : Int32) (fun (q_205 : Int32) => q_205))))))))))))))))
set_option maxHeartbeats 4000000 in
set_option maxRecDepth 100000 in
theorem hk_X7_many (l : Launch) (D : va_G) (K : Nat → ClassId) (ad : Nat → Nat) {nm : Nat} {nh nc : Nat → Nat} {v : hh_M} (hT : hh_T nm nh nc v) (wh : Int32) (hwh0 : 0 ≤ wh) (hwh1 : wh ≤ 14) : hh_Ki l D K ad yX7_many (hh_wm yX7_many cX7_many 2 (some .int)) { frames := 3, cells := 0, slots := 0, locals := 70 } [.ref (ad 0), .int wh] v (fun (q : Int32) (v1 : hh_M) => q = hf_X7_many v wh ∧ v1 = v) := by
  refine hh_Ki_of (by decide) (Nat.le_of_ble_eq_true rfl) ?_
  intro p e s m args below meth c ls A C0 hp hl
  obtain ⟨hx, hb, hr9, hml, hown, hts, hK, hlk, hA⟩ := id C0
  have hnm := hT.1
  have hnh := hT.2.1
  have hnc := hT.2.2.1
  have hbH0 := hnh 0
  have hbC0 := hnc 0
  have hbH1 := hnh 1
  have hbC1 := hnc 1
  have hl : lv_has ls 2 [(0, .ref (ad 0)), (1, .int wh)] := hl
  refine lv_iload_n hx hb dX7_many_0 rfl (lv_at hl 1 rfl) ?_
  refine lv_iconst (v := 0) hx hb dX7_many_1 (by decide) ?_
  refine lv_bipush (v := 14) hx hb dX7_many_2 (by decide) ?_
  refine hh_cSv C0 hp (As := [.int wh, .int 0, .int 14]) (rest := []) (n := 3) (hk_X7_demandWithin l D K ad hT wh 0 14 hwh0 hwh1) (hh_gS hm_333 hm_334 hm_335 hm_336) ⟨rfl, rfl⟩ (by decide +kernel) ⟨Nat.le_of_ble_eq_true rfl, Nat.le_of_ble_eq_true rfl⟩ ⟨Nat.zero_le _, Nat.zero_le _⟩ hl.1 rfl rfl (Nat.le_of_ble_eq_true rfl) dX7_many_4 (fun v_4 H locs hv_4 hp => ?_)
  rw [hv_4] at hp
  refine lv_iload_n hx hb dX7_many_7 rfl (lv_at hl 1 rfl) ?_
  by_cases c_8_0 : wh = 0
  · refine lv_tableIn (off := 72) (tgt := 80) hx hb dX7_many_8 (by rw [c_8_0]; decide) (by rw [c_8_0]; decide) (by rw [c_8_0]; rfl) (by decide) ?_
    refine lv_aload_n hx hb dX7_many_80 rfl (lv_at hl 0 rfl) ?_
    refine hh_get C0 hp (C := RX7) (T := TX7) (N := 4) (ci := 7) (by decide) hh_E_0 rfl hh_uX7 1 (by decide) hm_313 rfl rfl dX7_many_81 ?_
    refine hh_get C0 hp (C := RX5) (T := TX5) (N := 10) (ci := 5) (hh_b_r (by decide : 0 < 2)) (hh_E_r 0) rfl hh_uX5 8 (by decide) hm_414 rfl rfl dX7_many_84 ?_
    exact hh_iret C0 hp dX7_many_87 ⟨(by unfold hf_X7_many; rw [if_pos c_8_0]), rfl⟩
  by_cases c_8_1 : wh = 1
  · refine lv_tableIn (off := 80) (tgt := 88) hx hb dX7_many_8 (by rw [c_8_1]; decide) (by rw [c_8_1]; decide) (by rw [c_8_1]; rfl) (by decide) ?_
    refine lv_aload_n hx hb dX7_many_88 rfl (lv_at hl 0 rfl) ?_
    refine hh_get C0 hp (C := RX7) (T := TX7) (N := 4) (ci := 7) (by decide) hh_E_0 rfl hh_uX7 0 (by decide) hm_310 rfl rfl dX7_many_89 ?_
    refine hh_get C0 hp (C := RX4) (T := TX4) (N := 3) (ci := 4) (by decide) hh_E_1 rfl hh_uX4 2 (by decide) hm_324 rfl rfl dX7_many_92 ?_
    exact hh_iret C0 hp dX7_many_95 ⟨(by unfold hf_X7_many; rw [if_neg c_8_0, if_pos c_8_1]), rfl⟩
  by_cases c_8_2 : wh = 2
  · refine lv_tableIn (off := 88) (tgt := 96) hx hb dX7_many_8 (by rw [c_8_2]; decide) (by rw [c_8_2]; decide) (by rw [c_8_2]; rfl) (by decide) ?_
    refine lv_aload_n hx hb dX7_many_96 rfl (lv_at hl 0 rfl) ?_
    refine hh_get C0 hp (C := RX7) (T := TX7) (N := 4) (ci := 7) (by decide) hh_E_0 rfl hh_uX7 1 (by decide) hm_313 rfl rfl dX7_many_97 ?_
    refine hh_get C0 hp (C := RX5) (T := TX5) (N := 10) (ci := 5) (hh_b_r (by decide : 0 < 2)) (hh_E_r 0) rfl hh_uX5 5 (by decide) hm_341 rfl rfl dX7_many_100 ?_
    exact hh_iret C0 hp dX7_many_103 ⟨(by unfold hf_X7_many; rw [if_neg c_8_0, if_neg c_8_1, if_pos c_8_2]), rfl⟩
  by_cases c_8_3 : wh = 3
  · refine lv_tableIn (off := 96) (tgt := 104) hx hb dX7_many_8 (by rw [c_8_3]; decide) (by rw [c_8_3]; decide) (by rw [c_8_3]; rfl) (by decide) ?_
    refine lv_aload_n hx hb dX7_many_104 rfl (lv_at hl 0 rfl) ?_
    refine hh_get C0 hp (C := RX7) (T := TX7) (N := 4) (ci := 7) (by decide) hh_E_0 rfl hh_uX7 1 (by decide) hm_313 rfl rfl dX7_many_105 ?_
    refine hh_get C0 hp (C := RX5) (T := TX5) (N := 10) (ci := 5) (hh_b_r (by decide : 0 < 2)) (hh_E_r 0) rfl hh_uX5 6 (by decide) hm_370 rfl rfl dX7_many_108 ?_
    exact hh_iret C0 hp dX7_many_111 ⟨(by unfold hf_X7_many; rw [if_neg c_8_0, if_neg c_8_1, if_neg c_8_2, if_pos c_8_3]), rfl⟩
  by_cases c_8_4 : wh = 4
  · refine lv_tableIn (off := 104) (tgt := 112) hx hb dX7_many_8 (by rw [c_8_4]; decide) (by rw [c_8_4]; decide) (by rw [c_8_4]; rfl) (by decide) ?_
    refine lv_aload_n hx hb dX7_many_112 rfl (lv_at hl 0 rfl) ?_
    refine hh_get C0 hp (C := RX7) (T := TX7) (N := 4) (ci := 7) (by decide) hh_E_0 rfl hh_uX7 1 (by decide) hm_313 rfl rfl dX7_many_113 ?_
    refine lv_iconst (v := 0) hx hb dX7_many_116 (by decide) ?_
    refine hh_cVi C0 hp (As := [.int 0]) (rest := []) (C := RX5) (T := TX5) (N := 10) (ci := 5) (n := 1) (hk_X5_callsThat l D K ad hT 0 0 (by decide : 0 < 2)) rfl (hh_b_r (by decide : 0 < 2)) (hh_E_r 0) (hh_gV hm_391 hm_392 hm_393 hm_128 hm_267) ⟨rfl, rfl⟩ (by decide +kernel) ⟨Nat.le_of_ble_eq_true rfl, Nat.le_of_ble_eq_true rfl⟩ ⟨Nat.zero_le _, Nat.zero_le _⟩ hl.1 rfl rfl (Nat.le_of_ble_eq_true rfl) dX7_many_117 (fun q_117 v_117 H locs hv_117 hp => ?_)
    obtain ⟨eq_117, hv9⟩ := hv_117
    rw [hv9] at hp; clear hv9
    exact hh_iret C0 hp dX7_many_120 ⟨(by unfold hf_X7_many; rw [if_neg c_8_0, if_neg c_8_1, if_neg c_8_2, if_neg c_8_3, if_pos c_8_4, hh_let_eq eq_117]), rfl⟩
  by_cases c_8_5 : wh = 5
  · refine lv_tableIn (off := 113) (tgt := 121) hx hb dX7_many_8 (by rw [c_8_5]; decide) (by rw [c_8_5]; decide) (by rw [c_8_5]; rfl) (by decide) ?_
    refine lv_aload_n hx hb dX7_many_121 rfl (lv_at hl 0 rfl) ?_
    refine hh_get C0 hp (C := RX7) (T := TX7) (N := 4) (ci := 7) (by decide) hh_E_0 rfl hh_uX7 1 (by decide) hm_313 rfl rfl dX7_many_122 ?_
    refine lv_iconst (v := 2) hx hb dX7_many_125 (by decide) ?_
    refine hh_cVi C0 hp (As := [.int 2]) (rest := []) (C := RX5) (T := TX5) (N := 10) (ci := 5) (n := 1) (hk_X5_callsThat l D K ad hT 0 2 (by decide : 0 < 2)) rfl (hh_b_r (by decide : 0 < 2)) (hh_E_r 0) (hh_gV hm_391 hm_392 hm_393 hm_128 hm_267) ⟨rfl, rfl⟩ (by decide +kernel) ⟨Nat.le_of_ble_eq_true rfl, Nat.le_of_ble_eq_true rfl⟩ ⟨Nat.zero_le _, Nat.zero_le _⟩ hl.1 rfl rfl (Nat.le_of_ble_eq_true rfl) dX7_many_126 (fun q_126 v_126 H locs hv_126 hp => ?_)
    obtain ⟨eq_126, hv9⟩ := hv_126
    rw [hv9] at hp; clear hv9
    exact hh_iret C0 hp dX7_many_129 ⟨(by unfold hf_X7_many; rw [if_neg c_8_0, if_neg c_8_1, if_neg c_8_2, if_neg c_8_3, if_neg c_8_4, if_pos c_8_5, hh_let_eq eq_126]), rfl⟩
  by_cases c_8_6 : wh = 6
  · refine lv_tableIn (off := 122) (tgt := 130) hx hb dX7_many_8 (by rw [c_8_6]; decide) (by rw [c_8_6]; decide) (by rw [c_8_6]; rfl) (by decide) ?_
    refine lv_aload_n hx hb dX7_many_130 rfl (lv_at hl 0 rfl) ?_
    refine hh_get C0 hp (C := RX7) (T := TX7) (N := 4) (ci := 7) (by decide) hh_E_0 rfl hh_uX7 1 (by decide) hm_313 rfl rfl dX7_many_131 ?_
    refine lv_iconst (v := 4) hx hb dX7_many_134 (by decide) ?_
    refine hh_cVi C0 hp (As := [.int 4]) (rest := []) (C := RX5) (T := TX5) (N := 10) (ci := 5) (n := 1) (hk_X5_sumOfCalls l D K ad hT 0 4 (by decide : 0 < 2)) rfl (hh_b_r (by decide : 0 < 2)) (hh_E_r 0) (hh_gV hm_416 hm_417 hm_418 hm_128 hm_268) ⟨rfl, rfl⟩ (by decide +kernel) ⟨Nat.le_of_ble_eq_true rfl, Nat.le_of_ble_eq_true rfl⟩ ⟨Nat.zero_le _, Nat.zero_le _⟩ hl.1 rfl rfl (Nat.le_of_ble_eq_true rfl) dX7_many_135 (fun q_135 v_135 H locs hv_135 hp => ?_)
    obtain ⟨eq_135, hv9⟩ := hv_135
    rw [hv9] at hp; clear hv9
    exact hh_iret C0 hp dX7_many_138 ⟨(by unfold hf_X7_many; rw [if_neg c_8_0, if_neg c_8_1, if_neg c_8_2, if_neg c_8_3, if_neg c_8_4, if_neg c_8_5, if_pos c_8_6, hh_let_eq eq_135]), rfl⟩
  by_cases c_8_7 : wh = 7
  · refine lv_tableIn (off := 131) (tgt := 139) hx hb dX7_many_8 (by rw [c_8_7]; decide) (by rw [c_8_7]; decide) (by rw [c_8_7]; rfl) (by decide) ?_
    refine lv_aload_n hx hb dX7_many_139 rfl (lv_at hl 0 rfl) ?_
    refine hh_get C0 hp (C := RX7) (T := TX7) (N := 4) (ci := 7) (by decide) hh_E_0 rfl hh_uX7 1 (by decide) hm_313 rfl rfl dX7_many_140 ?_
    refine lv_iconst (v := 5) hx hb dX7_many_143 (by decide) ?_
    refine hh_cVi C0 hp (As := [.int 5]) (rest := []) (C := RX5) (T := TX5) (N := 10) (ci := 5) (n := 1) (hk_X5_sumOfCalls l D K ad hT 0 5 (by decide : 0 < 2)) rfl (hh_b_r (by decide : 0 < 2)) (hh_E_r 0) (hh_gV hm_416 hm_417 hm_418 hm_128 hm_268) ⟨rfl, rfl⟩ (by decide +kernel) ⟨Nat.le_of_ble_eq_true rfl, Nat.le_of_ble_eq_true rfl⟩ ⟨Nat.zero_le _, Nat.zero_le _⟩ hl.1 rfl rfl (Nat.le_of_ble_eq_true rfl) dX7_many_144 (fun q_144 v_144 H locs hv_144 hp => ?_)
    obtain ⟨eq_144, hv9⟩ := hv_144
    rw [hv9] at hp; clear hv9
    exact hh_iret C0 hp dX7_many_147 ⟨(by unfold hf_X7_many; rw [if_neg c_8_0, if_neg c_8_1, if_neg c_8_2, if_neg c_8_3, if_neg c_8_4, if_neg c_8_5, if_neg c_8_6, if_pos c_8_7, hh_let_eq eq_144]), rfl⟩
  by_cases c_8_8 : wh = 8
  · refine lv_tableIn (off := 140) (tgt := 148) hx hb dX7_many_8 (by rw [c_8_8]; decide) (by rw [c_8_8]; decide) (by rw [c_8_8]; rfl) (by decide) ?_
    refine lv_aload_n hx hb dX7_many_148 rfl (lv_at hl 0 rfl) ?_
    refine hh_get C0 hp (C := RX7) (T := TX7) (N := 4) (ci := 7) (by decide) hh_E_0 rfl hh_uX7 1 (by decide) hm_313 rfl rfl dX7_many_149 ?_
    refine hh_get C0 hp (C := RX5) (T := TX5) (N := 10) (ci := 5) (hh_b_r (by decide : 0 < 2)) (hh_E_r 0) rfl hh_uX5 9 (by decide) hm_415 rfl rfl dX7_many_152 ?_
    exact hh_iret C0 hp dX7_many_155 ⟨(by unfold hf_X7_many; rw [if_neg c_8_0, if_neg c_8_1, if_neg c_8_2, if_neg c_8_3, if_neg c_8_4, if_neg c_8_5, if_neg c_8_6, if_neg c_8_7, if_pos c_8_8]), rfl⟩
  by_cases c_8_9 : wh = 9
  · refine lv_tableIn (off := 148) (tgt := 156) hx hb dX7_many_8 (by rw [c_8_9]; decide) (by rw [c_8_9]; decide) (by rw [c_8_9]; rfl) (by decide) ?_
    refine lv_aload_n hx hb dX7_many_156 rfl (lv_at hl 0 rfl) ?_
    refine hh_get C0 hp (C := RX7) (T := TX7) (N := 4) (ci := 7) (by decide) hh_E_0 rfl hh_uX7 1 (by decide) hm_313 rfl rfl dX7_many_157 ?_
    refine hh_get C0 hp (C := RX5) (T := TX5) (N := 10) (ci := 5) (hh_b_r (by decide : 0 < 2)) (hh_E_r 0) rfl hh_uX5 7 (by decide) hm_384 rfl rfl dX7_many_160 ?_
    exact hh_iret C0 hp dX7_many_163 ⟨(by unfold hf_X7_many; rw [if_neg c_8_0, if_neg c_8_1, if_neg c_8_2, if_neg c_8_3, if_neg c_8_4, if_neg c_8_5, if_neg c_8_6, if_neg c_8_7, if_neg c_8_8, if_pos c_8_9]), rfl⟩
  by_cases c_8_10 : wh = 10
  · refine lv_tableIn (off := 156) (tgt := 164) hx hb dX7_many_8 (by rw [c_8_10]; decide) (by rw [c_8_10]; decide) (by rw [c_8_10]; rfl) (by decide) ?_
    refine lv_aload_n hx hb dX7_many_164 rfl (lv_at hl 0 rfl) ?_
    refine hh_get C0 hp (C := RX7) (T := TX7) (N := 4) (ci := 7) (by decide) hh_E_0 rfl hh_uX7 1 (by decide) hm_313 rfl rfl dX7_many_165 ?_
    refine lv_bipush (v := 10) hx hb dX7_many_168 (by decide) ?_
    refine hh_cVi C0 hp (As := [.int 10]) (rest := []) (C := RX5) (T := TX5) (N := 10) (ci := 5) (n := 1) (hk_X5_sumOfHandsets l D K ad hT 0 10 (by decide : 0 < 2)) rfl (hh_b_r (by decide : 0 < 2)) (hh_E_r 0) (hh_gV hm_419 hm_420 hm_421 hm_128 hm_272) ⟨rfl, rfl⟩ (by decide +kernel) ⟨Nat.le_of_ble_eq_true rfl, Nat.le_of_ble_eq_true rfl⟩ ⟨Nat.zero_le _, Nat.zero_le _⟩ hl.1 rfl rfl (Nat.le_of_ble_eq_true rfl) dX7_many_170 (fun q_170 v_170 H locs hv_170 hp => ?_)
    obtain ⟨eq_170, hv9⟩ := hv_170
    rw [hv9] at hp; clear hv9
    exact hh_iret C0 hp dX7_many_173 ⟨(by unfold hf_X7_many; rw [if_neg c_8_0, if_neg c_8_1, if_neg c_8_2, if_neg c_8_3, if_neg c_8_4, if_neg c_8_5, if_neg c_8_6, if_neg c_8_7, if_neg c_8_8, if_neg c_8_9, if_pos c_8_10, hh_let_eq eq_170]), rfl⟩
  by_cases c_8_11 : wh = 11
  · refine lv_tableIn (off := 166) (tgt := 174) hx hb dX7_many_8 (by rw [c_8_11]; decide) (by rw [c_8_11]; decide) (by rw [c_8_11]; rfl) (by decide) ?_
    refine lv_aload_n hx hb dX7_many_174 rfl (lv_at hl 0 rfl) ?_
    refine hh_get C0 hp (C := RX7) (T := TX7) (N := 4) (ci := 7) (by decide) hh_E_0 rfl hh_uX7 1 (by decide) hm_313 rfl rfl dX7_many_175 ?_
    refine lv_bipush (v := 8) hx hb dX7_many_178 (by decide) ?_
    refine hh_cVi C0 hp (As := [.int 8]) (rest := []) (C := RX5) (T := TX5) (N := 10) (ci := 5) (n := 1) (hk_X5_sumOfHandsets l D K ad hT 0 8 (by decide : 0 < 2)) rfl (hh_b_r (by decide : 0 < 2)) (hh_E_r 0) (hh_gV hm_419 hm_420 hm_421 hm_128 hm_272) ⟨rfl, rfl⟩ (by decide +kernel) ⟨Nat.le_of_ble_eq_true rfl, Nat.le_of_ble_eq_true rfl⟩ ⟨Nat.zero_le _, Nat.zero_le _⟩ hl.1 rfl rfl (Nat.le_of_ble_eq_true rfl) dX7_many_180 (fun q_180 v_180 H locs hv_180 hp => ?_)
    obtain ⟨eq_180, hv9⟩ := hv_180
    rw [hv9] at hp; clear hv9
    exact hh_iret C0 hp dX7_many_183 ⟨(by unfold hf_X7_many; rw [if_neg c_8_0, if_neg c_8_1, if_neg c_8_2, if_neg c_8_3, if_neg c_8_4, if_neg c_8_5, if_neg c_8_6, if_neg c_8_7, if_neg c_8_8, if_neg c_8_9, if_neg c_8_10, if_pos c_8_11, hh_let_eq eq_180]), rfl⟩
  by_cases c_8_12 : wh = 12
  · refine lv_tableIn (off := 176) (tgt := 184) hx hb dX7_many_8 (by rw [c_8_12]; decide) (by rw [c_8_12]; decide) (by rw [c_8_12]; rfl) (by decide) ?_
    refine lv_aload_n hx hb dX7_many_184 rfl (lv_at hl 0 rfl) ?_
    refine hh_get C0 hp (C := RX7) (T := TX7) (N := 4) (ci := 7) (by decide) hh_E_0 rfl hh_uX7 1 (by decide) hm_313 rfl rfl dX7_many_185 ?_
    refine lv_iconst (v := 3) hx hb dX7_many_188 (by decide) ?_
    refine hh_cVi C0 hp (As := [.int 3]) (rest := []) (C := RX5) (T := TX5) (N := 10) (ci := 5) (n := 1) (hk_X5_sumOfCalls l D K ad hT 0 3 (by decide : 0 < 2)) rfl (hh_b_r (by decide : 0 < 2)) (hh_E_r 0) (hh_gV hm_416 hm_417 hm_418 hm_128 hm_268) ⟨rfl, rfl⟩ (by decide +kernel) ⟨Nat.le_of_ble_eq_true rfl, Nat.le_of_ble_eq_true rfl⟩ ⟨Nat.zero_le _, Nat.zero_le _⟩ hl.1 rfl rfl (Nat.le_of_ble_eq_true rfl) dX7_many_189 (fun q_189 v_189 H locs hv_189 hp => ?_)
    obtain ⟨eq_189, hv9⟩ := hv_189
    rw [hv9] at hp; clear hv9
    exact hh_iret C0 hp dX7_many_192 ⟨(by unfold hf_X7_many; rw [if_neg c_8_0, if_neg c_8_1, if_neg c_8_2, if_neg c_8_3, if_neg c_8_4, if_neg c_8_5, if_neg c_8_6, if_neg c_8_7, if_neg c_8_8, if_neg c_8_9, if_neg c_8_10, if_neg c_8_11, if_pos c_8_12, hh_let_eq eq_189]), rfl⟩
  by_cases c_8_13 : wh = 13
  · refine lv_tableIn (off := 185) (tgt := 193) hx hb dX7_many_8 (by rw [c_8_13]; decide) (by rw [c_8_13]; decide) (by rw [c_8_13]; rfl) (by decide) ?_
    refine lv_aload_n hx hb dX7_many_193 rfl (lv_at hl 0 rfl) ?_
    refine hh_get C0 hp (C := RX7) (T := TX7) (N := 4) (ci := 7) (by decide) hh_E_0 rfl hh_uX7 1 (by decide) hm_313 rfl rfl dX7_many_194 ?_
    refine hh_cVi C0 hp (As := []) (rest := []) (C := RX5) (T := TX5) (N := 10) (ci := 5) (n := 0) (hk_X5_handsetsToBeFound l D K ad hT 0 (by decide : 0 < 2)) rfl (hh_b_r (by decide : 0 < 2)) (hh_E_r 0) (hh_gV hm_422 hm_423 hm_424 hm_128 hm_153) ⟨rfl, rfl⟩ (by decide +kernel) ⟨Nat.le_of_ble_eq_true rfl, Nat.le_of_ble_eq_true rfl⟩ ⟨Nat.zero_le _, Nat.zero_le _⟩ hl.1 rfl rfl (Nat.le_of_ble_eq_true rfl) dX7_many_197 (fun q_197 v_197 H locs hv_197 hp => ?_)
    obtain ⟨eq_197, hv9⟩ := hv_197
    rw [hv9] at hp; clear hv9
    exact hh_iret C0 hp dX7_many_200 ⟨(by unfold hf_X7_many; rw [if_neg c_8_0, if_neg c_8_1, if_neg c_8_2, if_neg c_8_3, if_neg c_8_4, if_neg c_8_5, if_neg c_8_6, if_neg c_8_7, if_neg c_8_8, if_neg c_8_9, if_neg c_8_10, if_neg c_8_11, if_neg c_8_12, if_pos c_8_13, hh_let_eq eq_197]), rfl⟩
  refine lv_tableOut (tgt := 201) hx hb dX7_many_8 (hh_sw (n := 14) (fun k hk => (match k, hk with | 0, _ => c_8_0 | 1, _ => c_8_1 | 2, _ => c_8_2 | 3, _ => c_8_3 | 4, _ => c_8_4 | 5, _ => c_8_5 | 6, _ => c_8_6 | 7, _ => c_8_7 | 8, _ => c_8_8 | 9, _ => c_8_9 | 10, _ => c_8_10 | 11, _ => c_8_11 | 12, _ => c_8_12 | 13, _ => c_8_13 | k + 14, hk => absurd hk (by omega))) (by decide)) (by decide) ?_
  refine lv_aload_n hx hb dX7_many_201 rfl (lv_at hl 0 rfl) ?_
  refine hh_get C0 hp (C := RX7) (T := TX7) (N := 4) (ci := 7) (by decide) hh_E_0 rfl hh_uX7 1 (by decide) hm_313 rfl rfl dX7_many_202 ?_
  refine hh_cVi C0 hp (As := []) (rest := []) (C := RX5) (T := TX5) (N := 10) (ci := 5) (n := 0) (hk_X5_placesHeardWell l D K ad hT 0 (by decide : 0 < 2)) rfl (hh_b_r (by decide : 0 < 2)) (hh_E_r 0) (hh_gV hm_425 hm_426 hm_427 hm_128 hm_131) ⟨rfl, rfl⟩ (by decide +kernel) ⟨Nat.le_of_ble_eq_true rfl, Nat.le_of_ble_eq_true rfl⟩ ⟨Nat.zero_le _, Nat.zero_le _⟩ hl.1 rfl rfl (Nat.le_of_ble_eq_true rfl) dX7_many_205 (fun q_205 v_205 H locs hv_205 hp => ?_)
  obtain ⟨eq_205, hv9⟩ := hv_205
  rw [hv9] at hp; clear hv9
  exact hh_iret C0 hp dX7_many_208 ⟨(by unfold hf_X7_many; rw [if_neg c_8_0, if_neg c_8_1, if_neg c_8_2, if_neg c_8_3, if_neg c_8_4, if_neg c_8_5, if_neg c_8_6, if_neg c_8_7, if_neg c_8_8, if_neg c_8_9, if_neg c_8_10, if_neg c_8_11, if_neg c_8_12, if_neg c_8_13, hh_let_eq eq_205]), rfl⟩
def hl_X7_wouldBeOn_31 (i : Nat) (w_31 : hh_M) : hh_M := (hh_let (hf_X5_second w_31 1 : hh_M) (fun (v_40 : hh_M) => v_40))
def hf_X7_wouldBeOn (v : hh_M) (ha : Int32) (se : Int32) : Int32 × hh_M := (hh_let (hf_X5_copyFrom v 1 0 : hh_M) (fun (v_26 : hh_M) => (hh_let (hh_fld (fun (i9 : Nat) (z : hh_M) => hl_X7_wouldBeOn_31 i9 z) se.toNatClampNeg v_26 : hh_M) (fun (w_31 : hh_M) => ((w_31 (hh_hI 1 ha.toNatClampNeg) 5), w_31)))))
set_option maxHeartbeats 4000000 in
set_option maxRecDepth 100000 in
theorem hk_X7_wouldBeOn (l : Launch) (D : va_G) (K : Nat → ClassId) (ad : Nat → Nat) {nm : Nat} {nh nc : Nat → Nat} {v : hh_M} (hT : hh_T nm nh nc v) (ha : Int32) (se : Int32) (hha0 : 0 ≤ ha) (hha1 : ha < nI (nh 0)) (hse0 : 0 ≤ se) (hse1 : se ≤ 99) (h10 : nh 1 ≤ nh 0) : hh_Ki l D K ad yX7_wouldBeOn (hh_wm yX7_wouldBeOn cX7_wouldBeOn 4 (some .int)) { frames := 4, cells := 0, slots := 0, locals := 95 } [.ref (ad 0), .int ha, .int se] v (fun (q : Int32) (v1 : hh_M) => (q, v1) = hf_X7_wouldBeOn v ha se ∧ (hh_T nm (hh_fu nh 1 (nh 0)) (hh_fu nc 1 (nc 0)) v1) ∧ hh_F (hh_Pq (nh 0) (nc 0)) v v1 ∧ (-1 ≤ q ∧ q < nI nm)) := by
  refine hh_Ki_of (by decide) (Nat.le_of_ble_eq_true rfl) ?_
  intro p e s m args below meth c ls A C0 hp hl
  obtain ⟨hx, hb, hr9, hml, hown, hts, hK, hlk, hA⟩ := id C0
  have hnm := hT.1
  have hnh := hT.2.1
  have hnc := hT.2.2.1
  have hbH0 := hnh 0
  have hbC0 := hnc 0
  have hbH1 := hnh 1
  have hbC1 := hnc 1
  have hl : lv_has ls 4 [(0, .ref (ad 0)), (1, .int ha), (2, .int se)] := hl
  have hS0 : 0 ≤ se := by first | assumption | exact Int32.le_trans (by decide) hse0
  have hS : se = nI se.toNatClampNeg := hh_nat hS0
  have hS9 : se.toNatClampNeg ≤ 99 := hh_nat_le hS0 (by assumption) (by decide)
  refine lv_iload_n hx hb dX7_wouldBeOn_0 rfl (lv_at hl 1 rfl) ?_
  refine lv_aload_n hx hb dX7_wouldBeOn_1 rfl (lv_at hl 0 rfl) ?_
  refine hh_get C0 hp (C := RX7) (T := TX7) (N := 4) (ci := 7) (by decide) hh_E_0 rfl hh_uX7 1 (by decide) hm_313 rfl rfl dX7_wouldBeOn_2 ?_
  refine hh_get C0 hp (C := RX5) (T := TX5) (N := 10) (ci := 5) (hh_b_r (by decide : 0 < 2)) (hh_E_r 0) rfl hh_uX5 5 (by decide) hm_341 rfl rfl dX7_wouldBeOn_5 ?_
  refine hh_cSv C0 hp (As := [.int ha, .int (v (hh_rI 0) 5)]) (rest := []) (n := 2) (hk_X7_demandNumber l D K ad hT ha (v (hh_rI 0) 5) hha0 (by rw [hh_T_r5 hT 0]; exact hha1)) (hh_gS hm_349 hm_350 hm_335 hm_351) ⟨rfl, rfl⟩ (by decide +kernel) ⟨Nat.le_of_ble_eq_true rfl, Nat.le_of_ble_eq_true rfl⟩ ⟨Nat.zero_le _, Nat.zero_le _⟩ hl.1 rfl rfl (Nat.le_of_ble_eq_true rfl) dX7_wouldBeOn_8 (fun v_8 H locs hv_8 hp => ?_)
  rw [hv_8] at hp
  refine lv_iload_n hx hb dX7_wouldBeOn_11 rfl (lv_at hl 2 rfl) ?_
  refine lv_iconst (v := 0) hx hb dX7_wouldBeOn_12 (by decide) ?_
  refine lv_bipush (v := 99) hx hb dX7_wouldBeOn_13 (by decide) ?_
  refine hh_cSv C0 hp (As := [.int se, .int 0, .int 99]) (rest := []) (n := 3) (hk_X7_demandWithin l D K ad hT se 0 99 hse0 hse1) (hh_gS hm_333 hm_334 hm_335 hm_336) ⟨rfl, rfl⟩ (by decide +kernel) ⟨Nat.le_of_ble_eq_true rfl, Nat.le_of_ble_eq_true rfl⟩ ⟨Nat.zero_le _, Nat.zero_le _⟩ hl.1 rfl rfl (Nat.le_of_ble_eq_true rfl) dX7_wouldBeOn_15 (fun v_15 H locs hv_15 hp => ?_)
  rw [hv_15] at hp
  refine lv_aload_n hx hb dX7_wouldBeOn_18 rfl (lv_at hl 0 rfl) ?_
  refine hh_get C0 hp (C := RX7) (T := TX7) (N := 4) (ci := 7) (by decide) hh_E_0 rfl hh_uX7 2 (by decide) hm_314 rfl rfl dX7_wouldBeOn_19 ?_
  refine lv_aload_n hx hb dX7_wouldBeOn_22 rfl (lv_at hl 0 rfl) ?_
  refine hh_get C0 hp (C := RX7) (T := TX7) (N := 4) (ci := 7) (by decide) hh_E_0 rfl hh_uX7 1 (by decide) hm_313 rfl rfl dX7_wouldBeOn_23 ?_
  refine hh_cVv C0 hp (As := [.ref (ad (hh_rI 0))]) (rest := []) (C := RX5) (T := TX5) (N := 10) (ci := 5) (n := 1) (hk_X5_copyFrom l D K ad hT 1 0 (by decide : 1 < 2) (by decide : 0 < 2) h10) rfl (hh_b_r (by decide : 1 < 2)) (hh_E_r 1) (hh_gV hm_433 hm_434 hm_435 hm_128 hm_110) ⟨rfl, rfl⟩ (by decide +kernel) ⟨Nat.le_of_ble_eq_true rfl, Nat.le_of_ble_eq_true rfl⟩ ⟨Nat.zero_le _, Nat.zero_le _⟩ hl.1 rfl rfl (Nat.le_of_ble_eq_true rfl) dX7_wouldBeOn_26 (fun v_26 H locs hv_26 hp => ?_)
  obtain ⟨ev_26, hTv_26, hF9⟩ := hv_26
  have hFv_26 : hh_F (hh_Pq (nh 0) (nc 0)) v v_26 := hh_F.tr hh_F_rf (hh_F.mo hF9 (fun j k hj => by first | exact hj | (obtain ⟨rfl, hj⟩ := hj; (first | exact ⟨rfl, hj⟩ | exact Or.inl ⟨rfl, hj⟩ | exact Or.inr (Or.inl ⟨rfl, hj⟩) | exact Or.inr (Or.inr ⟨rfl, hj⟩) | exact hh_Pn_k hj | exact hh_Pn_h (by first | assumption | omega) hj | exact hh_Pn_c (by first | assumption | omega) hj | exact hh_Pn_g (by first | assumption | omega) (by decide) hj); done) | (rcases hj with ⟨rfl, hj⟩ | ⟨rfl, hj⟩ | ⟨rfl, hj⟩ <;> first | exact hh_Pn_c (by first | assumption | omega) hj | exact hh_Pn_g (by first | assumption | omega) (by decide) hj) | (have hj := hj; simp only [hh_fu_s] at hj; first | exact hj | exact Or.inl hj) | exact Or.inr hj | exact Or.inl hj | (rw [(rfl : True = True), (rfl : True = True)] at hj; exact hj)))
  clear hF9
  refine lv_iconst (v := 0) hx hb dX7_wouldBeOn_29 (by decide) ?_
  refine lv_istore_n (lv' := [(3, .int 0), (0, .ref (ad 0)), (1, .int ha), (2, .int se)]) hx hb dX7_wouldBeOn_30 rfl hl (by decide) rfl (fun ls hl => ?_)
  have hL_31 : ∀ (n i : Nat) (w_31 : hh_M) (H : Heap) (locs : List Loc) (ls : Array Slot), i ≤ se.toNatClampNeg → se.toNatClampNeg - i < n → w_31 = hh_fld (fun (i9 : Nat) (z : hh_M) => hl_X7_wouldBeOn_31 i9 z) i v_26 → hh_T nm (hh_fu nh 1 (nh 0)) (hh_fu nc 1 (nc 0)) w_31 → hh_F (hh_Pq (nh 0) (nc 0)) v w_31 → hh_H D K ad A s.heap w_31 H locs → lv_has ls 4 [(3, .int (nI i)), (0, .ref (ad 0)), (1, .int ha), (2, .int se)] → W p l e ({ frames := 4, cells := 0, slots := 0, locals := 95 } : Room) s m args below meth c H locs 0 0 (MQ below (va_Qi (fun (q : Int32) (v1 : hh_M) => (q, v1) = hf_X7_wouldBeOn v ha se ∧ (hh_T nm (hh_fu nh 1 (nh 0)) (hh_fu nc 1 (nc 0)) v1) ∧ hh_F (hh_Pq (nh 0) (nc 0)) v v1 ∧ (-1 ≤ q ∧ q < nI nm)) (hh_B D K ad A) A) args s 0 0 A) (F0 m 31 ls []) := by
    intro n
    induction n with
    | zero => intro i w_31 H locs ls h1 h2; omega
    | succ n ih =>
      intro i w_31 H locs ls hii hni hsL_31 hTw_31 hFw_31 hp hl
      refine lv_iload_n hx hb dX7_wouldBeOn_31 rfl (lv_at hl 0 rfl) ?_
      refine lv_iload_n hx hb dX7_wouldBeOn_32 rfl (lv_at hl 3 rfl) ?_
      refine lv_icmp_ge (tgt := 49) hx hb dX7_wouldBeOn_33 (by decide) (fun c_33 => ?_) (fun c_33 => ?_)
      · have hbc_33 : se = nI se.toNatClampNeg := hS
        rw [hbc_33] at c_33
        have hc_33 := (nI_leI (a := se.toNatClampNeg) (b := i) (by omega) (by omega))
        have hltc_33 : se.toNatClampNeg ≤ i := by exact hc_33.mp c_33
        have hNL_31 : i = se.toNatClampNeg := by omega
        rw [hNL_31] at hsL_31
        have ew_31 : w_31 = hh_fld (fun (i9 : Nat) (z : hh_M) => hl_X7_wouldBeOn_31 i9 z) se.toNatClampNeg v_26 := hsL_31
        clear ih hsL_31
        refine lv_aload_n hx hb dX7_wouldBeOn_49 rfl (lv_at hl 1 rfl) ?_
        refine hh_get C0 hp (C := RX7) (T := TX7) (N := 4) (ci := 7) (by decide) hh_E_0 rfl hh_uX7 2 (by decide) hm_314 rfl rfl dX7_wouldBeOn_50 ?_
        refine hh_get C0 hp (C := RX5) (T := TX5) (N := 10) (ci := 5) (hh_b_r (by decide : 1 < 2)) (hh_E_r 1) rfl hh_uX5 3 (by decide) hm_342 rfl rfl dX7_wouldBeOn_53 ?_
        refine lv_iload_n hx hb dX7_wouldBeOn_56 rfl (lv_at hl 2 rfl) ?_
        have hin_57 : vp_in ha 8 := hh_inZ hha0 hha1 hbH0 (by decide)
        refine hh_aal C0 hp (t0 := 3) (f := (hh_hI 1)) (hh_b_H (by decide : 1 < 2)) (hh_E_H 1) rfl rfl hin_57 rfl dX7_wouldBeOn_57 ?_
        refine hh_get C0 hp (C := RX1) (T := TX1) (N := 13) (ci := 1) (hh_b_h (by decide : 1 < 2) (hh_lt hin_57)) (hh_E_h 1 (hh_lt hin_57)) rfl hh_uX1 5 (by decide) hm_437 rfl rfl dX7_wouldBeOn_58 ?_
        exact hh_iret C0 hp dX7_wouldBeOn_61 ⟨(by show (_, _) = _; unfold hf_X7_wouldBeOn; rw [hh_let_eq ev_26, hh_let_eq ew_31]), hTw_31, hFw_31, (hh_T_h5 hTw_31 1 (hh_lt hin_57))⟩
      · have hbc_33 : se = nI se.toNatClampNeg := hS
        rw [hbc_33] at c_33
        have hc_33 := (nI_leI (a := se.toNatClampNeg) (b := i) (by omega) (by omega))
        have hltc_33 : i < se.toNatClampNeg := by exact Nat.not_le.mp (fun z => c_33 (hc_33.mpr z))
        refine lv_aload_n hx hb dX7_wouldBeOn_36 rfl (lv_at hl 1 rfl) ?_
        refine hh_get C0 hp (C := RX7) (T := TX7) (N := 4) (ci := 7) (by decide) hh_E_0 rfl hh_uX7 2 (by decide) hm_314 rfl rfl dX7_wouldBeOn_37 ?_
        refine hh_cVv C0 hp (As := []) (rest := []) (C := RX5) (T := TX5) (N := 10) (ci := 5) (n := 0) (hk_X5_second l D K ad hTw_31 1 (by decide : 1 < 2)) rfl (hh_b_r (by decide : 1 < 2)) (hh_E_r 1) (hh_gV hm_394 hm_395 hm_396 hm_128 hm_158) ⟨rfl, rfl⟩ (by decide +kernel) ⟨Nat.le_of_ble_eq_true rfl, Nat.le_of_ble_eq_true rfl⟩ ⟨Nat.zero_le _, Nat.zero_le _⟩ hl.1 rfl rfl (Nat.le_of_ble_eq_true rfl) dX7_wouldBeOn_40 (fun v_40 H locs hv_40 hp => ?_)
        obtain ⟨ev_40, hTv_40, hF9⟩ := hv_40
        have hFv_40 : hh_F (hh_Pq (nh 0) (nc 0)) v v_40 := hh_F.tr hFw_31 (hh_F.mo hF9 (fun j k hj => by first | exact hj | (obtain ⟨rfl, hj⟩ := hj; (first | exact ⟨rfl, hj⟩ | exact Or.inl ⟨rfl, hj⟩ | exact Or.inr (Or.inl ⟨rfl, hj⟩) | exact Or.inr (Or.inr ⟨rfl, hj⟩) | exact hh_Pn_k hj | exact hh_Pn_h (by first | assumption | omega) hj | exact hh_Pn_c (by first | assumption | omega) hj | exact hh_Pn_g (by first | assumption | omega) (by decide) hj); done) | (rcases hj with ⟨rfl, hj⟩ | ⟨rfl, hj⟩ | ⟨rfl, hj⟩ <;> first | exact hh_Pn_c (by first | assumption | omega) hj | exact hh_Pn_g (by first | assumption | omega) (by decide) hj) | (have hj := hj; simp only [hh_fu_s] at hj; first | exact hj | exact Or.inl hj) | exact Or.inr hj | exact Or.inl hj | (rw [(rfl : True = True), (rfl : True = True)] at hj; exact hj)))
        clear hF9
        refine lv_iinc (v := (nI (i + 1))) (lv' := [(3, .int (nI (i + 1))), (0, .ref (ad 0)), (1, .int ha), (2, .int se)]) hx hb dX7_wouldBeOn_43 hl (k := 0) rfl (nI_1 i) (by decide) rfl (fun ls hl => ?_)
        refine lv_goto (tgt := 31) hx hb dX7_wouldBeOn_46 (by decide) ?_
        exact ih (i + 1) v_40 _ _ _ (by omega) (by omega) (by rw [hh_fld, ← hsL_31]; show _ = hl_X7_wouldBeOn_31 i w_31; unfold hl_X7_wouldBeOn_31; rw [hh_let_eq ev_40]) hTv_40 hFv_40 hp (lv_sub hl [0, 1, 2, 3] rfl)
  exact hL_31 (se.toNatClampNeg + 1) 0 v_26 _ _ _ (Nat.zero_le _) (by omega) rfl hTv_26 hFv_26 hp (lv_sub hl [0, 1, 2, 3] rfl)
def hr_X7_endsIn_48 (ca : Int32) : Nat → Nat → hh_M → Int32 × hh_M
  | 0, i, w_48 => ((-1), w_48)
  | n9 + 1, i, w_48 => (hh_let (hf_X5_second w_48 1 : hh_M) (fun (v_57 : hh_M) => (if (v_57 (hh_cI 1 ca.toNatClampNeg) 6) = 0 then (hr_X7_endsIn_48 ca n9 (i + 1) v_57) else ((nI i), v_57))))
theorem hr_X7_endsIn_48_z (ca : Int32) (i : Nat) (w_48 : hh_M) : hr_X7_endsIn_48 ca 0 i w_48 = ((-1), w_48) := rfl
theorem hr_X7_endsIn_48_s (ca : Int32) (n9 i : Nat) (w_48 : hh_M) : hr_X7_endsIn_48 ca (n9 + 1) i w_48 = (hh_let (hf_X5_second w_48 1 : hh_M) (fun (v_57 : hh_M) => (if (v_57 (hh_cI 1 ca.toNatClampNeg) 6) = 0 then (hr_X7_endsIn_48 ca n9 (i + 1) v_57) else ((nI i), v_57)))) := rfl
def hf_X7_endsIn (v : hh_M) (ca : Int32) (se : Int32) : Int32 × hh_M := (if (v (hh_cI 0 ca.toNatClampNeg) 6) = 0 then (hh_let (hf_X5_copyFrom v 1 0 : hh_M) (fun (v_43 : hh_M) => (hr_X7_endsIn_48 ca se.toNatClampNeg 1 v_43))) else (0, v))
set_option maxHeartbeats 4000000 in
set_option maxRecDepth 100000 in
theorem hk_X7_endsIn (l : Launch) (D : va_G) (K : Nat → ClassId) (ad : Nat → Nat) {nm : Nat} {nh nc : Nat → Nat} {v : hh_M} (hT : hh_T nm nh nc v) (ca : Int32) (se : Int32) (hca0 : 0 ≤ ca) (hca1 : ca < nI (nc 0)) (hse0 : 1 ≤ se) (hse1 : se ≤ 99) (h10 : nh 1 ≤ nh 0) : hh_Ki l D K ad yX7_endsIn (hh_wm yX7_endsIn cX7_endsIn 4 (some .int)) { frames := 4, cells := 0, slots := 0, locals := 95 } [.ref (ad 0), .int ca, .int se] v (fun (q : Int32) (v1 : hh_M) => (q, v1) = hf_X7_endsIn v ca se ∧ (hh_TT nm (nh 0) (nc 0) v1) ∧ hh_F (hh_Pq (nh 0) (nc 0)) v v1) := by
  refine hh_Ki_of (by decide) (Nat.le_of_ble_eq_true rfl) ?_
  intro p e s m args below meth c ls A C0 hp hl
  obtain ⟨hx, hb, hr9, hml, hown, hts, hK, hlk, hA⟩ := id C0
  have hnm := hT.1
  have hnh := hT.2.1
  have hnc := hT.2.2.1
  have hbH0 := hnh 0
  have hbC0 := hnc 0
  have hbH1 := hnh 1
  have hbC1 := hnc 1
  have hl : lv_has ls 4 [(0, .ref (ad 0)), (1, .int ca), (2, .int se)] := hl
  have hS0 : 0 ≤ se := by first | assumption | exact Int32.le_trans (by decide) hse0
  have hS : se = nI se.toNatClampNeg := hh_nat hS0
  have hS9 : se.toNatClampNeg ≤ 99 := hh_nat_le hS0 (by assumption) (by decide)
  refine lv_iload_n hx hb dX7_endsIn_0 rfl (lv_at hl 1 rfl) ?_
  refine lv_aload_n hx hb dX7_endsIn_1 rfl (lv_at hl 0 rfl) ?_
  refine hh_get C0 hp (C := RX7) (T := TX7) (N := 4) (ci := 7) (by decide) hh_E_0 rfl hh_uX7 1 (by decide) hm_313 rfl rfl dX7_endsIn_2 ?_
  refine hh_get C0 hp (C := RX5) (T := TX5) (N := 10) (ci := 5) (hh_b_r (by decide : 0 < 2)) (hh_E_r 0) rfl hh_uX5 6 (by decide) hm_370 rfl rfl dX7_endsIn_5 ?_
  refine hh_cSv C0 hp (As := [.int ca, .int (v (hh_rI 0) 6)]) (rest := []) (n := 2) (hk_X7_demandNumber l D K ad hT ca (v (hh_rI 0) 6) hca0 (by rw [hh_T_r6 hT 0]; exact hca1)) (hh_gS hm_349 hm_350 hm_335 hm_351) ⟨rfl, rfl⟩ (by decide +kernel) ⟨Nat.le_of_ble_eq_true rfl, Nat.le_of_ble_eq_true rfl⟩ ⟨Nat.zero_le _, Nat.zero_le _⟩ hl.1 rfl rfl (Nat.le_of_ble_eq_true rfl) dX7_endsIn_8 (fun v_8 H locs hv_8 hp => ?_)
  rw [hv_8] at hp
  refine lv_iload_n hx hb dX7_endsIn_11 rfl (lv_at hl 2 rfl) ?_
  refine lv_iconst (v := 1) hx hb dX7_endsIn_12 (by decide) ?_
  refine lv_bipush (v := 99) hx hb dX7_endsIn_13 (by decide) ?_
  refine hh_cSv C0 hp (As := [.int se, .int 1, .int 99]) (rest := []) (n := 3) (hk_X7_demandWithin l D K ad hT se 1 99 hse0 hse1) (hh_gS hm_333 hm_334 hm_335 hm_336) ⟨rfl, rfl⟩ (by decide +kernel) ⟨Nat.le_of_ble_eq_true rfl, Nat.le_of_ble_eq_true rfl⟩ ⟨Nat.zero_le _, Nat.zero_le _⟩ hl.1 rfl rfl (Nat.le_of_ble_eq_true rfl) dX7_endsIn_15 (fun v_15 H locs hv_15 hp => ?_)
  rw [hv_15] at hp
  refine lv_aload_n hx hb dX7_endsIn_18 rfl (lv_at hl 0 rfl) ?_
  refine hh_get C0 hp (C := RX7) (T := TX7) (N := 4) (ci := 7) (by decide) hh_E_0 rfl hh_uX7 1 (by decide) hm_313 rfl rfl dX7_endsIn_19 ?_
  refine hh_get C0 hp (C := RX5) (T := TX5) (N := 10) (ci := 5) (hh_b_r (by decide : 0 < 2)) (hh_E_r 0) rfl hh_uX5 4 (by decide) hm_379 rfl rfl dX7_endsIn_22 ?_
  refine lv_iload_n hx hb dX7_endsIn_25 rfl (lv_at hl 1 rfl) ?_
  have hin_26 : vp_in ca 24 := hh_inZ hca0 hca1 hbC0 (by decide)
  refine hh_aal C0 hp (t0 := 4) (f := (hh_cI 0)) (hh_b_C (by decide : 0 < 2)) (hh_E_C 0) rfl rfl hin_26 rfl dX7_endsIn_26 ?_
  refine hh_get C0 hp (C := RX0) (T := TX0) (N := 7) (ci := 0) (hh_b_c (by decide : 0 < 2) (hh_lt hin_26)) (hh_E_c 0 (hh_lt hin_26)) rfl hh_uX0 6 (by decide) hm_380 rfl rfl dX7_endsIn_27 ?_
  refine lv_if_eq (tgt := 35) hx hb dX7_endsIn_30 (by decide) (fun c_30 => ?_) (fun c_30 => ?_)
  · refine lv_aload_n hx hb dX7_endsIn_35 rfl (lv_at hl 0 rfl) ?_
    refine hh_get C0 hp (C := RX7) (T := TX7) (N := 4) (ci := 7) (by decide) hh_E_0 rfl hh_uX7 2 (by decide) hm_314 rfl rfl dX7_endsIn_36 ?_
    refine lv_aload_n hx hb dX7_endsIn_39 rfl (lv_at hl 0 rfl) ?_
    refine hh_get C0 hp (C := RX7) (T := TX7) (N := 4) (ci := 7) (by decide) hh_E_0 rfl hh_uX7 1 (by decide) hm_313 rfl rfl dX7_endsIn_40 ?_
    refine hh_cVv C0 hp (As := [.ref (ad (hh_rI 0))]) (rest := []) (C := RX5) (T := TX5) (N := 10) (ci := 5) (n := 1) (hk_X5_copyFrom l D K ad hT 1 0 (by decide : 1 < 2) (by decide : 0 < 2) h10) rfl (hh_b_r (by decide : 1 < 2)) (hh_E_r 1) (hh_gV hm_433 hm_434 hm_435 hm_128 hm_110) ⟨rfl, rfl⟩ (by decide +kernel) ⟨Nat.le_of_ble_eq_true rfl, Nat.le_of_ble_eq_true rfl⟩ ⟨Nat.zero_le _, Nat.zero_le _⟩ hl.1 rfl rfl (Nat.le_of_ble_eq_true rfl) dX7_endsIn_43 (fun v_43 H locs hv_43 hp => ?_)
    obtain ⟨ev_43, hTv_43, hF9⟩ := hv_43
    have hFv_43 : hh_F (hh_Pq (nh 0) (nc 0)) v v_43 := hh_F.tr hh_F_rf (hh_F.mo hF9 (fun j k hj => by first | exact hj | (obtain ⟨rfl, hj⟩ := hj; (first | exact ⟨rfl, hj⟩ | exact Or.inl ⟨rfl, hj⟩ | exact Or.inr (Or.inl ⟨rfl, hj⟩) | exact Or.inr (Or.inr ⟨rfl, hj⟩) | exact hh_Pn_k hj | exact hh_Pn_h (by first | assumption | omega) hj | exact hh_Pn_c (by first | assumption | omega) hj | exact hh_Pn_g (by first | assumption | omega) (by decide) hj); done) | (rcases hj with ⟨rfl, hj⟩ | ⟨rfl, hj⟩ | ⟨rfl, hj⟩ <;> first | exact hh_Pn_c (by first | assumption | omega) hj | exact hh_Pn_g (by first | assumption | omega) (by decide) hj) | (have hj := hj; simp only [hh_fu_s] at hj; first | exact hj | exact Or.inl hj) | exact Or.inr hj | exact Or.inl hj | (rw [(rfl : True = True), (rfl : True = True)] at hj; exact hj)))
    clear hF9
    refine lv_iconst (v := 1) hx hb dX7_endsIn_46 (by decide) ?_
    refine lv_istore_n (lv' := [(3, .int 1), (0, .ref (ad 0)), (1, .int ca), (2, .int se)]) hx hb dX7_endsIn_47 rfl hl (by decide) rfl (fun ls hl => ?_)
    have hL_48 : ∀ (n i : Nat) (w_48 : hh_M) (H : Heap) (locs : List Loc) (ls : Array Slot), i + n = se.toNatClampNeg + 1 → hf_X7_endsIn v ca se = hr_X7_endsIn_48 ca n i w_48 → hh_T nm (hh_fu nh 1 (nh 0)) (hh_fu nc 1 (nc 0)) w_48 → hh_F (hh_Pq (nh 0) (nc 0)) v w_48 → hh_H D K ad A s.heap w_48 H locs → lv_has ls 4 [(3, .int (nI i)), (0, .ref (ad 0)), (1, .int ca), (2, .int se)] → W p l e ({ frames := 4, cells := 0, slots := 0, locals := 95 } : Room) s m args below meth c H locs 0 0 (MQ below (va_Qi (fun (q : Int32) (v1 : hh_M) => (q, v1) = hf_X7_endsIn v ca se ∧ (hh_TT nm (nh 0) (nc 0) v1) ∧ hh_F (hh_Pq (nh 0) (nc 0)) v v1) (hh_B D K ad A) A) args s 0 0 A) (F0 m 48 ls []) := by
      intro n
      induction n using Nat.strongRecOn with
      | ind n ih =>
        intro i w_48 H locs ls hi9 hsL_48 hTw_48 hFw_48 hp hl
        refine lv_iload_n hx hb dX7_endsIn_48 rfl (lv_at hl 0 rfl) ?_
        refine lv_iload_n hx hb dX7_endsIn_49 rfl (lv_at hl 3 rfl) ?_
        refine lv_icmp_gt (tgt := 83) hx hb dX7_endsIn_50 (by decide) (fun c_50 => ?_) (fun c_50 => ?_)
        · have hbc_50 : se = nI se.toNatClampNeg := hS
          rw [hbc_50] at c_50
          have hc_50 := (nI_ltI (a := se.toNatClampNeg) (b := i) (by omega) (by omega))
          have h9 := hc_50.mp c_50
          have hn0 : n = 0 := by omega
          subst hn0
          refine lv_iconst (v := (-1)) hx hb dX7_endsIn_83 (by decide) ?_
          exact hh_iret C0 hp dX7_endsIn_84 ⟨(by show (_, _) = _; rw [hsL_48, hr_X7_endsIn_48_z]), ⟨_, _, hTw_48, rfl, rfl, (Nat.le_of_eq rfl)⟩, hFw_48⟩
        · have hbc_50 : se = nI se.toNatClampNeg := hS
          rw [hbc_50] at c_50
          have hc_50 := (nI_ltI (a := se.toNatClampNeg) (b := i) (by omega) (by omega))
          have h9 : ¬ se.toNatClampNeg < i := fun z => c_50 (hc_50.mpr z)
          obtain ⟨n, rfl⟩ : ∃ z, n = z + 1 := ⟨n - 1, by omega⟩
          have ih := fun k (hk : k = n) => ih k (by omega)
          refine lv_aload_n hx hb dX7_endsIn_53 rfl (lv_at hl 1 rfl) ?_
          refine hh_get C0 hp (C := RX7) (T := TX7) (N := 4) (ci := 7) (by decide) hh_E_0 rfl hh_uX7 2 (by decide) hm_314 rfl rfl dX7_endsIn_54 ?_
          refine hh_cVv C0 hp (As := []) (rest := []) (C := RX5) (T := TX5) (N := 10) (ci := 5) (n := 0) (hk_X5_second l D K ad hTw_48 1 (by decide : 1 < 2)) rfl (hh_b_r (by decide : 1 < 2)) (hh_E_r 1) (hh_gV hm_394 hm_395 hm_396 hm_128 hm_158) ⟨rfl, rfl⟩ (by decide +kernel) ⟨Nat.le_of_ble_eq_true rfl, Nat.le_of_ble_eq_true rfl⟩ ⟨Nat.zero_le _, Nat.zero_le _⟩ hl.1 rfl rfl (Nat.le_of_ble_eq_true rfl) dX7_endsIn_57 (fun v_57 H locs hv_57 hp => ?_)
          obtain ⟨ev_57, hTv_57, hF9⟩ := hv_57
          have hFv_57 : hh_F (hh_Pq (nh 0) (nc 0)) v v_57 := hh_F.tr hFw_48 (hh_F.mo hF9 (fun j k hj => by first | exact hj | (obtain ⟨rfl, hj⟩ := hj; (first | exact ⟨rfl, hj⟩ | exact Or.inl ⟨rfl, hj⟩ | exact Or.inr (Or.inl ⟨rfl, hj⟩) | exact Or.inr (Or.inr ⟨rfl, hj⟩) | exact hh_Pn_k hj | exact hh_Pn_h (by first | assumption | omega) hj | exact hh_Pn_c (by first | assumption | omega) hj | exact hh_Pn_g (by first | assumption | omega) (by decide) hj); done) | (rcases hj with ⟨rfl, hj⟩ | ⟨rfl, hj⟩ | ⟨rfl, hj⟩ <;> first | exact hh_Pn_c (by first | assumption | omega) hj | exact hh_Pn_g (by first | assumption | omega) (by decide) hj) | (have hj := hj; simp only [hh_fu_s] at hj; first | exact hj | exact Or.inl hj) | exact Or.inr hj | exact Or.inl hj | (rw [(rfl : True = True), (rfl : True = True)] at hj; exact hj)))
          clear hF9
          refine lv_aload_n hx hb dX7_endsIn_60 rfl (lv_at hl 1 rfl) ?_
          refine hh_get C0 hp (C := RX7) (T := TX7) (N := 4) (ci := 7) (by decide) hh_E_0 rfl hh_uX7 2 (by decide) hm_314 rfl rfl dX7_endsIn_61 ?_
          refine hh_get C0 hp (C := RX5) (T := TX5) (N := 10) (ci := 5) (hh_b_r (by decide : 1 < 2)) (hh_E_r 1) rfl hh_uX5 4 (by decide) hm_379 rfl rfl dX7_endsIn_64 ?_
          refine lv_iload_n hx hb dX7_endsIn_67 rfl (lv_at hl 2 rfl) ?_
          have hin_68 : vp_in ca 24 := hh_inZ hca0 hca1 hbC0 (by decide)
          refine hh_aal C0 hp (t0 := 4) (f := (hh_cI 1)) (hh_b_C (by decide : 1 < 2)) (hh_E_C 1) rfl rfl hin_68 rfl dX7_endsIn_68 ?_
          refine hh_get C0 hp (C := RX0) (T := TX0) (N := 7) (ci := 0) (hh_b_c (by decide : 1 < 2) (hh_lt hin_68)) (hh_E_c 1 (hh_lt hin_68)) rfl hh_uX0 6 (by decide) hm_380 rfl rfl dX7_endsIn_69 ?_
          refine lv_if_eq (tgt := 77) hx hb dX7_endsIn_72 (by decide) (fun c_72 => ?_) (fun c_72 => ?_)
          · refine lv_iinc (v := (nI (i + 1))) (lv' := [(3, .int (nI (i + 1))), (0, .ref (ad 0)), (1, .int ca), (2, .int se)]) hx hb dX7_endsIn_77 hl (k := 0) rfl (nI_1 i) (by decide) rfl (fun ls hl => ?_)
            refine lv_goto (tgt := 48) hx hb dX7_endsIn_80 (by decide) ?_
            exact ih n rfl (i + 1) v_57 _ _ _ (by omega) (by rw [hsL_48, hr_X7_endsIn_48_s, hh_let_eq ev_57, if_pos c_72]) hTv_57 hFv_57 hp (lv_sub hl [0, 1, 2, 3] rfl)
          · refine lv_iload_n hx hb dX7_endsIn_75 rfl (lv_at hl 0 rfl) ?_
            exact hh_iret C0 hp dX7_endsIn_76 ⟨(by show (_, _) = _; rw [hsL_48, hr_X7_endsIn_48_s, hh_let_eq ev_57, if_neg c_72]), ⟨_, _, hTv_57, rfl, rfl, (Nat.le_of_eq rfl)⟩, hFv_57⟩
    exact hL_48 se.toNatClampNeg 1 v_43 _ _ _ (by omega) (by unfold hf_X7_endsIn; rw [if_pos c_30, hh_let_eq ev_43]) hTv_43 hFv_43 hp (lv_sub hl [0, 1, 2, 3] rfl)
  · refine lv_iconst (v := 0) hx hb dX7_endsIn_33 (by decide) ?_
    exact hh_iret C0 hp dX7_endsIn_34 ⟨(by show (_, _) = _; unfold hf_X7_endsIn; rw [if_neg c_30]), ⟨_, _, hT, rfl, rfl, h10⟩, hh_F_rf⟩
def hf_X7_bestPlace (v : hh_M) (pw : Int32) (fr : Int32) : Int32 × hh_M := (if (v 1 2) < 6 then (hh_let (hf_X6_take v 0 fr : hh_M) (fun (v_37 : hh_M) => (hh_let (hf_X6_placeFor v_37 pw : Int32) (fun (q_45 : Int32) => (q_45, v_37))))) else ((-1), v))
set_option maxHeartbeats 4000000 in
set_option maxRecDepth 100000 in
theorem hk_X7_bestPlace (l : Launch) (D : va_G) (K : Nat → ClassId) (ad : Nat → Nat) {nm : Nat} {nh nc : Nat → Nat} {v : hh_M} (hT : hh_T nm nh nc v) (pw : Int32) (fr : Int32) (hpw0 : 10 ≤ pw) (hpw1 : pw ≤ 60) (hfr0 : 0 ≤ fr) (hfr1 : fr ≤ 2) : hh_Ki l D K ad yX7_bestPlace (hh_wm yX7_bestPlace cX7_bestPlace 3 (some .int)) { frames := 4, cells := 0, slots := 0, locals := 93 } [.ref (ad 0), .int pw, .int fr] v (fun (q : Int32) (v1 : hh_M) => (q, v1) = hf_X7_bestPlace v pw fr ∧ (hh_T nm nh nc v1) ∧ hh_F (hh_Pq (nh 0) (nc 0)) v v1 ∧ (-1 ≤ q ∧ q < nI 100)) := by
  refine hh_Ki_of (by decide) (Nat.le_of_ble_eq_true rfl) ?_
  intro p e s m args below meth c ls A C0 hp hl
  obtain ⟨hx, hb, hr9, hml, hown, hts, hK, hlk, hA⟩ := id C0
  have hnm := hT.1
  have hnh := hT.2.1
  have hnc := hT.2.2.1
  have hbH0 := hnh 0
  have hbC0 := hnc 0
  have hbH1 := hnh 1
  have hbC1 := hnc 1
  have hl : lv_has ls 3 [(0, .ref (ad 0)), (1, .int pw), (2, .int fr)] := hl
  refine lv_iload_n hx hb dX7_bestPlace_0 rfl (lv_at hl 1 rfl) ?_
  refine lv_bipush (v := 10) hx hb dX7_bestPlace_1 (by decide) ?_
  refine lv_bipush (v := 60) hx hb dX7_bestPlace_3 (by decide) ?_
  refine hh_cSv C0 hp (As := [.int pw, .int 10, .int 60]) (rest := []) (n := 3) (hk_X7_demandWithin l D K ad hT pw 10 60 hpw0 hpw1) (hh_gS hm_333 hm_334 hm_335 hm_336) ⟨rfl, rfl⟩ (by decide +kernel) ⟨Nat.le_of_ble_eq_true rfl, Nat.le_of_ble_eq_true rfl⟩ ⟨Nat.zero_le _, Nat.zero_le _⟩ hl.1 rfl rfl (Nat.le_of_ble_eq_true rfl) dX7_bestPlace_5 (fun v_5 H locs hv_5 hp => ?_)
  rw [hv_5] at hp
  refine lv_iload_n hx hb dX7_bestPlace_8 rfl (lv_at hl 2 rfl) ?_
  refine lv_iconst (v := 0) hx hb dX7_bestPlace_9 (by decide) ?_
  refine lv_iconst (v := 2) hx hb dX7_bestPlace_10 (by decide) ?_
  refine hh_cSv C0 hp (As := [.int fr, .int 0, .int 2]) (rest := []) (n := 3) (hk_X7_demandWithin l D K ad hT fr 0 2 hfr0 hfr1) (hh_gS hm_333 hm_334 hm_335 hm_336) ⟨rfl, rfl⟩ (by decide +kernel) ⟨Nat.le_of_ble_eq_true rfl, Nat.le_of_ble_eq_true rfl⟩ ⟨Nat.zero_le _, Nat.zero_le _⟩ hl.1 rfl rfl (Nat.le_of_ble_eq_true rfl) dX7_bestPlace_11 (fun v_11 H locs hv_11 hp => ?_)
  rw [hv_11] at hp
  refine lv_aload_n hx hb dX7_bestPlace_14 rfl (lv_at hl 0 rfl) ?_
  refine hh_get C0 hp (C := RX7) (T := TX7) (N := 4) (ci := 7) (by decide) hh_E_0 rfl hh_uX7 0 (by decide) hm_310 rfl rfl dX7_bestPlace_15 ?_
  refine hh_get C0 hp (C := RX4) (T := TX4) (N := 3) (ci := 4) (by decide) hh_E_1 rfl hh_uX4 2 (by decide) hm_324 rfl rfl dX7_bestPlace_18 ?_
  refine lv_bipush (v := 6) hx hb dX7_bestPlace_21 (by decide) ?_
  refine lv_icmp_lt (tgt := 28) hx hb dX7_bestPlace_23 (by decide) (fun c_23 => ?_) (fun c_23 => ?_)
  · refine lv_aload_n hx hb dX7_bestPlace_28 rfl (lv_at hl 0 rfl) ?_
    refine hh_get C0 hp (C := RX7) (T := TX7) (N := 4) (ci := 7) (by decide) hh_E_0 rfl hh_uX7 3 (by decide) hm_317 rfl rfl dX7_bestPlace_29 ?_
    refine lv_aload_n hx hb dX7_bestPlace_32 rfl (lv_at hl 0 rfl) ?_
    refine hh_get C0 hp (C := RX7) (T := TX7) (N := 4) (ci := 7) (by decide) hh_E_0 rfl hh_uX7 1 (by decide) hm_313 rfl rfl dX7_bestPlace_33 ?_
    refine lv_iload_n hx hb dX7_bestPlace_36 rfl (lv_at hl 2 rfl) ?_
    refine hh_cVv C0 hp (As := [.ref (ad (hh_rI 0)), .int fr]) (rest := []) (C := RX6) (T := TX6) (N := 3) (ci := 6) (n := 2) (hk_X6_take l D K ad hT 0 fr (by decide : 0 < 2)) rfl (by decide) hh_E_4 (hh_gV hm_439 hm_440 hm_441 hm_288 hm_282) ⟨rfl, rfl⟩ (by decide +kernel) ⟨Nat.le_of_ble_eq_true rfl, Nat.le_of_ble_eq_true rfl⟩ ⟨Nat.zero_le _, Nat.zero_le _⟩ hl.1 rfl rfl (Nat.le_of_ble_eq_true rfl) dX7_bestPlace_37 (fun v_37 H locs hv_37 hp => ?_)
    obtain ⟨ev_37, hTv_37, hF9⟩ := hv_37
    have hFv_37 : hh_F (hh_Pq (nh 0) (nc 0)) v v_37 := hh_F.tr hh_F_rf (hh_F.mo hF9 (fun j k hj => by first | exact hj | (obtain ⟨rfl, hj⟩ := hj; (first | exact ⟨rfl, hj⟩ | exact Or.inl ⟨rfl, hj⟩ | exact Or.inr (Or.inl ⟨rfl, hj⟩) | exact Or.inr (Or.inr ⟨rfl, hj⟩) | exact hh_Pn_k hj | exact hh_Pn_h (by first | assumption | omega) hj | exact hh_Pn_c (by first | assumption | omega) hj | exact hh_Pn_g (by first | assumption | omega) (by decide) hj); done) | (rcases hj with ⟨rfl, hj⟩ | ⟨rfl, hj⟩ | ⟨rfl, hj⟩ <;> first | exact hh_Pn_c (by first | assumption | omega) hj | exact hh_Pn_g (by first | assumption | omega) (by decide) hj) | (have hj := hj; simp only [hh_fu_s] at hj; first | exact hj | exact Or.inl hj) | exact Or.inr hj | exact Or.inl hj | (rw [(rfl : True = True), (rfl : True = True)] at hj; exact hj)))
    clear hF9
    refine lv_aload_n hx hb dX7_bestPlace_40 rfl (lv_at hl 0 rfl) ?_
    refine hh_get C0 hp (C := RX7) (T := TX7) (N := 4) (ci := 7) (by decide) hh_E_0 rfl hh_uX7 3 (by decide) hm_317 rfl rfl dX7_bestPlace_41 ?_
    refine lv_iload_n hx hb dX7_bestPlace_44 rfl (lv_at hl 1 rfl) ?_
    refine hh_cVi C0 hp (As := [.int pw]) (rest := []) (C := RX6) (T := TX6) (N := 3) (ci := 6) (n := 1) (hk_X6_placeFor l D K ad hTv_37 pw) rfl (by decide) hh_E_4 (hh_gV hm_442 hm_443 hm_444 hm_288 hm_298) ⟨rfl, rfl⟩ (by decide +kernel) ⟨Nat.le_of_ble_eq_true rfl, Nat.le_of_ble_eq_true rfl⟩ ⟨Nat.zero_le _, Nat.zero_le _⟩ hl.1 rfl rfl (Nat.le_of_ble_eq_true rfl) dX7_bestPlace_45 (fun q_45 v_45 H locs hv_45 hp => ?_)
    obtain ⟨eq_45, hv9, hpq_45a⟩ := hv_45
    rw [hv9] at hp; clear hv9
    exact hh_iret C0 hp dX7_bestPlace_48 ⟨(by show (_, _) = _; unfold hf_X7_bestPlace; rw [if_pos c_23, hh_let_eq ev_37, hh_let_eq eq_45]), hTv_37, hFv_37, (by assumption)⟩
  · refine lv_iconst (v := (-1)) hx hb dX7_bestPlace_26 (by decide) ?_
    exact hh_iret C0 hp dX7_bestPlace_27 ⟨(by show (_, _) = _; unfold hf_X7_bestPlace; rw [if_neg c_23]), hT, hh_F_rf, (hh_rg0 (by decide))⟩
