/-! constructors: laid by wip/gen/mkctor4.py -/
def hn_WS (h0 : Nat) (u : Nat × Nat × Nat × ClassId) : va_W := [(h0, .inr (6, [.ref u.1, .ref u.2.1, .ref u.2.2.1])), (u.1, .inl (u.2.2.2, 100, .inl (fun _ => 0))), (u.2.1, .inl (u.2.2.2, 100, .inl (fun _ => 0))), (u.2.2.1, .inl (u.2.2.2, 100, .inl (fun _ => 0)))]
abbrev hn_UX : Type := (Nat × Nat × Nat × Nat) × hn_UM × hn_U × hn_U × (Nat × Nat × Nat × ClassId)
def hn_WX (h0 : Nat) (u : hn_UX) : va_W := [(h0, .inr (7, [.ref u.1.1, .ref u.1.2.1, .ref u.1.2.2.1, .ref u.1.2.2.2]))] ++ hn_WM u.1.1 u.2.1 ++ hn_WR u.1.2.1 u.1.1 u.2.2.1 ++ hn_WR u.1.2.2.1 u.1.1 u.2.2.2.1 ++ hn_WS u.1.2.2.2 u.2.2.2.2
def hn_TX (u : hn_UX) : List (ClassId × FieldType) := hn_TM u.2.1 ++ (hn_TR u.2.2.1 ++ (hn_TR u.2.2.2.1 ++ [(u.2.2.2.2.2.2.2, .int)]))
set_option maxHeartbeats 4000000 in
set_option maxRecDepth 100000 in
theorem hn_X7 (l : Launch) (D : va_G) (h0 : Nat) : hn_K l D yX7_init (hh_wm yX7_init cX7_init 1 none) { frames := 4, cells := 189, slots := 2188, locals := 74 } [.ref h0] [(h0, .inr (7, [.null, .null, .null, .null]))] 189 2188 (fun _ : hn_UX => True) (hn_WX h0) hn_TX := by
  refine hn_of (by decide) rfl (Nat.le_of_ble_eq_true rfl) ?_
  intro p e s m args below meth c ls A C0 hK hP hD hS hl
  obtain ⟨hx, hb, hr, hml, hown, hts, hlk, hA, hN, hin⟩ := id C0
  have hl : lv_has ls 1 [(0, .ref h0)] := hl
  refine lv_aload_n hx hb dX7_init_0 rfl (lv_at hl 0 rfl) ?_
  refine hn_obj C0 hm_307 hm_2 hm_3 hl.1 dX7_init_1 (Nat.le_of_ble_eq_true rfl) (Nat.le_of_ble_eq_true rfl) ?_
  refine lv_aload_n hx hb dX7_init_4 rfl (lv_at hl 0 rfl) ?_
  refine va_new (ci := 4) (fs := [.null, .null, .int 0]) (C := RX4) (T := TX4) (N := 3) hx hb hts hh_uX4 tyX4 tyX4_ok hown (hts _ hm_308) (hts _ hm_309) (hts _ hm_83) hK hP hD hS hA rfl (fun j hj => by rcases (show j = 0 ∨ j = 1 ∨ j = 2 by omega) with rfl | rfl | rfl <;> rfl) (by decide) (by decide) dX7_init_5 (fun q5 H hP hD hS => ?_)
  refine W.widen (k := 1) (n := 3) (by omega) (by omega) ?_
  refine lv_dup hx hb dX7_init_8 rfl ?_
  refine hn_cIL (X := ([(h0, .inr (7, [.null, .null, .null, .null]))])) C0 (As := []) (rest := [.ref q5, .ref h0]) (n := 0) (hn_X4 l D q5) hK hP hD hS hm_69 hm_83 hm_318 hm_319 rfl (by decide +kernel) ⟨rfl, rfl⟩ ⟨Nat.le_of_ble_eq_true rfl, Nat.le_of_ble_eq_true rfl⟩ ⟨Nat.le_of_ble_eq_true rfl, Nat.le_of_ble_eq_true rfl⟩ rfl hl.1 rfl (Nat.le_of_ble_eq_true rfl) dX7_init_9 (fun uM H locs _ hP hD hKM hS => ?_)
  refine va_putF (D := D) (ci := 7) (v := .ref q5) (ty := .object "Handoverhouse$Masts") (C := RX7) (T := TX7) (N := 4) (fs := [.null, .null, .null, .null]) hx hb hts hh_uX7 tyX7 tyX7_ok nmX7 hown hK hP hD hS 0 rfl rfl 0 (by decide) (hts _ hm_310) (fun _ h9 => h9) rfl hin rfl (by decide +kernel) rfl rfl (Nat.le_of_ble_eq_true rfl) dX7_init_12 (fun H locs hP hD hS => ?_)
  have hP : va_P D hh_cl ([(h0, .inr (7, [.ref q5, .null, .null, .null]))] ++ hn_WM q5 uM) H := hP
  have hD : va_D A ([(h0, .inr (7, [.ref q5, .null, .null, .null]))] ++ hn_WM q5 uM) := hD
  refine lv_aload_n hx hb dX7_init_15 rfl (lv_at hl 0 rfl) ?_
  refine va_new (ci := 5) (fs := [.null, .null, .null, .null, .null, .int 0, .int 0, .int 0, .int 0, .int 0]) (C := RX5) (T := TX5) (N := 10) hx hb hts hh_uX5 tyX5 tyX5_ok hown (hts _ hm_311) (hts _ hm_312) (hts _ hm_128) hK hP hD hS hA rfl (fun j hj => by rcases (show j = 0 ∨ j = 1 ∨ j = 2 ∨ j = 3 ∨ j = 4 ∨ j = 5 ∨ j = 6 ∨ j = 7 ∨ j = 8 ∨ j = 9 by omega) with rfl | rfl | rfl | rfl | rfl | rfl | rfl | rfl | rfl | rfl <;> rfl) (by decide) (by decide) dX7_init_16 (fun q16 H hP hD hS => ?_)
  refine W.widen (k := 16) (n := 667) (by omega) (by omega) ?_
  refine lv_dup hx hb dX7_init_19 rfl ?_
  refine lv_aload_n hx hb dX7_init_20 rfl (lv_at hl 0 rfl) ?_
  refine va_get (D := D) (ci := 7) (v := .ref q5) (fs := [.ref q5, .null, .null, .null]) (C := RX7) (T := TX7) (N := 4) hx hb hts hh_uX7 hown hK hP 0 rfl rfl 0 (by decide) (hts _ hm_310) (fun _ h9 => h9) rfl dX7_init_21 ?_
  refine hn_cIL (X := ([(h0, .inr (7, [.ref q5, .null, .null, .null]))] ++ hn_WM q5 uM)) C0 (As := [.ref q5]) (rest := [.ref q16, .ref h0]) (n := 1) (hn_X5 l D q16 q5) hK hP hD hS hm_95 hm_128 hm_320 hm_321 rfl (by decide +kernel) ⟨rfl, rfl⟩ ⟨Nat.le_of_ble_eq_true rfl, Nat.le_of_ble_eq_true rfl⟩ ⟨Nat.le_of_ble_eq_true rfl, Nat.le_of_ble_eq_true rfl⟩ rfl hl.1 rfl (Nat.le_of_ble_eq_true rfl) dX7_init_24 (fun uR H locs _ hP hD hKR hS => ?_)
  refine va_putF (D := D) (ci := 7) (v := .ref q16) (ty := .object "Handoverhouse$Road") (C := RX7) (T := TX7) (N := 4) (fs := [.ref q5, .null, .null, .null]) hx hb hts hh_uX7 tyX7 tyX7_ok nmX7 hown hK hP hD hS 0 rfl rfl 1 (by decide) (hts _ hm_313) (fun _ h9 => h9) rfl hin rfl (by decide +kernel) rfl rfl (Nat.le_of_ble_eq_true rfl) dX7_init_27 (fun H locs hP hD hS => ?_)
  have hP : va_P D hh_cl ([(h0, .inr (7, [.ref q5, .ref q16, .null, .null]))] ++ hn_WM q5 uM ++ hn_WR q16 q5 uR) H := hP
  have hD : va_D A ([(h0, .inr (7, [.ref q5, .ref q16, .null, .null]))] ++ hn_WM q5 uM ++ hn_WR q16 q5 uR) := hD
  refine lv_aload_n hx hb dX7_init_30 rfl (lv_at hl 0 rfl) ?_
  refine va_new (ci := 5) (fs := [.null, .null, .null, .null, .null, .int 0, .int 0, .int 0, .int 0, .int 0]) (C := RX5) (T := TX5) (N := 10) hx hb hts hh_uX5 tyX5 tyX5_ok hown (hts _ hm_311) (hts _ hm_312) (hts _ hm_128) hK hP hD hS hA rfl (fun j hj => by rcases (show j = 0 ∨ j = 1 ∨ j = 2 ∨ j = 3 ∨ j = 4 ∨ j = 5 ∨ j = 6 ∨ j = 7 ∨ j = 8 ∨ j = 9 by omega) with rfl | rfl | rfl | rfl | rfl | rfl | rfl | rfl | rfl | rfl <;> rfl) (by decide) (by decide) dX7_init_31 (fun q31 H hP hD hS => ?_)
  refine W.widen (k := 101) (n := 1281) (by omega) (by omega) ?_
  refine lv_dup hx hb dX7_init_34 rfl ?_
  refine lv_aload_n hx hb dX7_init_35 rfl (lv_at hl 0 rfl) ?_
  refine va_get (D := D) (ci := 7) (v := .ref q5) (fs := [.ref q5, .ref q16, .null, .null]) (C := RX7) (T := TX7) (N := 4) hx hb hts hh_uX7 hown hK hP 0 rfl rfl 0 (by decide) (hts _ hm_310) (fun _ h9 => h9) rfl dX7_init_36 ?_
  refine hn_cIL (X := ([(h0, .inr (7, [.ref q5, .ref q16, .null, .null]))] ++ hn_WM q5 uM ++ hn_WR q16 q5 uR)) C0 (As := [.ref q5]) (rest := [.ref q31, .ref h0]) (n := 1) (hn_X5 l D q31 q5) hK hP hD hS hm_95 hm_128 hm_320 hm_321 rfl (by decide +kernel) ⟨rfl, rfl⟩ ⟨Nat.le_of_ble_eq_true rfl, Nat.le_of_ble_eq_true rfl⟩ ⟨Nat.le_of_ble_eq_true rfl, Nat.le_of_ble_eq_true rfl⟩ rfl hl.1 rfl (Nat.le_of_ble_eq_true rfl) dX7_init_39 (fun uT H locs _ hP hD hKT hS => ?_)
  refine va_putF (D := D) (ci := 7) (v := .ref q31) (ty := .object "Handoverhouse$Road") (C := RX7) (T := TX7) (N := 4) (fs := [.ref q5, .ref q16, .null, .null]) hx hb hts hh_uX7 tyX7 tyX7_ok nmX7 hown hK hP hD hS 0 rfl rfl 2 (by decide) (hts _ hm_314) (fun _ h9 => h9) rfl hin rfl (by decide +kernel) rfl rfl (Nat.le_of_ble_eq_true rfl) dX7_init_42 (fun H locs hP hD hS => ?_)
  have hP : va_P D hh_cl ([(h0, .inr (7, [.ref q5, .ref q16, .ref q31, .null]))] ++ hn_WM q5 uM ++ hn_WR q16 q5 uR ++ hn_WR q31 q5 uT) H := hP
  have hD : va_D A ([(h0, .inr (7, [.ref q5, .ref q16, .ref q31, .null]))] ++ hn_WM q5 uM ++ hn_WR q16 q5 uR ++ hn_WR q31 q5 uT) := hD
  refine lv_aload_n hx hb dX7_init_45 rfl (lv_at hl 0 rfl) ?_
  refine va_new (ci := 6) (fs := [.null, .null, .null]) (C := RX6) (T := TX6) (N := 3) hx hb hts hh_uX6 tyX6 tyX6_ok hown (hts _ hm_315) (hts _ hm_316) (hts _ hm_288) hK hP hD hS hA rfl (fun j hj => by rcases (show j = 0 ∨ j = 1 ∨ j = 2 by omega) with rfl | rfl | rfl <;> rfl) (by decide) (by decide) dX7_init_46 (fun q46 H hP hD hS => ?_)
  refine W.widen (k := 186) (n := 1888) (by omega) (by omega) ?_
  refine lv_dup hx hb dX7_init_49 rfl ?_
  refine hn_cNL (X := ([(h0, .inr (7, [.ref q5, .ref q16, .ref q31, .null]))] ++ hn_WM q5 uM ++ hn_WR q16 q5 uR ++ hn_WR q31 q5 uT)) C0 (As := []) (rest := [.ref q46, .ref h0]) (n := 0) (hn_X6 l D q46) hK hP hD hS hm_277 hm_288 hN.2.2.2.2.2.2.2.2 hm_322 rfl (by decide +kernel) ⟨rfl, rfl⟩ ⟨Nat.le_of_ble_eq_true rfl, Nat.le_of_ble_eq_true rfl⟩ ⟨Nat.le_of_ble_eq_true rfl, Nat.le_of_ble_eq_true rfl⟩ rfl hl.1 rfl (Nat.le_of_ble_eq_true rfl) dX7_init_50 (fun uS H locs _ hP hD hKS hS => ?_)
  refine va_putF (D := D) (ci := 7) (v := .ref q46) (ty := .object "Handoverhouse$Survey") (C := RX7) (T := TX7) (N := 4) (fs := [.ref q5, .ref q16, .ref q31, .null]) hx hb hts hh_uX7 tyX7 tyX7_ok nmX7 hown hK hP hD hS 0 rfl rfl 3 (by decide) (hts _ hm_317) (fun _ h9 => h9) rfl hin rfl (by decide +kernel) rfl rfl (Nat.le_of_ble_eq_true rfl) dX7_init_53 (fun H locs hP hD hS => ?_)
  have hP : va_P D hh_cl ([(h0, .inr (7, [.ref q5, .ref q16, .ref q31, .ref q46]))] ++ hn_WM q5 uM ++ hn_WR q16 q5 uR ++ hn_WR q31 q5 uT ++ hn_WS q46 uS) H := hP
  have hD : va_D A ([(h0, .inr (7, [.ref q5, .ref q16, .ref q31, .ref q46]))] ++ hn_WM q5 uM ++ hn_WR q16 q5 uR ++ hn_WR q31 q5 uT ++ hn_WS q46 uS) := hD
  exact hn_vret (u := ((q5, q16, q31, q46), uM, uR, uT, uS)) C0 hP hD (va_K.app hKM (va_K.app hKR (va_K.app hKT hKS))) hS dX7_init_56 trivial
