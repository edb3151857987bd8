/-! constructors: laid by wip/gen/mkctor.py -/
set_option maxHeartbeats 4000000 in
set_option maxRecDepth 100000 in
theorem hn_X2 (l : Launch) (D : va_G) (h0 : Nat) : hn_K l D yX2_init (hh_wm yX2_init cX2_init 1 none) { frames := 1, cells := 0, slots := 0, locals := 12 } [.ref h0] [(h0, .inr (2, [.int 0, .int 0, .int 0, .int 0, .int 0, .int 0]))] 0 0 (fun _ : Unit => True) (fun _ => [(h0, .inr (2, [.int (-1), .int (-1), .int 0, .int 0, .int (-1), .int 0]))]) (fun _ => []) := by
  refine hn_of (by decide) rfl (Nat.le_of_ble_eq_true rfl) ?_
  intro p e s m args below meth c ls A C0 hK hP hD hS hl
  obtain ⟨hx, hb, hr, hml, hown, hts, hlk, hA, hN, hin⟩ := id C0
  have hl : lv_has ls 1 [(0, .ref h0)] := hl
  refine lv_aload_n hx hb dX2_init_0 rfl (lv_at hl 0 rfl) ?_
  refine hn_obj C0 hm_12 hm_2 hm_3 hl.1 dX2_init_1 (Nat.le_of_ble_eq_true rfl) (Nat.le_of_ble_eq_true rfl) ?_
  refine lv_aload_n hx hb dX2_init_4 rfl (lv_at hl 0 rfl) ?_
  refine lv_iconst (v := -1) hx hb dX2_init_5 (by decide) ?_
  refine va_put (D := D) (ci := 2) (v := .int (-1)) (ty := .int) (C := RX2) (T := TX2) (N := 6) hx hb hts hh_uX2 tyX2 tyX2_ok nmX2 hown hK hP hD hS 0 rfl rfl 0 (by decide) (hts _ hm_13) (fun _ h9 => h9) rfl (by decide +kernel) rfl rfl (Nat.le_of_ble_eq_true rfl) dX2_init_6 (fun H locs hP hD hS => ?_)
  have hP : va_P D hh_cl [(h0, .inr (2, [.int (-1), .int 0, .int 0, .int 0, .int 0, .int 0]))] H := hP
  have hD : va_D A [(h0, .inr (2, [.int (-1), .int 0, .int 0, .int 0, .int 0, .int 0]))] := hD
  refine lv_aload_n hx hb dX2_init_9 rfl (lv_at hl 0 rfl) ?_
  refine lv_iconst (v := -1) hx hb dX2_init_10 (by decide) ?_
  refine va_put (D := D) (ci := 2) (v := .int (-1)) (ty := .int) (C := RX2) (T := TX2) (N := 6) hx hb hts hh_uX2 tyX2 tyX2_ok nmX2 hown hK hP hD hS 0 rfl rfl 1 (by decide) (hts _ hm_14) (fun _ h9 => h9) rfl (by decide +kernel) rfl rfl (Nat.le_of_ble_eq_true rfl) dX2_init_11 (fun H locs hP hD hS => ?_)
  have hP : va_P D hh_cl [(h0, .inr (2, [.int (-1), .int (-1), .int 0, .int 0, .int 0, .int 0]))] H := hP
  have hD : va_D A [(h0, .inr (2, [.int (-1), .int (-1), .int 0, .int 0, .int 0, .int 0]))] := hD
  refine lv_aload_n hx hb dX2_init_14 rfl (lv_at hl 0 rfl) ?_
  refine lv_iconst (v := -1) hx hb dX2_init_15 (by decide) ?_
  refine va_put (D := D) (ci := 2) (v := .int (-1)) (ty := .int) (C := RX2) (T := TX2) (N := 6) hx hb hts hh_uX2 tyX2 tyX2_ok nmX2 hown hK hP hD hS 0 rfl rfl 4 (by decide) (hts _ hm_15) (fun _ h9 => h9) rfl (by decide +kernel) rfl rfl (Nat.le_of_ble_eq_true rfl) dX2_init_16 (fun H locs hP hD hS => ?_)
  have hP : va_P D hh_cl [(h0, .inr (2, [.int (-1), .int (-1), .int 0, .int 0, .int (-1), .int 0]))] H := hP
  have hD : va_D A [(h0, .inr (2, [.int (-1), .int (-1), .int 0, .int 0, .int (-1), .int 0]))] := hD
  exact hn_vret (u := ()) C0 hP hD hK hS dX2_init_19 trivial
set_option maxHeartbeats 4000000 in
set_option maxRecDepth 100000 in
theorem hn_X1 (l : Launch) (D : va_G) (h0 : Nat) : hn_K l D yX1_init (hh_wm yX1_init cX1_init 1 none) { frames := 1, cells := 0, slots := 0, locals := 12 } [.ref h0] [(h0, .inr (1, [.int 0, .int 0, .int 0, .int 0, .int 0, .int 0, .int 0, .int 0, .int 0, .int 0, .int 0, .int 0, .int 0]))] 0 0 (fun _ : Unit => True) (fun _ => [(h0, .inr (1, [.int 0, .int 0, .int 0, .int 0, .int 0, .int (-1), .int (-1), .int (-1), .int (-1), .int 0, .int 0, .int 0, .int 0]))]) (fun _ => []) := by
  refine hn_of (by decide) rfl (Nat.le_of_ble_eq_true rfl) ?_
  intro p e s m args below meth c ls A C0 hK hP hD hS hl
  obtain ⟨hx, hb, hr, hml, hown, hts, hlk, hA, hN, hin⟩ := id C0
  have hl : lv_has ls 1 [(0, .ref h0)] := hl
  refine lv_aload_n hx hb dX1_init_0 rfl (lv_at hl 0 rfl) ?_
  refine hn_obj C0 hm_33 hm_2 hm_3 hl.1 dX1_init_1 (Nat.le_of_ble_eq_true rfl) (Nat.le_of_ble_eq_true rfl) ?_
  refine lv_aload_n hx hb dX1_init_4 rfl (lv_at hl 0 rfl) ?_
  refine lv_iconst (v := -1) hx hb dX1_init_5 (by decide) ?_
  refine va_put (D := D) (ci := 1) (v := .int (-1)) (ty := .int) (C := RX1) (T := TX1) (N := 13) hx hb hts hh_uX1 tyX1 tyX1_ok nmX1 hown hK hP hD hS 0 rfl rfl 5 (by decide) (hts _ hm_34) (fun _ h9 => h9) rfl (by decide +kernel) rfl rfl (Nat.le_of_ble_eq_true rfl) dX1_init_6 (fun H locs hP hD hS => ?_)
  have hP : va_P D hh_cl [(h0, .inr (1, [.int 0, .int 0, .int 0, .int 0, .int 0, .int (-1), .int 0, .int 0, .int 0, .int 0, .int 0, .int 0, .int 0]))] H := hP
  have hD : va_D A [(h0, .inr (1, [.int 0, .int 0, .int 0, .int 0, .int 0, .int (-1), .int 0, .int 0, .int 0, .int 0, .int 0, .int 0, .int 0]))] := hD
  refine lv_aload_n hx hb dX1_init_9 rfl (lv_at hl 0 rfl) ?_
  refine lv_iconst (v := -1) hx hb dX1_init_10 (by decide) ?_
  refine va_put (D := D) (ci := 1) (v := .int (-1)) (ty := .int) (C := RX1) (T := TX1) (N := 13) hx hb hts hh_uX1 tyX1 tyX1_ok nmX1 hown hK hP hD hS 0 rfl rfl 6 (by decide) (hts _ hm_35) (fun _ h9 => h9) rfl (by decide +kernel) rfl rfl (Nat.le_of_ble_eq_true rfl) dX1_init_11 (fun H locs hP hD hS => ?_)
  have hP : va_P D hh_cl [(h0, .inr (1, [.int 0, .int 0, .int 0, .int 0, .int 0, .int (-1), .int (-1), .int 0, .int 0, .int 0, .int 0, .int 0, .int 0]))] H := hP
  have hD : va_D A [(h0, .inr (1, [.int 0, .int 0, .int 0, .int 0, .int 0, .int (-1), .int (-1), .int 0, .int 0, .int 0, .int 0, .int 0, .int 0]))] := hD
  refine lv_aload_n hx hb dX1_init_14 rfl (lv_at hl 0 rfl) ?_
  refine lv_iconst (v := -1) hx hb dX1_init_15 (by decide) ?_
  refine va_put (D := D) (ci := 1) (v := .int (-1)) (ty := .int) (C := RX1) (T := TX1) (N := 13) hx hb hts hh_uX1 tyX1 tyX1_ok nmX1 hown hK hP hD hS 0 rfl rfl 7 (by decide) (hts _ hm_36) (fun _ h9 => h9) rfl (by decide +kernel) rfl rfl (Nat.le_of_ble_eq_true rfl) dX1_init_16 (fun H locs hP hD hS => ?_)
  have hP : va_P D hh_cl [(h0, .inr (1, [.int 0, .int 0, .int 0, .int 0, .int 0, .int (-1), .int (-1), .int (-1), .int 0, .int 0, .int 0, .int 0, .int 0]))] H := hP
  have hD : va_D A [(h0, .inr (1, [.int 0, .int 0, .int 0, .int 0, .int 0, .int (-1), .int (-1), .int (-1), .int 0, .int 0, .int 0, .int 0, .int 0]))] := hD
  refine lv_aload_n hx hb dX1_init_19 rfl (lv_at hl 0 rfl) ?_
  refine lv_iconst (v := -1) hx hb dX1_init_20 (by decide) ?_
  refine va_put (D := D) (ci := 1) (v := .int (-1)) (ty := .int) (C := RX1) (T := TX1) (N := 13) hx hb hts hh_uX1 tyX1 tyX1_ok nmX1 hown hK hP hD hS 0 rfl rfl 8 (by decide) (hts _ hm_37) (fun _ h9 => h9) rfl (by decide +kernel) rfl rfl (Nat.le_of_ble_eq_true rfl) dX1_init_21 (fun H locs hP hD hS => ?_)
  have hP : va_P D hh_cl [(h0, .inr (1, [.int 0, .int 0, .int 0, .int 0, .int 0, .int (-1), .int (-1), .int (-1), .int (-1), .int 0, .int 0, .int 0, .int 0]))] H := hP
  have hD : va_D A [(h0, .inr (1, [.int 0, .int 0, .int 0, .int 0, .int 0, .int (-1), .int (-1), .int (-1), .int (-1), .int 0, .int 0, .int 0, .int 0]))] := hD
  exact hn_vret (u := ()) C0 hP hD hK hS dX1_init_24 trivial
set_option maxHeartbeats 4000000 in
set_option maxRecDepth 100000 in
theorem hn_X3 (l : Launch) (D : va_G) (h0 : Nat) : hn_K l D yX3_init (hh_wm yX3_init cX3_init 1 none) { frames := 1, cells := 0, slots := 0, locals := 12 } [.ref h0] [(h0, .inr (3, [.int 0, .int 0, .int 0, .int 0, .int 0, .int 0, .int 0]))] 0 0 (fun _ : Unit => True) (fun _ => [(h0, .inr (3, [.int 0, .int 0, .int 0, .int 0, .int 0, .int 0, .int 0]))]) (fun _ => []) := by
  refine hn_of (by decide) rfl (Nat.le_of_ble_eq_true rfl) ?_
  intro p e s m args below meth c ls A C0 hK hP hD hS hl
  obtain ⟨hx, hb, hr, hml, hown, hts, hlk, hA, hN, hin⟩ := id C0
  have hl : lv_has ls 1 [(0, .ref h0)] := hl
  refine lv_aload_n hx hb dX3_init_0 rfl (lv_at hl 0 rfl) ?_
  refine hn_obj C0 hm_54 hm_2 hm_3 hl.1 dX3_init_1 (Nat.le_of_ble_eq_true rfl) (Nat.le_of_ble_eq_true rfl) ?_
  exact hn_vret (u := ()) C0 hP hD hK hS dX3_init_4 trivial
set_option maxHeartbeats 4000000 in
set_option maxRecDepth 100000 in
theorem hn_X0 (l : Launch) (D : va_G) (h0 : Nat) : hn_K l D yX0_init (hh_wm yX0_init cX0_init 1 none) { frames := 2, cells := 2, slots := 12, locals := 32 } [.ref h0] [(h0, .inr (0, [.null, .null, .int 0, .int 0, .int 0, .int 0, .int 0]))] 2 12 (fun _ : Nat × Nat => True) (fun u => [(h0, .inr (0, [.ref u.1, .ref u.2, .int 0, .int 0, .int 0, .int 0, .int 0])), (u.1, .inr (2, [.int (-1), .int (-1), .int 0, .int 0, .int (-1), .int 0])), (u.2, .inr (2, [.int (-1), .int (-1), .int 0, .int 0, .int (-1), .int 0]))]) (fun _ => []) := by
  refine hn_of (by decide) rfl (Nat.le_of_ble_eq_true rfl) ?_
  intro p e s m args below meth c ls A C0 hK hP hD hS hl
  obtain ⟨hx, hb, hr, hml, hown, hts, hlk, hA, hN, hin⟩ := id C0
  have hl : lv_has ls 1 [(0, .ref h0)] := hl
  refine lv_aload_n hx hb dX0_init_0 rfl (lv_at hl 0 rfl) ?_
  refine hn_obj C0 hm_1 hm_2 hm_3 hl.1 dX0_init_1 (Nat.le_of_ble_eq_true rfl) (Nat.le_of_ble_eq_true rfl) ?_
  refine lv_aload_n hx hb dX0_init_4 rfl (lv_at hl 0 rfl) ?_
  refine va_new (ci := 2) (fs := [.int 0, .int 0, .int 0, .int 0, .int 0, .int 0]) (C := RX2) (T := TX2) (N := 6) hx hb hts hh_uX2 tyX2 tyX2_ok hown (hts _ hm_4) (hts _ hm_5) (hts _ hm_6) hK hP hD hS hA rfl (fun j hj => by rcases (show j = 0 ∨ j = 1 ∨ j = 2 ∨ j = 3 ∨ j = 4 ∨ j = 5 by omega) with rfl | rfl | rfl | rfl | rfl | rfl <;> rfl) (by decide) (by decide) dX0_init_5 (fun q5 H hP hD hS => ?_)
  have hP : va_P D hh_cl [(h0, .inr (0, [.null, .null, .int 0, .int 0, .int 0, .int 0, .int 0])), (q5, .inr (2, [.int 0, .int 0, .int 0, .int 0, .int 0, .int 0]))] H := hP
  have hD : va_D A [(h0, .inr (0, [.null, .null, .int 0, .int 0, .int 0, .int 0, .int 0])), (q5, .inr (2, [.int 0, .int 0, .int 0, .int 0, .int 0, .int 0]))] := hD
  refine W.widen (k := 1) (n := 6) (by omega) (by omega) ?_
  refine lv_dup hx hb dX0_init_8 rfl ?_
  refine hn_cN C0 (As := []) (rest := [.ref q5, .ref h0]) (n := 0) (wc := [(q5, .inr (2, [.int 0, .int 0, .int 0, .int 0, .int 0, .int 0]))]) (wr := [(h0, .inr (0, [.null, .null, .int 0, .int 0, .int 0, .int 0, .int 0]))]) (hn_X2 l D q5) hK hP hD hS [1] [0] rfl rfl (by decide) (by decide) (by decide) hm_11 hm_6 hN.2.2.2.2.2.2.2.1 hm_10 rfl (by decide +kernel) ⟨rfl, rfl⟩ ⟨Nat.le_of_ble_eq_true rfl, Nat.le_of_ble_eq_true rfl⟩ ⟨Nat.le_of_ble_eq_true rfl, Nat.le_of_ble_eq_true rfl⟩ rfl hl.1 rfl (Nat.le_of_ble_eq_true rfl) dX0_init_9 (fun u H locs hw hP hD hK9 hS => ?_)
  have hP : va_P D hh_cl [(h0, .inr (0, [.null, .null, .int 0, .int 0, .int 0, .int 0, .int 0])), (q5, .inr (2, [.int (-1), .int (-1), .int 0, .int 0, .int (-1), .int 0]))] H := hP
  have hD : va_D A [(h0, .inr (0, [.null, .null, .int 0, .int 0, .int 0, .int 0, .int 0])), (q5, .inr (2, [.int (-1), .int (-1), .int 0, .int 0, .int (-1), .int 0]))] := hD
  refine va_putF (D := D) (ci := 0) (v := .ref q5) (ty := .object "Handoverhouse$Leg") (C := RX0) (T := TX0) (N := 7) hx hb hts hh_uX0 tyX0 tyX0_ok nmX0 hown hK hP hD hS 0 rfl rfl 0 (by decide) (hts _ hm_7) (fun _ h9 => h9) rfl hin rfl (by decide +kernel) rfl rfl (Nat.le_of_ble_eq_true rfl) dX0_init_12 (fun H locs hP hD hS => ?_)
  have hP : va_P D hh_cl [(h0, .inr (0, [.ref q5, .null, .int 0, .int 0, .int 0, .int 0, .int 0])), (q5, .inr (2, [.int (-1), .int (-1), .int 0, .int 0, .int (-1), .int 0]))] H := hP
  have hD : va_D A [(h0, .inr (0, [.ref q5, .null, .int 0, .int 0, .int 0, .int 0, .int 0])), (q5, .inr (2, [.int (-1), .int (-1), .int 0, .int 0, .int (-1), .int 0]))] := hD
  refine lv_aload_n hx hb dX0_init_15 rfl (lv_at hl 0 rfl) ?_
  refine va_new (ci := 2) (fs := [.int 0, .int 0, .int 0, .int 0, .int 0, .int 0]) (C := RX2) (T := TX2) (N := 6) hx hb hts hh_uX2 tyX2 tyX2_ok hown (hts _ hm_4) (hts _ hm_5) (hts _ hm_6) hK hP hD hS hA rfl (fun j hj => by rcases (show j = 0 ∨ j = 1 ∨ j = 2 ∨ j = 3 ∨ j = 4 ∨ j = 5 by omega) with rfl | rfl | rfl | rfl | rfl | rfl <;> rfl) (by decide) (by decide) dX0_init_16 (fun q16 H hP hD hS => ?_)
  have hP : va_P D hh_cl [(h0, .inr (0, [.ref q5, .null, .int 0, .int 0, .int 0, .int 0, .int 0])), (q5, .inr (2, [.int (-1), .int (-1), .int 0, .int 0, .int (-1), .int 0])), (q16, .inr (2, [.int 0, .int 0, .int 0, .int 0, .int 0, .int 0]))] H := hP
  have hD : va_D A [(h0, .inr (0, [.ref q5, .null, .int 0, .int 0, .int 0, .int 0, .int 0])), (q5, .inr (2, [.int (-1), .int (-1), .int 0, .int 0, .int (-1), .int 0])), (q16, .inr (2, [.int 0, .int 0, .int 0, .int 0, .int 0, .int 0]))] := hD
  refine W.widen (k := 2) (n := 12) (by omega) (by omega) ?_
  refine lv_dup hx hb dX0_init_19 rfl ?_
  refine hn_cN C0 (As := []) (rest := [.ref q16, .ref h0]) (n := 0) (wc := [(q16, .inr (2, [.int 0, .int 0, .int 0, .int 0, .int 0, .int 0]))]) (wr := [(h0, .inr (0, [.ref q5, .null, .int 0, .int 0, .int 0, .int 0, .int 0])), (q5, .inr (2, [.int (-1), .int (-1), .int 0, .int 0, .int (-1), .int 0]))]) (hn_X2 l D q16) hK hP hD hS [2] [0, 1] rfl rfl (by decide) (by decide) (by decide) hm_11 hm_6 hN.2.2.2.2.2.2.2.1 hm_10 rfl (by decide +kernel) ⟨rfl, rfl⟩ ⟨Nat.le_of_ble_eq_true rfl, Nat.le_of_ble_eq_true rfl⟩ ⟨Nat.le_of_ble_eq_true rfl, Nat.le_of_ble_eq_true rfl⟩ rfl hl.1 rfl (Nat.le_of_ble_eq_true rfl) dX0_init_20 (fun u H locs hw hP hD hK9 hS => ?_)
  have hP : va_P D hh_cl [(h0, .inr (0, [.ref q5, .null, .int 0, .int 0, .int 0, .int 0, .int 0])), (q5, .inr (2, [.int (-1), .int (-1), .int 0, .int 0, .int (-1), .int 0])), (q16, .inr (2, [.int (-1), .int (-1), .int 0, .int 0, .int (-1), .int 0]))] H := hP
  have hD : va_D A [(h0, .inr (0, [.ref q5, .null, .int 0, .int 0, .int 0, .int 0, .int 0])), (q5, .inr (2, [.int (-1), .int (-1), .int 0, .int 0, .int (-1), .int 0])), (q16, .inr (2, [.int (-1), .int (-1), .int 0, .int 0, .int (-1), .int 0]))] := hD
  refine va_putF (D := D) (ci := 0) (v := .ref q16) (ty := .object "Handoverhouse$Leg") (C := RX0) (T := TX0) (N := 7) hx hb hts hh_uX0 tyX0 tyX0_ok nmX0 hown hK hP hD hS 0 rfl rfl 1 (by decide) (hts _ hm_8) (fun _ h9 => h9) rfl hin rfl (by decide +kernel) rfl rfl (Nat.le_of_ble_eq_true rfl) dX0_init_23 (fun H locs hP hD hS => ?_)
  have hP : va_P D hh_cl [(h0, .inr (0, [.ref q5, .ref q16, .int 0, .int 0, .int 0, .int 0, .int 0])), (q5, .inr (2, [.int (-1), .int (-1), .int 0, .int 0, .int (-1), .int 0])), (q16, .inr (2, [.int (-1), .int (-1), .int 0, .int 0, .int (-1), .int 0]))] H := hP
  have hD : va_D A [(h0, .inr (0, [.ref q5, .ref q16, .int 0, .int 0, .int 0, .int 0, .int 0])), (q5, .inr (2, [.int (-1), .int (-1), .int 0, .int 0, .int (-1), .int 0])), (q16, .inr (2, [.int (-1), .int (-1), .int 0, .int 0, .int (-1), .int 0]))] := hD
  refine lv_aload_n hx hb dX0_init_26 rfl (lv_at hl 0 rfl) ?_
  refine lv_iconst (v := 0) hx hb dX0_init_27 (by decide) ?_
  refine va_put (D := D) (ci := 0) (v := .int 0) (ty := .int) (C := RX0) (T := TX0) (N := 7) hx hb hts hh_uX0 tyX0 tyX0_ok nmX0 hown hK hP hD hS 0 rfl rfl 6 (by decide) (hts _ hm_9) (fun _ h9 => h9) rfl (by decide +kernel) rfl rfl (Nat.le_of_ble_eq_true rfl) dX0_init_28 (fun H locs hP hD hS => ?_)
  have hP : va_P D hh_cl [(h0, .inr (0, [.ref q5, .ref q16, .int 0, .int 0, .int 0, .int 0, .int 0])), (q5, .inr (2, [.int (-1), .int (-1), .int 0, .int 0, .int (-1), .int 0])), (q16, .inr (2, [.int (-1), .int (-1), .int 0, .int 0, .int (-1), .int 0]))] H := hP
  have hD : va_D A [(h0, .inr (0, [.ref q5, .ref q16, .int 0, .int 0, .int 0, .int 0, .int 0])), (q5, .inr (2, [.int (-1), .int (-1), .int 0, .int 0, .int (-1), .int 0])), (q16, .inr (2, [.int (-1), .int (-1), .int 0, .int 0, .int (-1), .int 0]))] := hD
  exact hn_vret (u := (q5, q16)) C0 hP hD hK hS dX0_init_31 trivial
