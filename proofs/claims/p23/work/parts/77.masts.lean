/-! the reference is made, and is told two masts (wip/gen/mku.py) -/
set_option maxHeartbeats 4000000 in
set_option maxRecDepth 100000 in
/-- a list is made -/
theorem hr_Jxa1e45_init_da8c8 (l : Launch) (D : va_G) (z b : Nat) : hr_Kv l D z yJxa1e45_init_da8c8 (hr_wm yJxa1e45_init_da8c8 cJxa1e45_init_da8c8 1 none) { frames := 1, cells := 0, slots := 0, locals := 13 } [.ref b] [(b, .inr (0, [.int 0, .null, .int 0]))] 0 0 (fun (_ : Unit) => True) (fun _ => [(b, .inr (0, [.int 0, .null, .int 0]))]) := by
  refine hr_Kv_of (by decide) (Nat.le_of_ble_eq_true rfl) ?_
  intro p e s m args below meth c ls A C0 hp hl
  obtain ⟨hx, hb, hr9, hml, hown, hts, hK, hlk, hA, hN, hnm9⟩ := id C0
  have hl : lv_has ls 1 [(0, .ref b)] := hl
  refine lv_aload_n hx hb dJxa1e45_init_da8c8_0 rfl (lv_at hl 0 rfl) ?_
  refine hr_obj C0 hw_39 hw_2 hw_3 hl.1 dJxa1e45_init_da8c8_1 (Nat.le_of_ble_eq_true rfl) (Nat.le_of_ble_eq_true rfl) ?_
  exact hr_vret () C0 hp rfl ⟨Nat.le_of_ble_eq_true rfl, Nat.le_of_ble_eq_true rfl⟩ dJxa1e45_init_da8c8_4 trivial
set_option maxHeartbeats 4000000 in
set_option maxRecDepth 100000 in
/-- a list is made -/
theorem hr_Jxc12de_init_da8c8 (l : Launch) (D : va_G) (z b : Nat) : hr_Kv l D z yJxc12de_init_da8c8 (hr_wm yJxc12de_init_da8c8 cJxc12de_init_da8c8 1 none) { frames := 2, cells := 0, slots := 0, locals := 33 } [.ref b] [(b, .inr (0, [.int 0, .null, .int 0]))] 0 0 (fun (_ : Unit) => True) (fun _ => [(b, .inr (0, [.int 0, .null, .int 0]))]) := by
  refine hr_Kv_of (by decide) (Nat.le_of_ble_eq_true rfl) ?_
  intro p e s m args below meth c ls A C0 hp hl
  obtain ⟨hx, hb, hr9, hml, hown, hts, hK, hlk, hA, hN, hnm9⟩ := id C0
  have hl : lv_has ls 1 [(0, .ref b)] := hl
  refine lv_aload_n hx hb dJxc12de_init_da8c8_0 rfl (lv_at hl 0 rfl) ?_
  refine hr_cIv C0 hp (rest := []) (n := 0) [] (hr_Jxa1e45_init_da8c8 l D z b) rfl hw_38 hw_37 hw_35 hw_36 rfl ⟨rfl, rfl⟩ (by decide +kernel) ⟨Nat.le_of_ble_eq_true rfl, Nat.le_of_ble_eq_true rfl⟩ ⟨Nat.le_of_ble_eq_true rfl, Nat.le_of_ble_eq_true rfl⟩ hl.1 rfl rfl (Nat.le_of_ble_eq_true rfl) dJxc12de_init_da8c8_1 (fun u_1 H locs hv_1 hp => ?_)
  have hp : hr_H D A s.heap [(b, .inr (0, [.int 0, .null, .int 0]))] H _ := hp
  refine lv_aload_n hx hb dJxc12de_init_da8c8_4 rfl (lv_at hl 0 rfl) ?_
  refine lv_iconst (v := 0) hx hb dJxc12de_init_da8c8_5 (by decide) ?_
  refine hr_put C0 hp (q0 := 0) (C := RJx4a65c) (T := TJx4a65c) (N := 3) (ci := 0) (ty0 := tyJx4a65c) (ty := .int) (Y' := [(b, .inr (0, [.int 0, .null, .int 0]))]) rfl rfl hr_uJx4a65c tyJx4a65c_ok nmJx4a65c 0 (by decide) hw_34 (fun _ h9 => h9) rfl (by decide +kernel) rfl rfl (Nat.le_of_ble_eq_true rfl) rfl dJxc12de_init_da8c8_6 (fun H locs hp => ?_)
  exact hr_vret () C0 hp rfl ⟨Nat.le_of_ble_eq_true rfl, Nat.le_of_ble_eq_true rfl⟩ dJxc12de_init_da8c8_9 trivial
set_option maxHeartbeats 4000000 in
set_option maxRecDepth 100000 in
/-- a list is made -/
theorem hr_Jx4a65c_init_da8c8 (l : Launch) (D : va_G) (z b : Nat) : hr_Kv l D z yJx4a65c_init_da8c8 (hr_wm yJx4a65c_init_da8c8 cJx4a65c_init_da8c8 1 none) { frames := 3, cells := 0, slots := 0, locals := 53 } [.ref b] [(b, .inr (0, [.int 0, .null, .int 0]))] 0 0 (fun (_ : Unit) => True) (fun _ => [(b, .inr (0, [.int 0, .ref z, .int 0]))]) := by
  refine hr_Kv_of (by decide) (Nat.le_of_ble_eq_true rfl) ?_
  intro p e s m args below meth c ls A C0 hp hl
  obtain ⟨hx, hb, hr9, hml, hown, hts, hK, hlk, hA, hN, hnm9⟩ := id C0
  have hl : lv_has ls 1 [(0, .ref b)] := hl
  refine lv_aload_n hx hb dJx4a65c_init_da8c8_0 rfl (lv_at hl 0 rfl) ?_
  refine hr_cIv C0 hp (rest := []) (n := 0) [] (hr_Jxc12de_init_da8c8 l D z b) rfl hw_33 hw_32 hw_30 hw_31 rfl ⟨rfl, rfl⟩ (by decide +kernel) ⟨Nat.le_of_ble_eq_true rfl, Nat.le_of_ble_eq_true rfl⟩ ⟨Nat.le_of_ble_eq_true rfl, Nat.le_of_ble_eq_true rfl⟩ hl.1 rfl rfl (Nat.le_of_ble_eq_true rfl) dJx4a65c_init_da8c8_1 (fun u_1 H locs hv_1 hp => ?_)
  have hp : hr_H D A s.heap [(b, .inr (0, [.int 0, .null, .int 0]))] H _ := hp
  refine lv_aload_n hx hb dJx4a65c_init_da8c8_4 rfl (lv_at hl 0 rfl) ?_
  refine hr_gets C0 hp hw_28 dJx4a65c_init_da8c8_5 ?_
  refine hr_put C0 hp (q0 := 0) (C := RJx4a65c) (T := TJx4a65c) (N := 3) (ci := 0) (ty0 := tyJx4a65c) (ty := (.array (.object "java/lang/Object"))) (Y' := [(b, .inr (0, [.int 0, .ref z, .int 0]))]) rfl rfl hr_uJx4a65c tyJx4a65c_ok nmJx4a65c 1 (by decide) hw_29 (fun _ h9 => h9) rfl (by decide +kernel) rfl rfl (Nat.le_of_ble_eq_true rfl) rfl dJx4a65c_init_da8c8_8 (fun H locs hp => ?_)
  exact hr_vret () C0 hp rfl ⟨Nat.le_of_ble_eq_true rfl, Nat.le_of_ble_eq_true rfl⟩ dJx4a65c_init_da8c8_11 trivial
set_option maxHeartbeats 4000000 in
set_option maxRecDepth 100000 in
/-- Road() -/
theorem hr_X11_init (l : Launch) (D : va_G) (z b : Nat) : hr_Kv l D z yX11_init (hr_wm yX11_init cX11_init 1 none) { frames := 4, cells := 4, slots := 12, locals := 73 } [.ref b] [(b, .inr (1, [.null, .null, .null, .null, .int 0]))] 4 12 (fun (a : Nat → Nat) => a 1 = b) (fun a => [((a 1), .inr (1, [.ref (a 2), .ref (a 3), .ref (a 4), .ref (a 5), .int 0])), ((a 2), .inr (0, [.int 0, .ref z, .int 0])), ((a 3), .inr (0, [.int 0, .ref z, .int 0])), ((a 4), .inr (0, [.int 0, .ref z, .int 0])), ((a 5), .inr (0, [.int 0, .ref z, .int 0]))]) := by
  refine hr_Kv_of (by decide) (Nat.le_of_ble_eq_true rfl) ?_
  intro p e s m args below meth c ls A C0 hp hl
  obtain ⟨hx, hb, hr9, hml, hown, hts, hK, hlk, hA, hN, hnm9⟩ := id C0
  have hl : lv_has ls 1 [(0, .ref b)] := hl
  refine lv_aload_n hx hb dX11_init_0 rfl (lv_at hl 0 rfl) ?_
  refine hr_obj C0 hw_17 hw_2 hw_3 hl.1 dX11_init_1 (Nat.le_of_ble_eq_true rfl) (Nat.le_of_ble_eq_true rfl) ?_
  refine lv_aload_n hx hb dX11_init_4 rfl (lv_at hl 0 rfl) ?_
  refine hr_new C0 hp (ci := 0) (fs := [.int 0, .null, .int 0]) (C := RJx4a65c) (T := TJx4a65c) (N := 3) (ty0 := tyJx4a65c) rfl hr_uJx4a65c tyJx4a65c_ok hw_18 hw_19 hw_20 (fun j hj => by rcases (show j = 0 ∨ j = 1 ∨ j = 2 by omega) with rfl | rfl | rfl <;> rfl) (Nat.le_of_ble_eq_true rfl) (Nat.le_of_ble_eq_true rfl) dX11_init_5 (fun q_5 H hp => ?_)
  have hp : hr_H D A s.heap [(b, .inr (1, [.null, .null, .null, .null, .int 0])), (q_5, .inr (0, [.int 0, .null, .int 0]))] H _ := hp
  refine W.widen (k := 1) (n := 3) (by decide) (by decide) ?_
  refine lv_dup hx hb dX11_init_8 rfl ?_
  have hp := hr_perm (Y' := [(q_5, .inr (0, [.int 0, .null, .int 0])), (b, .inr (1, [.null, .null, .null, .null, .int 0]))]) [1, 0] (by decide) rfl hp
  refine hr_cIv C0 hp (rest := [.ref q_5, .ref b]) (n := 0) [(b, .inr (1, [.null, .null, .null, .null, .int 0]))] (hr_Jx4a65c_init_da8c8 l D z q_5) rfl hw_27 hw_20 hw_25 hw_26 rfl ⟨rfl, rfl⟩ (by decide +kernel) ⟨Nat.le_of_ble_eq_true rfl, Nat.le_of_ble_eq_true rfl⟩ ⟨Nat.le_of_ble_eq_true rfl, Nat.le_of_ble_eq_true rfl⟩ hl.1 rfl rfl (Nat.le_of_ble_eq_true rfl) dX11_init_9 (fun u_9 H locs hv_9 hp => ?_)
  have hp : hr_H D A s.heap [(q_5, .inr (0, [.int 0, .ref z, .int 0])), (b, .inr (1, [.null, .null, .null, .null, .int 0]))] H _ := hp
  refine hr_putF C0 hp (q0 := 1) (C := RX11) (T := TX11) (N := 5) (ci := 1) (ty0 := tyX11) (ty := (.object "java/util/ArrayList")) (Y' := [(q_5, .inr (0, [.int 0, .ref z, .int 0])), (b, .inr (1, [.ref q_5, .null, .null, .null, .int 0]))]) rfl rfl hr_uX11 tyX11_ok nmX11 0 (by decide) hw_21 (fun _ h9 => h9) rfl rfl rfl (by decide +kernel) rfl rfl (Nat.le_of_ble_eq_true rfl) rfl dX11_init_12 (fun H locs hp => ?_)
  refine lv_aload_n hx hb dX11_init_15 rfl (lv_at hl 0 rfl) ?_
  refine hr_new C0 hp (ci := 0) (fs := [.int 0, .null, .int 0]) (C := RJx4a65c) (T := TJx4a65c) (N := 3) (ty0 := tyJx4a65c) rfl hr_uJx4a65c tyJx4a65c_ok hw_18 hw_19 hw_20 (fun j hj => by rcases (show j = 0 ∨ j = 1 ∨ j = 2 by omega) with rfl | rfl | rfl <;> rfl) (Nat.le_of_ble_eq_true rfl) (Nat.le_of_ble_eq_true rfl) dX11_init_16 (fun q_16 H hp => ?_)
  have hp : hr_H D A s.heap [(q_5, .inr (0, [.int 0, .ref z, .int 0])), (b, .inr (1, [.ref q_5, .null, .null, .null, .int 0])), (q_16, .inr (0, [.int 0, .null, .int 0]))] H _ := hp
  refine W.widen (k := 2) (n := 6) (by decide) (by decide) ?_
  refine lv_dup hx hb dX11_init_19 rfl ?_
  have hp := hr_perm (Y' := [(q_16, .inr (0, [.int 0, .null, .int 0])), (q_5, .inr (0, [.int 0, .ref z, .int 0])), (b, .inr (1, [.ref q_5, .null, .null, .null, .int 0]))]) [2, 0, 1] (by decide) rfl hp
  refine hr_cIv C0 hp (rest := [.ref q_16, .ref b]) (n := 0) [(q_5, .inr (0, [.int 0, .ref z, .int 0])), (b, .inr (1, [.ref q_5, .null, .null, .null, .int 0]))] (hr_Jx4a65c_init_da8c8 l D z q_16) rfl hw_27 hw_20 hw_25 hw_26 rfl ⟨rfl, rfl⟩ (by decide +kernel) ⟨Nat.le_of_ble_eq_true rfl, Nat.le_of_ble_eq_true rfl⟩ ⟨Nat.le_of_ble_eq_true rfl, Nat.le_of_ble_eq_true rfl⟩ hl.1 rfl rfl (Nat.le_of_ble_eq_true rfl) dX11_init_20 (fun u_20 H locs hv_20 hp => ?_)
  have hp : hr_H D A s.heap [(q_16, .inr (0, [.int 0, .ref z, .int 0])), (q_5, .inr (0, [.int 0, .ref z, .int 0])), (b, .inr (1, [.ref q_5, .null, .null, .null, .int 0]))] H _ := hp
  refine hr_putF C0 hp (q0 := 2) (C := RX11) (T := TX11) (N := 5) (ci := 1) (ty0 := tyX11) (ty := (.object "java/util/ArrayList")) (Y' := [(q_16, .inr (0, [.int 0, .ref z, .int 0])), (q_5, .inr (0, [.int 0, .ref z, .int 0])), (b, .inr (1, [.ref q_5, .ref q_16, .null, .null, .int 0]))]) rfl rfl hr_uX11 tyX11_ok nmX11 1 (by decide) hw_22 (fun _ h9 => h9) rfl rfl rfl (by decide +kernel) rfl rfl (Nat.le_of_ble_eq_true rfl) rfl dX11_init_23 (fun H locs hp => ?_)
  refine lv_aload_n hx hb dX11_init_26 rfl (lv_at hl 0 rfl) ?_
  refine hr_new C0 hp (ci := 0) (fs := [.int 0, .null, .int 0]) (C := RJx4a65c) (T := TJx4a65c) (N := 3) (ty0 := tyJx4a65c) rfl hr_uJx4a65c tyJx4a65c_ok hw_18 hw_19 hw_20 (fun j hj => by rcases (show j = 0 ∨ j = 1 ∨ j = 2 by omega) with rfl | rfl | rfl <;> rfl) (Nat.le_of_ble_eq_true rfl) (Nat.le_of_ble_eq_true rfl) dX11_init_27 (fun q_27 H hp => ?_)
  have hp : hr_H D A s.heap [(q_16, .inr (0, [.int 0, .ref z, .int 0])), (q_5, .inr (0, [.int 0, .ref z, .int 0])), (b, .inr (1, [.ref q_5, .ref q_16, .null, .null, .int 0])), (q_27, .inr (0, [.int 0, .null, .int 0]))] H _ := hp
  refine W.widen (k := 3) (n := 9) (by decide) (by decide) ?_
  refine lv_dup hx hb dX11_init_30 rfl ?_
  have hp := hr_perm (Y' := [(q_27, .inr (0, [.int 0, .null, .int 0])), (q_16, .inr (0, [.int 0, .ref z, .int 0])), (q_5, .inr (0, [.int 0, .ref z, .int 0])), (b, .inr (1, [.ref q_5, .ref q_16, .null, .null, .int 0]))]) [3, 0, 1, 2] (by decide) rfl hp
  refine hr_cIv C0 hp (rest := [.ref q_27, .ref b]) (n := 0) [(q_16, .inr (0, [.int 0, .ref z, .int 0])), (q_5, .inr (0, [.int 0, .ref z, .int 0])), (b, .inr (1, [.ref q_5, .ref q_16, .null, .null, .int 0]))] (hr_Jx4a65c_init_da8c8 l D z q_27) rfl hw_27 hw_20 hw_25 hw_26 rfl ⟨rfl, rfl⟩ (by decide +kernel) ⟨Nat.le_of_ble_eq_true rfl, Nat.le_of_ble_eq_true rfl⟩ ⟨Nat.le_of_ble_eq_true rfl, Nat.le_of_ble_eq_true rfl⟩ hl.1 rfl rfl (Nat.le_of_ble_eq_true rfl) dX11_init_31 (fun u_31 H locs hv_31 hp => ?_)
  have hp : hr_H D A s.heap [(q_27, .inr (0, [.int 0, .ref z, .int 0])), (q_16, .inr (0, [.int 0, .ref z, .int 0])), (q_5, .inr (0, [.int 0, .ref z, .int 0])), (b, .inr (1, [.ref q_5, .ref q_16, .null, .null, .int 0]))] H _ := hp
  refine hr_putF C0 hp (q0 := 3) (C := RX11) (T := TX11) (N := 5) (ci := 1) (ty0 := tyX11) (ty := (.object "java/util/ArrayList")) (Y' := [(q_27, .inr (0, [.int 0, .ref z, .int 0])), (q_16, .inr (0, [.int 0, .ref z, .int 0])), (q_5, .inr (0, [.int 0, .ref z, .int 0])), (b, .inr (1, [.ref q_5, .ref q_16, .ref q_27, .null, .int 0]))]) rfl rfl hr_uX11 tyX11_ok nmX11 2 (by decide) hw_23 (fun _ h9 => h9) rfl rfl rfl (by decide +kernel) rfl rfl (Nat.le_of_ble_eq_true rfl) rfl dX11_init_34 (fun H locs hp => ?_)
  refine lv_aload_n hx hb dX11_init_37 rfl (lv_at hl 0 rfl) ?_
  refine hr_new C0 hp (ci := 0) (fs := [.int 0, .null, .int 0]) (C := RJx4a65c) (T := TJx4a65c) (N := 3) (ty0 := tyJx4a65c) rfl hr_uJx4a65c tyJx4a65c_ok hw_18 hw_19 hw_20 (fun j hj => by rcases (show j = 0 ∨ j = 1 ∨ j = 2 by omega) with rfl | rfl | rfl <;> rfl) (Nat.le_of_ble_eq_true rfl) (Nat.le_of_ble_eq_true rfl) dX11_init_38 (fun q_38 H hp => ?_)
  have hp : hr_H D A s.heap [(q_27, .inr (0, [.int 0, .ref z, .int 0])), (q_16, .inr (0, [.int 0, .ref z, .int 0])), (q_5, .inr (0, [.int 0, .ref z, .int 0])), (b, .inr (1, [.ref q_5, .ref q_16, .ref q_27, .null, .int 0])), (q_38, .inr (0, [.int 0, .null, .int 0]))] H _ := hp
  refine W.widen (k := 4) (n := 12) (by decide) (by decide) ?_
  refine lv_dup hx hb dX11_init_41 rfl ?_
  have hp := hr_perm (Y' := [(q_38, .inr (0, [.int 0, .null, .int 0])), (q_27, .inr (0, [.int 0, .ref z, .int 0])), (q_16, .inr (0, [.int 0, .ref z, .int 0])), (q_5, .inr (0, [.int 0, .ref z, .int 0])), (b, .inr (1, [.ref q_5, .ref q_16, .ref q_27, .null, .int 0]))]) [4, 0, 1, 2, 3] (by decide) rfl hp
  refine hr_cIv C0 hp (rest := [.ref q_38, .ref b]) (n := 0) [(q_27, .inr (0, [.int 0, .ref z, .int 0])), (q_16, .inr (0, [.int 0, .ref z, .int 0])), (q_5, .inr (0, [.int 0, .ref z, .int 0])), (b, .inr (1, [.ref q_5, .ref q_16, .ref q_27, .null, .int 0]))] (hr_Jx4a65c_init_da8c8 l D z q_38) rfl hw_27 hw_20 hw_25 hw_26 rfl ⟨rfl, rfl⟩ (by decide +kernel) ⟨Nat.le_of_ble_eq_true rfl, Nat.le_of_ble_eq_true rfl⟩ ⟨Nat.le_of_ble_eq_true rfl, Nat.le_of_ble_eq_true rfl⟩ hl.1 rfl rfl (Nat.le_of_ble_eq_true rfl) dX11_init_42 (fun u_42 H locs hv_42 hp => ?_)
  have hp : hr_H D A s.heap [(q_38, .inr (0, [.int 0, .ref z, .int 0])), (q_27, .inr (0, [.int 0, .ref z, .int 0])), (q_16, .inr (0, [.int 0, .ref z, .int 0])), (q_5, .inr (0, [.int 0, .ref z, .int 0])), (b, .inr (1, [.ref q_5, .ref q_16, .ref q_27, .null, .int 0]))] H _ := hp
  refine hr_putF C0 hp (q0 := 4) (C := RX11) (T := TX11) (N := 5) (ci := 1) (ty0 := tyX11) (ty := (.object "java/util/ArrayList")) (Y' := [(q_38, .inr (0, [.int 0, .ref z, .int 0])), (q_27, .inr (0, [.int 0, .ref z, .int 0])), (q_16, .inr (0, [.int 0, .ref z, .int 0])), (q_5, .inr (0, [.int 0, .ref z, .int 0])), (b, .inr (1, [.ref q_5, .ref q_16, .ref q_27, .ref q_38, .int 0]))]) rfl rfl hr_uX11 tyX11_ok nmX11 3 (by decide) hw_24 (fun _ h9 => h9) rfl rfl rfl (by decide +kernel) rfl rfl (Nat.le_of_ble_eq_true rfl) rfl dX11_init_45 (fun H locs hp => ?_)
  have hp := hr_perm (Y' := [(b, .inr (1, [.ref q_5, .ref q_16, .ref q_27, .ref q_38, .int 0])), (q_5, .inr (0, [.int 0, .ref z, .int 0])), (q_16, .inr (0, [.int 0, .ref z, .int 0])), (q_27, .inr (0, [.int 0, .ref z, .int 0])), (q_38, .inr (0, [.int 0, .ref z, .int 0]))]) [4, 3, 2, 1, 0] (by decide) rfl hp
  exact hr_vret (fun k => match k with | 2 => q_5 | 3 => q_16 | 4 => q_27 | 5 => q_38 | _ => b) C0 hp rfl ⟨Nat.le_of_ble_eq_true rfl, Nat.le_of_ble_eq_true rfl⟩ dX11_init_48 rfl
set_option maxHeartbeats 4000000 in
set_option maxRecDepth 100000 in
/-- HandoverhouseModel() -/
theorem hr_X12_init (l : Launch) (D : va_G) (z b : Nat) : hr_Kv l D z yX12_init (hr_wm yX12_init cX12_init 1 none) { frames := 5, cells := 5, slots := 17, locals := 93 } [.ref b] [(b, .inr (2, [.int 0, .null, .int 0, .int 0]))] 5 17 (fun (a : Nat → Nat) => a 0 = b) (fun a => hr_Y a z 0 0) := by
  refine hr_Kv_of (by decide) (Nat.le_of_ble_eq_true rfl) ?_
  intro p e s m args below meth c ls A C0 hp hl
  obtain ⟨hx, hb, hr9, hml, hown, hts, hK, hlk, hA, hN, hnm9⟩ := id C0
  have hl : lv_has ls 1 [(0, .ref b)] := hl
  refine lv_aload_n hx hb dX12_init_0 rfl (lv_at hl 0 rfl) ?_
  refine hr_obj C0 hw_123 hw_2 hw_3 hl.1 dX12_init_1 (Nat.le_of_ble_eq_true rfl) (Nat.le_of_ble_eq_true rfl) ?_
  refine lv_aload_n hx hb dX12_init_4 rfl (lv_at hl 0 rfl) ?_
  refine hr_new C0 hp (ci := 1) (fs := [.null, .null, .null, .null, .int 0]) (C := RX11) (T := TX11) (N := 5) (ty0 := tyX11) rfl hr_uX11 tyX11_ok hw_124 hw_125 hw_103 (fun j hj => by rcases (show j = 0 ∨ j = 1 ∨ j = 2 ∨ j = 3 ∨ j = 4 by omega) with rfl | rfl | rfl | rfl | rfl <;> rfl) (Nat.le_of_ble_eq_true rfl) (Nat.le_of_ble_eq_true rfl) dX12_init_5 (fun q_5 H hp => ?_)
  have hp : hr_H D A s.heap [(b, .inr (2, [.int 0, .null, .int 0, .int 0])), (q_5, .inr (1, [.null, .null, .null, .null, .int 0]))] H _ := hp
  refine W.widen (k := 1) (n := 5) (by decide) (by decide) ?_
  refine lv_dup hx hb dX12_init_8 rfl ?_
  have hp := hr_perm (Y' := [(q_5, .inr (1, [.null, .null, .null, .null, .int 0])), (b, .inr (2, [.int 0, .null, .int 0, .int 0]))]) [1, 0] (by decide) rfl hp
  refine hr_cJv C0 hp (rest := [.ref q_5, .ref b]) (n := 0) [(b, .inr (2, [.int 0, .null, .int 0, .int 0]))] (hr_X11_init l D z q_5) rfl hw_16 hw_103 hw_127 rfl hN.1.1 ⟨rfl, rfl⟩ (by decide +kernel) ⟨Nat.le_of_ble_eq_true rfl, Nat.le_of_ble_eq_true rfl⟩ ⟨Nat.le_of_ble_eq_true rfl, Nat.le_of_ble_eq_true rfl⟩ hl.1 rfl rfl (Nat.le_of_ble_eq_true rfl) dX12_init_9 (fun u_9 H locs hv_9 hp => ?_)
  have hpn := hp
  subst hv_9
  have hp : hr_H D A s.heap [((u_9 1), .inr (1, [.ref (u_9 2), .ref (u_9 3), .ref (u_9 4), .ref (u_9 5), .int 0])), ((u_9 2), .inr (0, [.int 0, .ref z, .int 0])), ((u_9 3), .inr (0, [.int 0, .ref z, .int 0])), ((u_9 4), .inr (0, [.int 0, .ref z, .int 0])), ((u_9 5), .inr (0, [.int 0, .ref z, .int 0])), (b, .inr (2, [.int 0, .null, .int 0, .int 0]))] H _ := hpn
  refine W.widen (k := 5) (n := 17) (by decide) (by decide) ?_
  refine hr_putF C0 hp (q0 := 5) (C := RX12) (T := TX12) (N := 4) (ci := 2) (ty0 := tyX12) (ty := (.object "HandoverhouseModel$Road")) (Y' := [((u_9 1), .inr (1, [.ref (u_9 2), .ref (u_9 3), .ref (u_9 4), .ref (u_9 5), .int 0])), ((u_9 2), .inr (0, [.int 0, .ref z, .int 0])), ((u_9 3), .inr (0, [.int 0, .ref z, .int 0])), ((u_9 4), .inr (0, [.int 0, .ref z, .int 0])), ((u_9 5), .inr (0, [.int 0, .ref z, .int 0])), (b, .inr (2, [.int 0, .ref (u_9 1), .int 0, .int 0]))]) rfl rfl hr_uX12 tyX12_ok nmX12 1 (by decide) hw_126 (fun _ h9 => h9) rfl rfl rfl (by decide +kernel) rfl rfl (Nat.le_of_ble_eq_true rfl) rfl dX12_init_12 (fun H locs hp => ?_)
  have hp := hr_perm (Y' := [(b, .inr (2, [.int 0, .ref (u_9 1), .int 0, .int 0])), ((u_9 1), .inr (1, [.ref (u_9 2), .ref (u_9 3), .ref (u_9 4), .ref (u_9 5), .int 0])), ((u_9 2), .inr (0, [.int 0, .ref z, .int 0])), ((u_9 3), .inr (0, [.int 0, .ref z, .int 0])), ((u_9 4), .inr (0, [.int 0, .ref z, .int 0])), ((u_9 5), .inr (0, [.int 0, .ref z, .int 0]))]) [5, 0, 1, 2, 3, 4] (by decide) rfl hp
  exact hr_vret (fun k => match k with | 0 => b | 1 => u_9 1 | 2 => u_9 2 | 3 => u_9 3 | 4 => u_9 4 | _ => u_9 5) C0 hp rfl ⟨Nat.le_of_ble_eq_true rfl, Nat.le_of_ble_eq_true rfl⟩ dX12_init_15 rfl
theorem hs_objK {D : va_G} {s : State} {cO cA : ClassId} (h1 : va_K D hr_cl (hs_t cO) s) (h2 : va_K D hr_cl [(cA, .object "java/lang/Object")] s) : cO = cA := by
  have a1 := hn_RA (h1.2 0 (cO, .object "java/lang/Object") rfl).2
  have a2 := hn_RA (h2.2 0 (cA, .object "java/lang/Object") rfl).2
  rw [a1] at a2
  exact Option.some.inj a2
set_option maxHeartbeats 4000000 in
set_option maxRecDepth 100000 in
/-- isIn -/
theorem hs_isIn (l : Launch) (D : va_G) (z : Nat) (tys : List (ClassId × FieldType)) (Y : va_W) (x lo hi : Int32) : hs_Ki l D z tys yX12_isIn (hr_wm yX12_isIn cX12_isIn 3 (some .boolean)) { frames := 0, cells := 0, slots := 0, locals := 0 } [.int x, .int lo, .int hi] Y 0 0 0 (fun (q : Int32) (_ : Unit) => q = hr_in x lo hi) (fun _ => Y) := by
  refine hs_Ki_of (by decide) (Nat.le_of_ble_eq_true rfl) ?_
  intro p e s m args below meth c ls A hAe C0 hKT hp hl
  obtain ⟨hx, hb, hr9, hml, hown, hts, hK, hlk, hA, hN, hnm9⟩ := id C0
  have hl : lv_has ls 3 [(0, .int x), (1, .int lo), (2, .int hi)] := hl
  refine lv_iload_n hx hb dX12_isIn_0 rfl (lv_at hl 0 rfl) ?_
  refine lv_iload_n hx hb dX12_isIn_1 rfl (lv_at hl 1 rfl) ?_
  refine lv_icmp_lt (tgt := 14) hx hb dX12_isIn_2 (by decide) (fun c1 => ?_) (fun c1 => ?_)
  · refine lv_iconst (v := 0) hx hb dX12_isIn_14 (by decide) ?_
    exact hs_zret () C0 hp hp.2.2.1 rfl (Or.inl rfl) ⟨Nat.le_of_ble_eq_true rfl, Nat.le_of_ble_eq_true rfl⟩ dX12_isIn_15 (if_neg (fun h => absurd h.1 (Int32.not_le.mpr c1))).symm
  · refine lv_iload_n hx hb dX12_isIn_5 rfl (lv_at hl 0 rfl) ?_
    refine lv_iload_n hx hb dX12_isIn_6 rfl (lv_at hl 2 rfl) ?_
    refine lv_icmp_gt (tgt := 14) hx hb dX12_isIn_7 (by decide) (fun c2 => ?_) (fun c2 => ?_)
    · refine lv_iconst (v := 0) hx hb dX12_isIn_14 (by decide) ?_
      exact hs_zret () C0 hp hp.2.2.1 rfl (Or.inl rfl) ⟨Nat.le_of_ble_eq_true rfl, Nat.le_of_ble_eq_true rfl⟩ dX12_isIn_15 (if_neg (fun h => absurd h.2 (Int32.not_le.mpr c2))).symm
    · refine lv_iconst (v := 1) hx hb dX12_isIn_10 (by decide) ?_
      refine lv_goto (tgt := 15) hx hb dX12_isIn_11 (by decide) ?_
      exact hs_zret () C0 hp hp.2.2.1 rfl (Or.inr rfl) ⟨Nat.le_of_ble_eq_true rfl, Nat.le_of_ble_eq_true rfl⟩ dX12_isIn_15 (if_pos ⟨Int32.not_lt.mp c1, Int32.not_lt.mp c2⟩).symm
set_option maxHeartbeats 4000000 in
set_option maxRecDepth 100000 in
/-- refuse: no -/
theorem hs_refuse (l : Launch) (D : va_G) (z b : Nat) (cO : ClassId) (wh : Int32) (v1 v2 v3 : Value) : hs_Ki l D z (hs_t cO) yX12_refuse (hr_wm yX12_refuse cX12_refuse 3 (some .boolean)) { frames := 0, cells := 0, slots := 0, locals := 0 } [.ref b, .int 0, .int wh] [(b, .inr (2, [.int 0, v1, v2, v3]))] 0 0 0 (fun (q : Int32) (_ : Unit) => q = 0) (fun _ => [(b, .inr (2, [.int 0, v1, v2, v3]))]) := by
  refine hs_Ki_of (by decide) (Nat.le_of_ble_eq_true rfl) ?_
  intro p e s m args below meth c ls A hAe C0 hKT hp hl
  obtain ⟨hx, hb, hr9, hml, hown, hts, hK, hlk, hA, hN, hnm9⟩ := id C0
  have hl : lv_has ls 3 [(0, .ref b), (1, .int 0), (2, .int wh)] := hl
  refine lv_iload_n hx hb dX12_refuse_0 rfl (lv_at hl 1 rfl) ?_
  refine lv_if_eq (tgt := 16) hx hb dX12_refuse_1 (by decide) (fun _ => ?_) (fun c9 => absurd c9 (by decide))
  refine lv_aload_n hx hb dX12_refuse_16 rfl (lv_at hl 0 rfl) ?_
  refine hr_get C0 hp (q0 := 0) (C := RX12) (T := TX12) (N := 4) (ci := 2) rfl rfl hr_uX12 0 (by decide) hw_129 (fun _ h9 => h9) rfl dX12_refuse_17 ?_
  refine lv_if_le (tgt := 27) hx hb dX12_refuse_20 (by decide) (fun _ => ?_) (fun c9 => absurd c9 (by decide))
  refine lv_iconst (v := 0) hx hb dX12_refuse_27 (by decide) ?_
  exact hs_zret () C0 hp hp.2.2.1 rfl (by decide) ⟨Nat.le_of_ble_eq_true rfl, Nat.le_of_ble_eq_true rfl⟩ dX12_refuse_28 rfl
set_option maxHeartbeats 4000000 in
set_option maxRecDepth 100000 in
/-- start: no -/
theorem hs_start (l : Launch) (D : va_G) (z b : Nat) (cO : ClassId) (th : Int32) (v1 v2 v3 : Value) : hs_Ki l D z (hs_t cO) yX12_start (hr_wm yX12_start cX12_start 3 (some .boolean)) { frames := 1, cells := 0, slots := 0, locals := 22 } [.ref b, .int 0, .int 1] [(b, .inr (2, [.int th, v1, v2, v3]))] 0 0 0 (fun (q : Int32) (_ : Unit) => q = 0) (fun _ => [(b, .inr (2, [.int 0, v1, v2, v3]))]) := by
  refine hs_Ki_of (by decide) (Nat.le_of_ble_eq_true rfl) ?_
  intro p e s m args below meth c ls A hAe C0 hKT hp hl
  obtain ⟨hx, hb, hr9, hml, hown, hts, hK, hlk, hA, hN, hnm9⟩ := id C0
  have hl : lv_has ls 3 [(0, .ref b), (1, .int 0), (2, .int 1)] := hl
  refine lv_aload_n hx hb dX12_start_0 rfl (lv_at hl 0 rfl) ?_
  refine lv_iconst (v := 0) hx hb dX12_start_1 (by decide) ?_
  refine hr_put C0 hp (q0 := 0) (C := RX12) (T := TX12) (N := 4) (ci := 2) (ty0 := tyX12) (ty := .int) (Y' := [(b, .inr (2, [.int 0, v1, v2, v3]))]) rfl rfl hr_uX12 tyX12_ok nmX12 0 (by decide) hw_129 (fun _ h9 => h9) rfl (by decide +kernel) rfl rfl (Nat.le_of_ble_eq_true rfl) rfl dX12_start_2 (fun H locs hp => ?_)
  refine lv_aload_n hx hb dX12_start_5 rfl (lv_at hl 0 rfl) ?_
  refine lv_iload_n hx hb dX12_start_6 rfl (lv_at hl 1 rfl) ?_
  refine lv_iload_n hx hb dX12_start_7 rfl (lv_at hl 2 rfl) ?_
  refine hs_cVi C0 hKT hp (q0 := 0) (ci := 2) (Cn := RX12) (T := TX12) (N := 4) (rest := []) (n := 2) [] (hs_refuse l D z b cO 1 (v1) (v2) (v3)) rfl rfl rfl (hr_gV hw_132 hw_133 hw_134 hw_119 hw_130) ⟨rfl, rfl⟩ (by decide +kernel) ⟨Nat.le_of_ble_eq_true rfl, Nat.le_of_ble_eq_true rfl⟩ ⟨Nat.le_of_ble_eq_true rfl, Nat.le_of_ble_eq_true rfl⟩ hl.1 rfl rfl (Nat.le_of_ble_eq_true rfl) dX12_start_8 (fun q_8 u_8 H locs hv_8 hz9 hp => ?_)
  subst hv_8
  have hp : hr_H D A s.heap [(b, .inr (2, [.int 0, v1, v2, v3]))] H _ := hp
  exact hs_zret () C0 hp hp.2.2.1 rfl (by decide) ⟨Nat.le_of_ble_eq_true rfl, Nat.le_of_ble_eq_true rfl⟩ dX12_start_11 rfl
set_option maxHeartbeats 4000000 in
set_option maxRecDepth 100000 in
/-- thrown -/
theorem hs_thrown (l : Launch) (D : va_G) (z b : Nat) (cO : ClassId) (th : Int32) (v1 v2 v3 : Value) : hs_Ki l D z (hs_t cO) yX12_thrown (hr_wm yX12_thrown cX12_thrown 1 (some .int)) { frames := 0, cells := 0, slots := 0, locals := 0 } [.ref b] [(b, .inr (2, [.int th, v1, v2, v3]))] 0 0 0 (fun (q : Int32) (_ : Unit) => q = th) (fun _ => [(b, .inr (2, [.int th, v1, v2, v3]))]) := by
  refine hs_Ki_of (by decide) (Nat.le_of_ble_eq_true rfl) ?_
  intro p e s m args below meth c ls A hAe C0 hKT hp hl
  obtain ⟨hx, hb, hr9, hml, hown, hts, hK, hlk, hA, hN, hnm9⟩ := id C0
  have hl : lv_has ls 1 [(0, .ref b)] := hl
  refine lv_aload_n hx hb dX12_thrown_0 rfl (lv_at hl 0 rfl) ?_
  refine hr_get C0 hp (q0 := 0) (C := RX12) (T := TX12) (N := 4) (ci := 2) rfl rfl hr_uX12 0 (by decide) hw_129 (fun _ h9 => h9) rfl dX12_thrown_1 ?_
  exact hs_iret () C0 hp hp.2.2.1 rfl ⟨Nat.le_of_ble_eq_true rfl, Nat.le_of_ble_eq_true rfl⟩ dX12_thrown_4 rfl
set_option maxHeartbeats 4000000 in
set_option maxRecDepth 100000 in
/-- size -/
theorem hs_sizeG (l : Launch) (D : va_G) (z b : Nat) (cO : ClassId) (m9 n9 : Int32) (v9 : Value) : hs_Ki l D z (hs_t cO) yJx4a65c_size_8abf5 (hr_wm yJx4a65c_size_8abf5 cJx4a65c_size_8abf5 1 (some .int)) { frames := 0, cells := 0, slots := 0, locals := 0 } [.ref b] [(b, .inr (0, [.int m9, v9, .int n9]))] 0 0 0 (fun (q : Int32) (_ : Unit) => q = n9) (fun _ => [(b, .inr (0, [.int m9, v9, .int n9]))]) := by
  refine hs_Ki_of (by decide) (Nat.le_of_ble_eq_true rfl) ?_
  intro p e s m args below meth c ls A hAe C0 hKT hp hl
  obtain ⟨hx, hb, hr9, hml, hown, hts, hK, hlk, hA, hN, hnm9⟩ := id C0
  have hl : lv_has ls 1 [(0, .ref b)] := hl
  refine lv_aload_n hx hb dJx4a65c_size_8abf5_0 rfl (lv_at hl 0 rfl) ?_
  refine hr_get C0 hp (q0 := 0) (C := RJx4a65c) (T := TJx4a65c) (N := 3) (ci := 0) rfl rfl hr_uJx4a65c 2 (by decide) hw_52 (fun _ h9 => h9) rfl dJx4a65c_size_8abf5_1 ?_
  exact hs_iret () C0 hp hp.2.2.1 rfl ⟨Nat.le_of_ble_eq_true rfl, Nat.le_of_ble_eq_true rfl⟩ dJx4a65c_size_8abf5_4 rfl
set_option maxHeartbeats 4000000 in
set_option maxRecDepth 100000 in
/-- grow -/
theorem hs_grow1 (l : Launch) (D : va_G) (z b : Nat) (cO : ClassId) : hs_Kr l D z (hs_t cO) yJx4a65c_grow_92f84 (hr_wm yJx4a65c_grow_92f84 cJx4a65c_grow_92f84 4 (some (.array (.object "java/lang/Object")))) { frames := 1, cells := 1, slots := 10, locals := 14 } [.ref b, .int 1] [(b, .inr (0, [.int 1, .ref z, .int 0]))] 0 1 10 (fun (_ : Unit) (_ : Nat) => True) (fun _ q9 => [(b, .inr (0, [.int 1, .ref q9, .int 0])), (q9, .inl (cO, 10, .inr (.inr (.inr (.inr (fun _ => none))))))]) (fun _ => hs_t cO) := by
  refine hs_Kr_of (by decide) (Nat.le_of_ble_eq_true rfl) ?_
  intro p e s m args below meth c ls A hAe C0 hKT hp hl
  obtain ⟨hx, hb, hr9, hml, hown, hts, hK, hlk, hA, hN, hnm9⟩ := id C0
  have hl : lv_has ls 4 [(0, .ref b), (1, .int 1)] := hl
  refine lv_aload_n hx hb dJx4a65c_grow_92f84_0 rfl (lv_at hl 0 rfl) ?_
  refine hr_get C0 hp (q0 := 0) (C := RJx4a65c) (T := TJx4a65c) (N := 3) (ci := 0) rfl rfl hr_uJx4a65c 1 (by decide) hw_29 (fun _ h9 => h9) rfl dJx4a65c_grow_92f84_1 ?_
  refine hr_len0 C0 hp dJx4a65c_grow_92f84_4 ?_
  refine lv_istore_n (lv' := [(2, .int 0), (0, .ref b), (1, .int 1)]) hx hb dJx4a65c_grow_92f84_5 rfl hl (by decide) rfl (fun ls hl => ?_)
  refine lv_iload_n hx hb dJx4a65c_grow_92f84_6 rfl (lv_at hl 0 rfl) ?_
  refine lv_if_gt (tgt := 20) hx hb dJx4a65c_grow_92f84_7 (by decide) (fun c9 => absurd c9 (by decide)) (fun _ => ?_)
  refine lv_aload_n hx hb dJx4a65c_grow_92f84_10 rfl (lv_at hl 1 rfl) ?_
  refine hr_get C0 hp (q0 := 0) (C := RJx4a65c) (T := TJx4a65c) (N := 3) (ci := 0) rfl rfl hr_uJx4a65c 1 (by decide) hw_29 (fun _ h9 => h9) rfl dJx4a65c_grow_92f84_11 ?_
  refine hr_gets C0 hp hw_28 dJx4a65c_grow_92f84_14 ?_
  refine lv_acmp_eq (rx := some z) (ry := some z) (tgt := 45) hx hb dJx4a65c_grow_92f84_17 (by decide) (fun _ => ?_) (fun c9 => absurd rfl c9)
  refine lv_aload_n hx hb dJx4a65c_grow_92f84_45 rfl (lv_at hl 1 rfl) ?_
  refine lv_bipush (v := 10) hx hb dJx4a65c_grow_92f84_46 (by decide) ?_
  refine lv_iload_n hx hb dJx4a65c_grow_92f84_48 rfl (lv_at hl 2 rfl) ?_
  refine va_mmax hx hb (hml.trans hl.1.symm) hown (hts _ hw_164) (hts _ hw_45) (hts _ hw_14) (hts _ hw_46) (Nat.le_of_ble_eq_true rfl) (Nat.le_of_ble_eq_true rfl) (Nat.le_of_ble_eq_true rfl) (Nat.le_of_ble_eq_true rfl) dJx4a65c_grow_92f84_49 ?_
  rw [show (if (10 : Int32) < 1 then (1 : Int32) else 10) = 10 from by decide]
  refine hr_newO C0 hp hw_165 (n := 10) (by decide) (by decide) (by decide) (Nat.le_of_ble_eq_true rfl) (Nat.le_of_ble_eq_true rfl) dJx4a65c_grow_92f84_52 (fun q_52 cA_52 H hK_52 hp => ?_)
  have hp : hr_H D A s.heap [(b, .inr (0, [.int 1, .ref z, .int 0])), (q_52, .inl (cA_52, 10, .inr (.inr (.inr (.inr (fun _ => none))))))] H _ := hp
  refine W.widen (k := 1) (n := 10) (by decide) (by decide) ?_
  have eA := hs_objK hKT hK_52
  subst eA
  refine lv_dup_x1 hx hb dJx4a65c_grow_92f84_55 rfl rfl ?_
  refine hr_put C0 hp (q0 := 0) (C := RJx4a65c) (T := TJx4a65c) (N := 3) (ci := 0) (ty0 := tyJx4a65c) (ty := (.array (.object "java/lang/Object"))) (Y' := [(b, .inr (0, [.int 1, .ref q_52, .int 0])), (q_52, .inl (cO, 10, .inr (.inr (.inr (.inr (fun _ => none))))))]) rfl rfl hr_uJx4a65c tyJx4a65c_ok nmJx4a65c 1 (by decide) hw_29 (fun _ h9 => h9) rfl (by decide +kernel) rfl rfl (Nat.le_of_ble_eq_true rfl) rfl dJx4a65c_grow_92f84_56 (fun H locs hp => ?_)
  exact hs_aret () C0 hp hp.2.2.1 rfl (Or.inr ⟨_, rfl⟩) ⟨Nat.le_of_ble_eq_true rfl, Nat.le_of_ble_eq_true rfl⟩ dJx4a65c_grow_92f84_59 trivial hKT
set_option maxHeartbeats 4000000 in
set_option maxRecDepth 100000 in
/-- grow -/
theorem hs_grow0 (l : Launch) (D : va_G) (z b : Nat) (cO : ClassId) : hs_Kr l D z (hs_t cO) yJx4a65c_grow_d5877 (hr_wm yJx4a65c_grow_d5877 cJx4a65c_grow_d5877 1 (some (.array (.object "java/lang/Object")))) { frames := 2, cells := 1, slots := 10, locals := 37 } [.ref b] [(b, .inr (0, [.int 1, .ref z, .int 0]))] 0 1 10 (fun (_ : Unit) (_ : Nat) => True) (fun _ q9 => [(b, .inr (0, [.int 1, .ref q9, .int 0])), (q9, .inl (cO, 10, .inr (.inr (.inr (.inr (fun _ => none))))))]) (fun _ => hs_t cO) := by
  refine hs_Kr_of (by decide) (Nat.le_of_ble_eq_true rfl) ?_
  intro p e s m args below meth c ls A hAe C0 hKT hp hl
  obtain ⟨hx, hb, hr9, hml, hown, hts, hK, hlk, hA, hN, hnm9⟩ := id C0
  have hl : lv_has ls 1 [(0, .ref b)] := hl
  refine lv_aload_n hx hb dJx4a65c_grow_d5877_0 rfl (lv_at hl 0 rfl) ?_
  refine lv_aload_n hx hb dJx4a65c_grow_d5877_1 rfl (lv_at hl 0 rfl) ?_
  refine hr_get C0 hp (q0 := 0) (C := RJx4a65c) (T := TJx4a65c) (N := 3) (ci := 0) rfl rfl hr_uJx4a65c 2 (by decide) hw_52 (fun _ h9 => h9) rfl dJx4a65c_grow_d5877_2 ?_
  refine lv_iconst (v := 1) hx hb dJx4a65c_grow_d5877_5 (by decide) ?_
  refine lv_iadd hx hb dJx4a65c_grow_d5877_6 ?_
  rw [show (0 : Int32) + 1 = 1 from by decide]
  refine hs_cVr C0 hKT hp (q0 := 0) (ci := 0) (Cn := RJx4a65c) (T := TJx4a65c) (N := 3) (rest := []) (n := 1) [] (hs_grow1 l D z b cO) rfl rfl rfl (hr_gV hw_160 hw_161 hw_162 hw_20 hw_163) ⟨rfl, rfl⟩ (by decide +kernel) ⟨Nat.le_of_ble_eq_true rfl, Nat.le_of_ble_eq_true rfl⟩ ⟨Nat.le_of_ble_eq_true rfl, Nat.le_of_ble_eq_true rfl⟩ hl.1 rfl rfl (Nat.le_of_ble_eq_true rfl) dJx4a65c_grow_d5877_7 (fun u_7 q_7 H locs hv_7 hk_7 hz9 hp => ?_)
  have hp : hr_H D A s.heap [(b, .inr (0, [.int 1, .ref q_7, .int 0])), (q_7, .inl (cO, 10, .inr (.inr (.inr (.inr (fun _ => none))))))] H _ := hp
  refine W.widen (k := 1) (n := 10) (by decide) (by decide) ?_
  exact hs_aret () C0 hp hp.2.2.1 rfl (Or.inr ⟨_, rfl⟩) ⟨Nat.le_of_ble_eq_true rfl, Nat.le_of_ble_eq_true rfl⟩ dJx4a65c_grow_d5877_10 trivial hKT
set_option maxHeartbeats 4000000 in
set_option maxRecDepth 100000 in
/-- add, the first -/
theorem hs_addA3 (l : Launch) (D : va_G) (z b ee : Nat) (cO : ClassId) (fs : List Value) : hs_Kv l D z (hs_t cO) yJx4a65c_add_72be8 (hr_wm yJx4a65c_add_72be8 cJx4a65c_add_72be8 4 none) { frames := 3, cells := 1, slots := 10, locals := 57 } [.ref b, .ref ee, .ref z, .int 0] [(b, .inr (0, [.int 1, .ref z, .int 0])), (ee, .inr (3, fs))] 0 1 10 (fun (_ : Nat) => True) (fun u => [(b, .inr (0, [.int 1, .ref u, .int 1])), (ee, .inr (3, fs)), (u, .inl (cO, 10, .inr (.inr (.inr (.inr (va_up (fun _ => none) 0 (some ee)))))))]) := by
  refine hs_Kv_of (by decide) (Nat.le_of_ble_eq_true rfl) ?_
  intro p e s m args below meth c ls A hAe C0 hKT hp hl
  obtain ⟨hx, hb, hr9, hml, hown, hts, hK, hlk, hA, hN, hnm9⟩ := id C0
  have hl : lv_has ls 4 [(0, .ref b), (1, .ref ee), (2, .ref z), (3, .int 0)] := hl
  refine lv_iload_n hx hb dJx4a65c_add_72be8_0 rfl (lv_at hl 3 rfl) ?_
  refine lv_aload_n hx hb dJx4a65c_add_72be8_1 rfl (lv_at hl 2 rfl) ?_
  refine hr_len0 C0 hp dJx4a65c_add_72be8_2 ?_
  refine lv_icmp_ne (tgt := 11) hx hb dJx4a65c_add_72be8_3 (by decide) (fun c9 => absurd c9 (by decide)) (fun _ => ?_)
  refine lv_aload_n hx hb dJx4a65c_add_72be8_6 rfl (lv_at hl 0 rfl) ?_
  refine hs_cVr C0 hKT hp (q0 := 0) (ci := 0) (Cn := RJx4a65c) (T := TJx4a65c) (N := 3) (rest := []) (n := 0) [(ee, .inr (3, fs))] (hs_grow0 l D z b cO) rfl rfl rfl (hr_gV hw_156 hw_157 hw_158 hw_20 hw_159) ⟨rfl, rfl⟩ (by decide +kernel) ⟨Nat.le_of_ble_eq_true rfl, Nat.le_of_ble_eq_true rfl⟩ ⟨Nat.le_of_ble_eq_true rfl, Nat.le_of_ble_eq_true rfl⟩ hl.1 rfl rfl (Nat.le_of_ble_eq_true rfl) dJx4a65c_add_72be8_7 (fun u_7 q_7 H locs hv_7 hk_7 hz9 hp => ?_)
  have hp : hr_H D A s.heap [(b, .inr (0, [.int 1, .ref q_7, .int 0])), (q_7, .inl (cO, 10, .inr (.inr (.inr (.inr (fun _ => none)))))), (ee, .inr (3, fs))] H _ := hp
  refine W.widen (k := 1) (n := 10) (by decide) (by decide) ?_
  refine lv_astore_n (lv' := [(2, .ref q_7), (0, .ref b), (1, .ref ee), (3, .int 0)]) hx hb dJx4a65c_add_72be8_10 rfl hl (by decide) rfl (fun ls hl => ?_)
  refine lv_aload_n hx hb dJx4a65c_add_72be8_11 rfl (lv_at hl 0 rfl) ?_
  refine lv_iload_n hx hb dJx4a65c_add_72be8_12 rfl (lv_at hl 3 rfl) ?_
  refine lv_aload_n hx hb dJx4a65c_add_72be8_13 rfl (lv_at hl 2 rfl) ?_
  refine hr_aastO C0 (r := (RX9, TX9, 9)) (ci := 3) hKT hN.1.2.2.2.2.2.2.1 hp (q0 := 1) (qk := 2) (n := 10) (f := (fun _ => none)) (k' := 0) (Y' := [(b, .inr (0, [.int 1, .ref q_7, .int 0])), (q_7, .inl (cO, 10, .inr (.inr (.inr (.inr (va_up (fun _ => none) 0 (some ee))))))), (ee, .inr (3, fs))]) rfl rfl rfl (by unfold vp_in; decide) (by decide) rfl dJx4a65c_add_72be8_14 (fun H locs hp => ?_)
  refine lv_aload_n hx hb dJx4a65c_add_72be8_15 rfl (lv_at hl 1 rfl) ?_
  refine lv_iload_n hx hb dJx4a65c_add_72be8_16 rfl (lv_at hl 3 rfl) ?_
  refine lv_iconst (v := 1) hx hb dJx4a65c_add_72be8_17 (by decide) ?_
  refine lv_iadd hx hb dJx4a65c_add_72be8_18 ?_
  rw [show (0 : Int32) + 1 = 1 from by decide]
  refine hr_put C0 hp (q0 := 0) (C := RJx4a65c) (T := TJx4a65c) (N := 3) (ci := 0) (ty0 := tyJx4a65c) (ty := .int) (Y' := [(b, .inr (0, [.int 1, .ref q_7, .int 1])), (q_7, .inl (cO, 10, .inr (.inr (.inr (.inr (va_up (fun _ => none) 0 (some ee))))))), (ee, .inr (3, fs))]) rfl rfl hr_uJx4a65c tyJx4a65c_ok nmJx4a65c 2 (by decide) hw_52 (fun _ h9 => h9) rfl (by decide +kernel) rfl rfl (Nat.le_of_ble_eq_true rfl) rfl dJx4a65c_add_72be8_19 (fun H locs hp => ?_)
  have hp := hr_perm (Y' := [(b, .inr (0, [.int 1, .ref q_7, .int 1])), (ee, .inr (3, fs)), (q_7, .inl (cO, 10, .inr (.inr (.inr (.inr (va_up (fun _ => none) 0 (some ee)))))))]) [0, 2, 1] (by decide) rfl hp
  exact hs_vret q_7 C0 hp hp.2.2.1 rfl ⟨Nat.le_of_ble_eq_true rfl, Nat.le_of_ble_eq_true rfl⟩ dJx4a65c_add_72be8_22 trivial
set_option maxHeartbeats 4000000 in
set_option maxRecDepth 100000 in
/-- add, the first -/
theorem hs_addA1 (l : Launch) (D : va_G) (z b ee : Nat) (cO : ClassId) (fs : List Value) : hs_Ki l D z (hs_t cO) yJx4a65c_add_9ea2d (hr_wm yJx4a65c_add_9ea2d cJx4a65c_add_9ea2d 2 (some .boolean)) { frames := 4, cells := 1, slots := 10, locals := 80 } [.ref b, .ref ee] [(b, .inr (0, [.int 0, .ref z, .int 0])), (ee, .inr (3, fs))] 0 1 10 (fun (q : Int32) (_ : Nat) => q = 1) (fun u => [(b, .inr (0, [.int 1, .ref u, .int 1])), (ee, .inr (3, fs)), (u, .inl (cO, 10, .inr (.inr (.inr (.inr (va_up (fun _ => none) 0 (some ee)))))))]) := by
  refine hs_Ki_of (by decide) (Nat.le_of_ble_eq_true rfl) ?_
  intro p e s m args below meth c ls A hAe C0 hKT hp hl
  obtain ⟨hx, hb, hr9, hml, hown, hts, hK, hlk, hA, hN, hnm9⟩ := id C0
  have hl : lv_has ls 2 [(0, .ref b), (1, .ref ee)] := hl
  refine lv_aload_n hx hb dJx4a65c_add_9ea2d_0 rfl (lv_at hl 0 rfl) ?_
  refine lv_dup hx hb dJx4a65c_add_9ea2d_1 rfl ?_
  refine hr_get C0 hp (q0 := 0) (C := RJx4a65c) (T := TJx4a65c) (N := 3) (ci := 0) rfl rfl hr_uJx4a65c 0 (by decide) hw_151 (u_same (hts _ hw_79)) rfl dJx4a65c_add_9ea2d_2 ?_
  refine lv_iconst (v := 1) hx hb dJx4a65c_add_9ea2d_5 (by decide) ?_
  refine lv_iadd hx hb dJx4a65c_add_9ea2d_6 ?_
  rw [show (0 : Int32) + 1 = 1 from by decide]
  refine hr_put C0 hp (q0 := 0) (C := RJx4a65c) (T := TJx4a65c) (N := 3) (ci := 0) (ty0 := tyJx4a65c) (ty := .int) (Y' := [(b, .inr (0, [.int 1, .ref z, .int 0])), (ee, .inr (3, fs))]) rfl rfl hr_uJx4a65c tyJx4a65c_ok nmJx4a65c 0 (by decide) hw_151 (u_same (hts _ hw_79)) rfl (by decide +kernel) rfl rfl (Nat.le_of_ble_eq_true rfl) rfl dJx4a65c_add_9ea2d_7 (fun H locs hp => ?_)
  refine lv_aload_n hx hb dJx4a65c_add_9ea2d_10 rfl (lv_at hl 0 rfl) ?_
  refine lv_aload_n hx hb dJx4a65c_add_9ea2d_11 rfl (lv_at hl 1 rfl) ?_
  refine lv_aload_n hx hb dJx4a65c_add_9ea2d_12 rfl (lv_at hl 0 rfl) ?_
  refine hr_get C0 hp (q0 := 0) (C := RJx4a65c) (T := TJx4a65c) (N := 3) (ci := 0) rfl rfl hr_uJx4a65c 1 (by decide) hw_29 (fun _ h9 => h9) rfl dJx4a65c_add_9ea2d_13 ?_
  refine lv_aload_n hx hb dJx4a65c_add_9ea2d_16 rfl (lv_at hl 0 rfl) ?_
  refine hr_get C0 hp (q0 := 0) (C := RJx4a65c) (T := TJx4a65c) (N := 3) (ci := 0) rfl rfl hr_uJx4a65c 2 (by decide) hw_52 (fun _ h9 => h9) rfl dJx4a65c_add_9ea2d_17 ?_
  refine hs_cVv C0 hKT hp (q0 := 0) (ci := 0) (Cn := RJx4a65c) (T := TJx4a65c) (N := 3) (rest := []) (n := 3) [] (hs_addA3 l D z b ee cO fs) rfl rfl rfl (hr_gV hw_152 hw_153 hw_154 hw_20 hw_155) ⟨rfl, rfl⟩ (by decide +kernel) ⟨Nat.le_of_ble_eq_true rfl, Nat.le_of_ble_eq_true rfl⟩ ⟨Nat.le_of_ble_eq_true rfl, Nat.le_of_ble_eq_true rfl⟩ hl.1 rfl rfl (Nat.le_of_ble_eq_true rfl) dJx4a65c_add_9ea2d_20 (fun u_20 H locs hv_20 hz9 hp => ?_)
  have hp : hr_H D A s.heap [(b, .inr (0, [.int 1, .ref u_20, .int 1])), (ee, .inr (3, fs)), (u_20, .inl (cO, 10, .inr (.inr (.inr (.inr (va_up (fun _ => none) 0 (some ee)))))))] H _ := hp
  refine W.widen (k := 1) (n := 10) (by decide) (by decide) ?_
  refine lv_iconst (v := 1) hx hb dJx4a65c_add_9ea2d_23 (by decide) ?_
  have hp := hr_perm (Y' := [(b, .inr (0, [.int 1, .ref u_20, .int 1])), (ee, .inr (3, fs)), (u_20, .inl (cO, 10, .inr (.inr (.inr (.inr (va_up (fun _ => none) 0 (some ee)))))))]) [0, 1, 2] (by decide) rfl hp
  exact hs_zret u_20 C0 hp hp.2.2.1 rfl (by decide) ⟨Nat.le_of_ble_eq_true rfl, Nat.le_of_ble_eq_true rfl⟩ dJx4a65c_add_9ea2d_24 rfl
set_option maxHeartbeats 4000000 in
set_option maxRecDepth 100000 in
/-- a mast is made -/
theorem hs_mk_0 (l : Launch) (D : va_G) (z b : Nat) (cO : ClassId) : hs_Kv l D z (hs_t cO) yX9_init (hr_wm yX9_init cX9_init 7 none) { frames := 1, cells := 0, slots := 0, locals := 13 } [.ref b, .int 0, .int 60, .int 0, .int 1, .int 0, .int 0] [(b, .inr (3, [.int 0, .int 0, .int 0, .int 0, .int 0, .int 0, .int 0, .int 0, .int 0]))] 0 0 0 (fun (_ : Unit) => True) (fun _ => [(b, .inr (3, [.int 0, .int 60, .int 0, .int 1, .int 0, .int 0, .int 1, .int 0, .int 0]))]) := by
  refine hs_Kv_of (by decide) (Nat.le_of_ble_eq_true rfl) ?_
  intro p e s m args below meth c ls A hAe C0 hKT hp hl
  obtain ⟨hx, hb, hr9, hml, hown, hts, hK, hlk, hA, hN, hnm9⟩ := id C0
  have hl : lv_has ls 7 [(0, .ref b), (1, .int 0), (2, .int 60), (3, .int 0), (4, .int 1), (5, .int 0), (6, .int 0)] := hl
  refine lv_aload_n hx hb dX9_init_0 rfl (lv_at hl 0 rfl) ?_
  refine hr_obj C0 hw_1 hw_2 hw_3 hl.1 dX9_init_1 (Nat.le_of_ble_eq_true rfl) (Nat.le_of_ble_eq_true rfl) ?_
  refine lv_aload_n hx hb dX9_init_4 rfl (lv_at hl 0 rfl) ?_
  refine lv_iconst (v := 1) hx hb dX9_init_5 (by decide) ?_
  refine hr_put C0 hp (q0 := 0) (C := RX9) (T := TX9) (N := 9) (ci := 3) (ty0 := tyX9) (ty := .boolean) (Y' := [(b, .inr (3, [.int 0, .int 0, .int 0, .int 0, .int 0, .int 0, .int 1, .int 0, .int 0]))]) rfl rfl hr_uX9 tyX9_ok nmX9 6 (by decide) hw_4 (fun _ h9 => h9) rfl (by decide +kernel) rfl rfl (Nat.le_of_ble_eq_true rfl) rfl dX9_init_6 (fun H locs hp => ?_)
  refine lv_aload_n hx hb dX9_init_9 rfl (lv_at hl 0 rfl) ?_
  refine lv_iload_n hx hb dX9_init_10 rfl (lv_at hl 1 rfl) ?_
  refine hr_putF C0 hp (q0 := 0) (C := RX9) (T := TX9) (N := 9) (ci := 3) (ty0 := tyX9) (ty := .int) (Y' := [(b, .inr (3, [.int 0, .int 0, .int 0, .int 0, .int 0, .int 0, .int 1, .int 0, .int 0]))]) rfl rfl hr_uX9 tyX9_ok nmX9 0 (by decide) hw_5 (fun _ h9 => h9) rfl rfl rfl (by decide +kernel) rfl rfl (Nat.le_of_ble_eq_true rfl) rfl dX9_init_11 (fun H locs hp => ?_)
  refine lv_aload_n hx hb dX9_init_14 rfl (lv_at hl 0 rfl) ?_
  refine lv_iload_n hx hb dX9_init_15 rfl (lv_at hl 2 rfl) ?_
  refine hr_putF C0 hp (q0 := 0) (C := RX9) (T := TX9) (N := 9) (ci := 3) (ty0 := tyX9) (ty := .int) (Y' := [(b, .inr (3, [.int 0, .int 60, .int 0, .int 0, .int 0, .int 0, .int 1, .int 0, .int 0]))]) rfl rfl hr_uX9 tyX9_ok nmX9 1 (by decide) hw_6 (fun _ h9 => h9) rfl rfl rfl (by decide +kernel) rfl rfl (Nat.le_of_ble_eq_true rfl) rfl dX9_init_16 (fun H locs hp => ?_)
  refine lv_aload_n hx hb dX9_init_19 rfl (lv_at hl 0 rfl) ?_
  refine lv_iload_n hx hb dX9_init_20 rfl (lv_at hl 3 rfl) ?_
  refine hr_putF C0 hp (q0 := 0) (C := RX9) (T := TX9) (N := 9) (ci := 3) (ty0 := tyX9) (ty := .int) (Y' := [(b, .inr (3, [.int 0, .int 60, .int 0, .int 0, .int 0, .int 0, .int 1, .int 0, .int 0]))]) rfl rfl hr_uX9 tyX9_ok nmX9 2 (by decide) hw_7 (fun _ h9 => h9) rfl rfl rfl (by decide +kernel) rfl rfl (Nat.le_of_ble_eq_true rfl) rfl dX9_init_21 (fun H locs hp => ?_)
  refine lv_aload_n hx hb dX9_init_24 rfl (lv_at hl 0 rfl) ?_
  refine lv_iload hx hb dX9_init_25 (lv_at hl 4 rfl) ?_
  refine hr_putF C0 hp (q0 := 0) (C := RX9) (T := TX9) (N := 9) (ci := 3) (ty0 := tyX9) (ty := .int) (Y' := [(b, .inr (3, [.int 0, .int 60, .int 0, .int 1, .int 0, .int 0, .int 1, .int 0, .int 0]))]) rfl rfl hr_uX9 tyX9_ok nmX9 3 (by decide) hw_8 (fun _ h9 => h9) rfl rfl rfl (by decide +kernel) rfl rfl (Nat.le_of_ble_eq_true rfl) rfl dX9_init_27 (fun H locs hp => ?_)
  refine lv_aload_n hx hb dX9_init_30 rfl (lv_at hl 0 rfl) ?_
  refine lv_iload hx hb dX9_init_31 (lv_at hl 5 rfl) ?_
  refine hr_putF C0 hp (q0 := 0) (C := RX9) (T := TX9) (N := 9) (ci := 3) (ty0 := tyX9) (ty := .int) (Y' := [(b, .inr (3, [.int 0, .int 60, .int 0, .int 1, .int 0, .int 0, .int 1, .int 0, .int 0]))]) rfl rfl hr_uX9 tyX9_ok nmX9 4 (by decide) hw_9 (fun _ h9 => h9) rfl rfl rfl (by decide +kernel) rfl rfl (Nat.le_of_ble_eq_true rfl) rfl dX9_init_33 (fun H locs hp => ?_)
  refine lv_aload_n hx hb dX9_init_36 rfl (lv_at hl 0 rfl) ?_
  refine lv_iload hx hb dX9_init_37 (lv_at hl 6 rfl) ?_
  refine hr_putF C0 hp (q0 := 0) (C := RX9) (T := TX9) (N := 9) (ci := 3) (ty0 := tyX9) (ty := .int) (Y' := [(b, .inr (3, [.int 0, .int 60, .int 0, .int 1, .int 0, .int 0, .int 1, .int 0, .int 0]))]) rfl rfl hr_uX9 tyX9_ok nmX9 5 (by decide) hw_10 (fun _ h9 => h9) rfl rfl rfl (by decide +kernel) rfl rfl (Nat.le_of_ble_eq_true rfl) rfl dX9_init_39 (fun H locs hp => ?_)
  exact hs_vret () C0 hp hp.2.2.1 rfl ⟨Nat.le_of_ble_eq_true rfl, Nat.le_of_ble_eq_true rfl⟩ dX9_init_42 trivial
set_option maxHeartbeats 4000000 in
set_option maxRecDepth 100000 in
/-- a mast is made -/
theorem hs_mk_2 (l : Launch) (D : va_G) (z b : Nat) (cO : ClassId) : hs_Kv l D z (hs_t cO) yX9_init (hr_wm yX9_init cX9_init 7 none) { frames := 1, cells := 0, slots := 0, locals := 13 } [.ref b, .int 0, .int 60, .int 2, .int 1, .int 0, .int 0] [(b, .inr (3, [.int 0, .int 0, .int 0, .int 0, .int 0, .int 0, .int 0, .int 0, .int 0]))] 0 0 0 (fun (_ : Unit) => True) (fun _ => [(b, .inr (3, [.int 0, .int 60, .int 2, .int 1, .int 0, .int 0, .int 1, .int 0, .int 0]))]) := by
  refine hs_Kv_of (by decide) (Nat.le_of_ble_eq_true rfl) ?_
  intro p e s m args below meth c ls A hAe C0 hKT hp hl
  obtain ⟨hx, hb, hr9, hml, hown, hts, hK, hlk, hA, hN, hnm9⟩ := id C0
  have hl : lv_has ls 7 [(0, .ref b), (1, .int 0), (2, .int 60), (3, .int 2), (4, .int 1), (5, .int 0), (6, .int 0)] := hl
  refine lv_aload_n hx hb dX9_init_0 rfl (lv_at hl 0 rfl) ?_
  refine hr_obj C0 hw_1 hw_2 hw_3 hl.1 dX9_init_1 (Nat.le_of_ble_eq_true rfl) (Nat.le_of_ble_eq_true rfl) ?_
  refine lv_aload_n hx hb dX9_init_4 rfl (lv_at hl 0 rfl) ?_
  refine lv_iconst (v := 1) hx hb dX9_init_5 (by decide) ?_
  refine hr_put C0 hp (q0 := 0) (C := RX9) (T := TX9) (N := 9) (ci := 3) (ty0 := tyX9) (ty := .boolean) (Y' := [(b, .inr (3, [.int 0, .int 0, .int 0, .int 0, .int 0, .int 0, .int 1, .int 0, .int 0]))]) rfl rfl hr_uX9 tyX9_ok nmX9 6 (by decide) hw_4 (fun _ h9 => h9) rfl (by decide +kernel) rfl rfl (Nat.le_of_ble_eq_true rfl) rfl dX9_init_6 (fun H locs hp => ?_)
  refine lv_aload_n hx hb dX9_init_9 rfl (lv_at hl 0 rfl) ?_
  refine lv_iload_n hx hb dX9_init_10 rfl (lv_at hl 1 rfl) ?_
  refine hr_putF C0 hp (q0 := 0) (C := RX9) (T := TX9) (N := 9) (ci := 3) (ty0 := tyX9) (ty := .int) (Y' := [(b, .inr (3, [.int 0, .int 0, .int 0, .int 0, .int 0, .int 0, .int 1, .int 0, .int 0]))]) rfl rfl hr_uX9 tyX9_ok nmX9 0 (by decide) hw_5 (fun _ h9 => h9) rfl rfl rfl (by decide +kernel) rfl rfl (Nat.le_of_ble_eq_true rfl) rfl dX9_init_11 (fun H locs hp => ?_)
  refine lv_aload_n hx hb dX9_init_14 rfl (lv_at hl 0 rfl) ?_
  refine lv_iload_n hx hb dX9_init_15 rfl (lv_at hl 2 rfl) ?_
  refine hr_putF C0 hp (q0 := 0) (C := RX9) (T := TX9) (N := 9) (ci := 3) (ty0 := tyX9) (ty := .int) (Y' := [(b, .inr (3, [.int 0, .int 60, .int 0, .int 0, .int 0, .int 0, .int 1, .int 0, .int 0]))]) rfl rfl hr_uX9 tyX9_ok nmX9 1 (by decide) hw_6 (fun _ h9 => h9) rfl rfl rfl (by decide +kernel) rfl rfl (Nat.le_of_ble_eq_true rfl) rfl dX9_init_16 (fun H locs hp => ?_)
  refine lv_aload_n hx hb dX9_init_19 rfl (lv_at hl 0 rfl) ?_
  refine lv_iload_n hx hb dX9_init_20 rfl (lv_at hl 3 rfl) ?_
  refine hr_putF C0 hp (q0 := 0) (C := RX9) (T := TX9) (N := 9) (ci := 3) (ty0 := tyX9) (ty := .int) (Y' := [(b, .inr (3, [.int 0, .int 60, .int 2, .int 0, .int 0, .int 0, .int 1, .int 0, .int 0]))]) rfl rfl hr_uX9 tyX9_ok nmX9 2 (by decide) hw_7 (fun _ h9 => h9) rfl rfl rfl (by decide +kernel) rfl rfl (Nat.le_of_ble_eq_true rfl) rfl dX9_init_21 (fun H locs hp => ?_)
  refine lv_aload_n hx hb dX9_init_24 rfl (lv_at hl 0 rfl) ?_
  refine lv_iload hx hb dX9_init_25 (lv_at hl 4 rfl) ?_
  refine hr_putF C0 hp (q0 := 0) (C := RX9) (T := TX9) (N := 9) (ci := 3) (ty0 := tyX9) (ty := .int) (Y' := [(b, .inr (3, [.int 0, .int 60, .int 2, .int 1, .int 0, .int 0, .int 1, .int 0, .int 0]))]) rfl rfl hr_uX9 tyX9_ok nmX9 3 (by decide) hw_8 (fun _ h9 => h9) rfl rfl rfl (by decide +kernel) rfl rfl (Nat.le_of_ble_eq_true rfl) rfl dX9_init_27 (fun H locs hp => ?_)
  refine lv_aload_n hx hb dX9_init_30 rfl (lv_at hl 0 rfl) ?_
  refine lv_iload hx hb dX9_init_31 (lv_at hl 5 rfl) ?_
  refine hr_putF C0 hp (q0 := 0) (C := RX9) (T := TX9) (N := 9) (ci := 3) (ty0 := tyX9) (ty := .int) (Y' := [(b, .inr (3, [.int 0, .int 60, .int 2, .int 1, .int 0, .int 0, .int 1, .int 0, .int 0]))]) rfl rfl hr_uX9 tyX9_ok nmX9 4 (by decide) hw_9 (fun _ h9 => h9) rfl rfl rfl (by decide +kernel) rfl rfl (Nat.le_of_ble_eq_true rfl) rfl dX9_init_33 (fun H locs hp => ?_)
  refine lv_aload_n hx hb dX9_init_36 rfl (lv_at hl 0 rfl) ?_
  refine lv_iload hx hb dX9_init_37 (lv_at hl 6 rfl) ?_
  refine hr_putF C0 hp (q0 := 0) (C := RX9) (T := TX9) (N := 9) (ci := 3) (ty0 := tyX9) (ty := .int) (Y' := [(b, .inr (3, [.int 0, .int 60, .int 2, .int 1, .int 0, .int 0, .int 1, .int 0, .int 0]))]) rfl rfl hr_uX9 tyX9_ok nmX9 5 (by decide) hw_10 (fun _ h9 => h9) rfl rfl rfl (by decide +kernel) rfl rfl (Nat.le_of_ble_eq_true rfl) rfl dX9_init_39 (fun H locs hp => ?_)
  exact hs_vret () C0 hp hp.2.2.1 rfl ⟨Nat.le_of_ble_eq_true rfl, Nat.le_of_ble_eq_true rfl⟩ dX9_init_42 trivial
/-- a road with one mast -/
def hz_Y1 (a : Nat → Nat) (z r m1 : Nat) (cO : ClassId) (th : Int32) : va_W := [((a 0), .inr (2, [.int th, .ref (a 1), .int 0, .int 0])), ((a 1), .inr (1, [.ref (a 2), .ref (a 3), .ref (a 4), .ref (a 5), .int 0])), ((a 2), .inr (0, [.int 1, .ref r, .int 1])), ((a 3), .inr (0, [.int 0, .ref z, .int 0])), ((a 4), .inr (0, [.int 0, .ref z, .int 0])), ((a 5), .inr (0, [.int 0, .ref z, .int 0])), (r, .inl (cO, 10, .inr (.inr (.inr (.inr (va_up (fun _ => none) 0 (some m1))))))), (m1, .inr (3, [.int 0, .int 60, .int 0, .int 1, .int 0, .int 0, .int 1, .int 0, .int 0]))]
def hz_a (a : Nat → Nat) (r m1 m2 : Nat) : Nat → Nat := fun k => match k with
  | 6 => r
  | 7 => m1
  | 8 => m2
  | k => a k
def hz_pp : Nat → Int32 := fun k => match k with
  | 1 => 60
  | 2 => 1
  | 6 => 60
  | 7 => 1
  | _ => 0
set_option maxHeartbeats 4000000 in
set_option maxRecDepth 100000 in
/-- mast, the first -/
theorem hs_mast1 (l : Launch) (D : va_G) (a : Nat → Nat) (z : Nat) (cO : ClassId) (th : Int32) : hs_Ki l D z (hs_t cO) yX12_mast (hr_wm yX12_mast cX12_mast 7 (some .int)) { frames := 5, cells := 2, slots := 19, locals := 101 } [.ref (a 0), .int 0, .int 60, .int 0, .int 1, .int 0, .int 0] [((a 0), .inr (2, [.int th, .ref (a 1), .int 0, .int 0])), ((a 1), .inr (1, [.ref (a 2), .ref (a 3), .ref (a 4), .ref (a 5), .int 0])), ((a 2), .inr (0, [.int 0, .ref z, .int 0])), ((a 3), .inr (0, [.int 0, .ref z, .int 0])), ((a 4), .inr (0, [.int 0, .ref z, .int 0])), ((a 5), .inr (0, [.int 0, .ref z, .int 0]))] 0 2 19 (fun (q : Int32) (_ : Nat × Nat) => q = 0) (fun u => hz_Y1 a z u.1 u.2 cO 0) := by
  refine hs_Ki_of (by decide) (Nat.le_of_ble_eq_true rfl) ?_
  intro p e s m args below meth c ls A hAe C0 hKT hp hl
  obtain ⟨hx, hb, hr9, hml, hown, hts, hK, hlk, hA, hN, hnm9⟩ := id C0
  have hl : lv_has ls 7 [(0, .ref (a 0)), (1, .int 0), (2, .int 60), (3, .int 0), (4, .int 1), (5, .int 0), (6, .int 0)] := hl
  refine lv_aload_n hx hb dX12_mast_0 rfl (lv_at hl 0 rfl) ?_
  refine lv_iload_n hx hb dX12_mast_1 rfl (lv_at hl 1 rfl) ?_
  refine lv_iconst (v := 0) hx hb dX12_mast_2 (by decide) ?_
  refine lv_bipush (v := 99) hx hb dX12_mast_3 (by decide) ?_
  refine hs_cSi C0 hKT hp (rest := [.ref (a 0)]) (n := 3) [] (hs_isIn l D z _ [((a 0), .inr (2, [.int th, .ref (a 1), .int 0, .int 0])), ((a 1), .inr (1, [.ref (a 2), .ref (a 3), .ref (a 4), .ref (a 5), .int 0])), ((a 2), .inr (0, [.int 0, .ref z, .int 0])), ((a 3), .inr (0, [.int 0, .ref z, .int 0])), ((a 4), .inr (0, [.int 0, .ref z, .int 0])), ((a 5), .inr (0, [.int 0, .ref z, .int 0]))] 0 0 99) rfl (hr_gS hw_139 hw_140 hw_119 hw_121) ⟨rfl, rfl⟩ (by decide +kernel) ⟨Nat.le_of_ble_eq_true rfl, Nat.le_of_ble_eq_true rfl⟩ ⟨Nat.le_of_ble_eq_true rfl, Nat.le_of_ble_eq_true rfl⟩ hl.1 rfl rfl (Nat.le_of_ble_eq_true rfl) dX12_mast_5 (fun q_5 u_5 H locs hv_5 hz9 hp => ?_)
  subst hv_5
  have hp : hr_H D A s.heap [((a 0), .inr (2, [.int th, .ref (a 1), .int 0, .int 0])), ((a 1), .inr (1, [.ref (a 2), .ref (a 3), .ref (a 4), .ref (a 5), .int 0])), ((a 2), .inr (0, [.int 0, .ref z, .int 0])), ((a 3), .inr (0, [.int 0, .ref z, .int 0])), ((a 4), .inr (0, [.int 0, .ref z, .int 0])), ((a 5), .inr (0, [.int 0, .ref z, .int 0]))] H _ := hp
  rw [hr_in_y (by decide) (by decide)]
  refine lv_if_eq (tgt := 61) hx hb dX12_mast_8 (by decide) (fun c9 => absurd c9 (by decide)) (fun _ => ?_)
  refine lv_iload_n hx hb dX12_mast_11 rfl (lv_at hl 2 rfl) ?_
  refine lv_bipush (v := 10) hx hb dX12_mast_12 (by decide) ?_
  refine lv_bipush (v := 60) hx hb dX12_mast_14 (by decide) ?_
  refine hs_cSi C0 hKT hp (rest := [.ref (a 0)]) (n := 3) [] (hs_isIn l D z _ [((a 0), .inr (2, [.int th, .ref (a 1), .int 0, .int 0])), ((a 1), .inr (1, [.ref (a 2), .ref (a 3), .ref (a 4), .ref (a 5), .int 0])), ((a 2), .inr (0, [.int 0, .ref z, .int 0])), ((a 3), .inr (0, [.int 0, .ref z, .int 0])), ((a 4), .inr (0, [.int 0, .ref z, .int 0])), ((a 5), .inr (0, [.int 0, .ref z, .int 0]))] 60 10 60) rfl (hr_gS hw_139 hw_140 hw_119 hw_121) ⟨rfl, rfl⟩ (by decide +kernel) ⟨Nat.le_of_ble_eq_true rfl, Nat.le_of_ble_eq_true rfl⟩ ⟨Nat.le_of_ble_eq_true rfl, Nat.le_of_ble_eq_true rfl⟩ hl.1 rfl rfl (Nat.le_of_ble_eq_true rfl) dX12_mast_16 (fun q_16 u_16 H locs hv_16 hz9 hp => ?_)
  subst hv_16
  have hp : hr_H D A s.heap [((a 0), .inr (2, [.int th, .ref (a 1), .int 0, .int 0])), ((a 1), .inr (1, [.ref (a 2), .ref (a 3), .ref (a 4), .ref (a 5), .int 0])), ((a 2), .inr (0, [.int 0, .ref z, .int 0])), ((a 3), .inr (0, [.int 0, .ref z, .int 0])), ((a 4), .inr (0, [.int 0, .ref z, .int 0])), ((a 5), .inr (0, [.int 0, .ref z, .int 0]))] H _ := hp
  rw [hr_in_y (by decide) (by decide)]
  refine lv_if_eq (tgt := 61) hx hb dX12_mast_19 (by decide) (fun c9 => absurd c9 (by decide)) (fun _ => ?_)
  refine lv_iload_n hx hb dX12_mast_22 rfl (lv_at hl 3 rfl) ?_
  refine lv_iconst (v := 0) hx hb dX12_mast_23 (by decide) ?_
  refine lv_iconst (v := 2) hx hb dX12_mast_24 (by decide) ?_
  refine hs_cSi C0 hKT hp (rest := [.ref (a 0)]) (n := 3) [] (hs_isIn l D z _ [((a 0), .inr (2, [.int th, .ref (a 1), .int 0, .int 0])), ((a 1), .inr (1, [.ref (a 2), .ref (a 3), .ref (a 4), .ref (a 5), .int 0])), ((a 2), .inr (0, [.int 0, .ref z, .int 0])), ((a 3), .inr (0, [.int 0, .ref z, .int 0])), ((a 4), .inr (0, [.int 0, .ref z, .int 0])), ((a 5), .inr (0, [.int 0, .ref z, .int 0]))] 0 0 2) rfl (hr_gS hw_139 hw_140 hw_119 hw_121) ⟨rfl, rfl⟩ (by decide +kernel) ⟨Nat.le_of_ble_eq_true rfl, Nat.le_of_ble_eq_true rfl⟩ ⟨Nat.le_of_ble_eq_true rfl, Nat.le_of_ble_eq_true rfl⟩ hl.1 rfl rfl (Nat.le_of_ble_eq_true rfl) dX12_mast_25 (fun q_25 u_25 H locs hv_25 hz9 hp => ?_)
  subst hv_25
  have hp : hr_H D A s.heap [((a 0), .inr (2, [.int th, .ref (a 1), .int 0, .int 0])), ((a 1), .inr (1, [.ref (a 2), .ref (a 3), .ref (a 4), .ref (a 5), .int 0])), ((a 2), .inr (0, [.int 0, .ref z, .int 0])), ((a 3), .inr (0, [.int 0, .ref z, .int 0])), ((a 4), .inr (0, [.int 0, .ref z, .int 0])), ((a 5), .inr (0, [.int 0, .ref z, .int 0]))] H _ := hp
  rw [hr_in_y (by decide) (by decide)]
  refine lv_if_eq (tgt := 61) hx hb dX12_mast_28 (by decide) (fun c9 => absurd c9 (by decide)) (fun _ => ?_)
  refine lv_iload hx hb dX12_mast_31 (lv_at hl 4 rfl) ?_
  refine lv_iconst (v := 1) hx hb dX12_mast_33 (by decide) ?_
  refine lv_iconst (v := 4) hx hb dX12_mast_34 (by decide) ?_
  refine hs_cSi C0 hKT hp (rest := [.ref (a 0)]) (n := 3) [] (hs_isIn l D z _ [((a 0), .inr (2, [.int th, .ref (a 1), .int 0, .int 0])), ((a 1), .inr (1, [.ref (a 2), .ref (a 3), .ref (a 4), .ref (a 5), .int 0])), ((a 2), .inr (0, [.int 0, .ref z, .int 0])), ((a 3), .inr (0, [.int 0, .ref z, .int 0])), ((a 4), .inr (0, [.int 0, .ref z, .int 0])), ((a 5), .inr (0, [.int 0, .ref z, .int 0]))] 1 1 4) rfl (hr_gS hw_139 hw_140 hw_119 hw_121) ⟨rfl, rfl⟩ (by decide +kernel) ⟨Nat.le_of_ble_eq_true rfl, Nat.le_of_ble_eq_true rfl⟩ ⟨Nat.le_of_ble_eq_true rfl, Nat.le_of_ble_eq_true rfl⟩ hl.1 rfl rfl (Nat.le_of_ble_eq_true rfl) dX12_mast_35 (fun q_35 u_35 H locs hv_35 hz9 hp => ?_)
  subst hv_35
  have hp : hr_H D A s.heap [((a 0), .inr (2, [.int th, .ref (a 1), .int 0, .int 0])), ((a 1), .inr (1, [.ref (a 2), .ref (a 3), .ref (a 4), .ref (a 5), .int 0])), ((a 2), .inr (0, [.int 0, .ref z, .int 0])), ((a 3), .inr (0, [.int 0, .ref z, .int 0])), ((a 4), .inr (0, [.int 0, .ref z, .int 0])), ((a 5), .inr (0, [.int 0, .ref z, .int 0]))] H _ := hp
  rw [hr_in_y (by decide) (by decide)]
  refine lv_if_eq (tgt := 61) hx hb dX12_mast_38 (by decide) (fun c9 => absurd c9 (by decide)) (fun _ => ?_)
  refine lv_iload hx hb dX12_mast_41 (lv_at hl 5 rfl) ?_
  refine lv_iconst (v := 0) hx hb dX12_mast_43 (by decide) ?_
  refine lv_iconst (v := 3) hx hb dX12_mast_44 (by decide) ?_
  refine hs_cSi C0 hKT hp (rest := [.ref (a 0)]) (n := 3) [] (hs_isIn l D z _ [((a 0), .inr (2, [.int th, .ref (a 1), .int 0, .int 0])), ((a 1), .inr (1, [.ref (a 2), .ref (a 3), .ref (a 4), .ref (a 5), .int 0])), ((a 2), .inr (0, [.int 0, .ref z, .int 0])), ((a 3), .inr (0, [.int 0, .ref z, .int 0])), ((a 4), .inr (0, [.int 0, .ref z, .int 0])), ((a 5), .inr (0, [.int 0, .ref z, .int 0]))] 0 0 3) rfl (hr_gS hw_139 hw_140 hw_119 hw_121) ⟨rfl, rfl⟩ (by decide +kernel) ⟨Nat.le_of_ble_eq_true rfl, Nat.le_of_ble_eq_true rfl⟩ ⟨Nat.le_of_ble_eq_true rfl, Nat.le_of_ble_eq_true rfl⟩ hl.1 rfl rfl (Nat.le_of_ble_eq_true rfl) dX12_mast_45 (fun q_45 u_45 H locs hv_45 hz9 hp => ?_)
  subst hv_45
  have hp : hr_H D A s.heap [((a 0), .inr (2, [.int th, .ref (a 1), .int 0, .int 0])), ((a 1), .inr (1, [.ref (a 2), .ref (a 3), .ref (a 4), .ref (a 5), .int 0])), ((a 2), .inr (0, [.int 0, .ref z, .int 0])), ((a 3), .inr (0, [.int 0, .ref z, .int 0])), ((a 4), .inr (0, [.int 0, .ref z, .int 0])), ((a 5), .inr (0, [.int 0, .ref z, .int 0]))] H _ := hp
  rw [hr_in_y (by decide) (by decide)]
  refine lv_if_eq (tgt := 61) hx hb dX12_mast_48 (by decide) (fun c9 => absurd c9 (by decide)) (fun _ => ?_)
  refine lv_iload hx hb dX12_mast_51 (lv_at hl 6 rfl) ?_
  refine lv_iconst (v := 0) hx hb dX12_mast_53 (by decide) ?_
  refine lv_iconst (v := 1) hx hb dX12_mast_54 (by decide) ?_
  refine hs_cSi C0 hKT hp (rest := [.ref (a 0)]) (n := 3) [] (hs_isIn l D z _ [((a 0), .inr (2, [.int th, .ref (a 1), .int 0, .int 0])), ((a 1), .inr (1, [.ref (a 2), .ref (a 3), .ref (a 4), .ref (a 5), .int 0])), ((a 2), .inr (0, [.int 0, .ref z, .int 0])), ((a 3), .inr (0, [.int 0, .ref z, .int 0])), ((a 4), .inr (0, [.int 0, .ref z, .int 0])), ((a 5), .inr (0, [.int 0, .ref z, .int 0]))] 0 0 1) rfl (hr_gS hw_139 hw_140 hw_119 hw_121) ⟨rfl, rfl⟩ (by decide +kernel) ⟨Nat.le_of_ble_eq_true rfl, Nat.le_of_ble_eq_true rfl⟩ ⟨Nat.le_of_ble_eq_true rfl, Nat.le_of_ble_eq_true rfl⟩ hl.1 rfl rfl (Nat.le_of_ble_eq_true rfl) dX12_mast_55 (fun q_55 u_55 H locs hv_55 hz9 hp => ?_)
  subst hv_55
  have hp : hr_H D A s.heap [((a 0), .inr (2, [.int th, .ref (a 1), .int 0, .int 0])), ((a 1), .inr (1, [.ref (a 2), .ref (a 3), .ref (a 4), .ref (a 5), .int 0])), ((a 2), .inr (0, [.int 0, .ref z, .int 0])), ((a 3), .inr (0, [.int 0, .ref z, .int 0])), ((a 4), .inr (0, [.int 0, .ref z, .int 0])), ((a 5), .inr (0, [.int 0, .ref z, .int 0]))] H _ := hp
  rw [hr_in_y (by decide) (by decide)]
  refine lv_if_ne (tgt := 65) hx hb dX12_mast_58 (by decide) (fun _ => ?_) (fun c9 => absurd c9 (by decide))
  refine lv_iconst (v := 0) hx hb dX12_mast_65 (by decide) ?_
  refine lv_iconst (v := 1) hx hb dX12_mast_66 (by decide) ?_
  refine hs_cVi C0 hKT hp (q0 := 0) (ci := 2) (Cn := RX12) (T := TX12) (N := 4) (rest := []) (n := 2) [((a 1), .inr (1, [.ref (a 2), .ref (a 3), .ref (a 4), .ref (a 5), .int 0])), ((a 2), .inr (0, [.int 0, .ref z, .int 0])), ((a 3), .inr (0, [.int 0, .ref z, .int 0])), ((a 4), .inr (0, [.int 0, .ref z, .int 0])), ((a 5), .inr (0, [.int 0, .ref z, .int 0]))] (hs_start l D z (a 0) cO th (.ref (a 1)) (.int 0) (.int 0)) rfl rfl rfl (hr_gV hw_141 hw_142 hw_143 hw_119 hw_131) ⟨rfl, rfl⟩ (by decide +kernel) ⟨Nat.le_of_ble_eq_true rfl, Nat.le_of_ble_eq_true rfl⟩ ⟨Nat.le_of_ble_eq_true rfl, Nat.le_of_ble_eq_true rfl⟩ hl.1 rfl rfl (Nat.le_of_ble_eq_true rfl) dX12_mast_67 (fun q_67 u_67 H locs hv_67 hz9 hp => ?_)
  subst hv_67
  have hp : hr_H D A s.heap [((a 0), .inr (2, [.int 0, .ref (a 1), .int 0, .int 0])), ((a 1), .inr (1, [.ref (a 2), .ref (a 3), .ref (a 4), .ref (a 5), .int 0])), ((a 2), .inr (0, [.int 0, .ref z, .int 0])), ((a 3), .inr (0, [.int 0, .ref z, .int 0])), ((a 4), .inr (0, [.int 0, .ref z, .int 0])), ((a 5), .inr (0, [.int 0, .ref z, .int 0]))] H _ := hp
  refine lv_if_ne (tgt := 101) hx hb dX12_mast_70 (by decide) (fun c9 => absurd c9 (by decide)) (fun _ => ?_)
  refine lv_aload_n hx hb dX12_mast_73 rfl (lv_at hl 0 rfl) ?_
  refine lv_aload_n hx hb dX12_mast_74 rfl (lv_at hl 0 rfl) ?_
  refine hr_get C0 hp (q0 := 0) (C := RX12) (T := TX12) (N := 4) (ci := 2) rfl rfl hr_uX12 1 (by decide) hw_126 (fun _ h9 => h9) rfl dX12_mast_75 ?_
  refine hr_get C0 hp (q0 := 1) (C := RX11) (T := TX11) (N := 5) (ci := 1) rfl rfl hr_uX11 0 (by decide) hw_136 (fun _ h9 => h9) rfl dX12_mast_78 ?_
  have hp := hr_perm (Y' := [((a 2), .inr (0, [.int 0, .ref z, .int 0])), ((a 0), .inr (2, [.int 0, .ref (a 1), .int 0, .int 0])), ((a 1), .inr (1, [.ref (a 2), .ref (a 3), .ref (a 4), .ref (a 5), .int 0])), ((a 3), .inr (0, [.int 0, .ref z, .int 0])), ((a 4), .inr (0, [.int 0, .ref z, .int 0])), ((a 5), .inr (0, [.int 0, .ref z, .int 0]))]) [2, 0, 1, 3, 4, 5] (by decide) rfl hp
  refine hs_cVi C0 hKT hp (q0 := 0) (ci := 0) (Cn := RJx4a65c) (T := TJx4a65c) (N := 3) (rest := [.ref (a 0)]) (n := 0) [((a 0), .inr (2, [.int 0, .ref (a 1), .int 0, .int 0])), ((a 1), .inr (1, [.ref (a 2), .ref (a 3), .ref (a 4), .ref (a 5), .int 0])), ((a 3), .inr (0, [.int 0, .ref z, .int 0])), ((a 4), .inr (0, [.int 0, .ref z, .int 0])), ((a 5), .inr (0, [.int 0, .ref z, .int 0]))] (hs_sizeG l D z (a 2) cO 0 0 (.ref z)) rfl rfl rfl (hr_gV hw_144 hw_107 hw_108 hw_20 hw_109) ⟨rfl, rfl⟩ (by decide +kernel) ⟨Nat.le_of_ble_eq_true rfl, Nat.le_of_ble_eq_true rfl⟩ ⟨Nat.le_of_ble_eq_true rfl, Nat.le_of_ble_eq_true rfl⟩ hl.1 rfl rfl (Nat.le_of_ble_eq_true rfl) dX12_mast_81 (fun q_81 u_81 H locs hv_81 hz9 hp => ?_)
  subst hv_81
  have hp : hr_H D A s.heap [((a 2), .inr (0, [.int 0, .ref z, .int 0])), ((a 0), .inr (2, [.int 0, .ref (a 1), .int 0, .int 0])), ((a 1), .inr (1, [.ref (a 2), .ref (a 3), .ref (a 4), .ref (a 5), .int 0])), ((a 3), .inr (0, [.int 0, .ref z, .int 0])), ((a 4), .inr (0, [.int 0, .ref z, .int 0])), ((a 5), .inr (0, [.int 0, .ref z, .int 0]))] H _ := hp
  refine lv_bipush (v := 6) hx hb dX12_mast_84 (by decide) ?_
  refine lv_icmp_ne (tgt := 93) hx hb dX12_mast_86 (by decide) (fun _ => ?_) (fun c9 => absurd c9 (by decide))
  refine lv_iconst (v := 0) hx hb dX12_mast_93 (by decide) ?_
  refine lv_iconst (v := 2) hx hb dX12_mast_94 (by decide) ?_
  have hp := hr_perm (Y' := [((a 0), .inr (2, [.int 0, .ref (a 1), .int 0, .int 0])), ((a 2), .inr (0, [.int 0, .ref z, .int 0])), ((a 1), .inr (1, [.ref (a 2), .ref (a 3), .ref (a 4), .ref (a 5), .int 0])), ((a 3), .inr (0, [.int 0, .ref z, .int 0])), ((a 4), .inr (0, [.int 0, .ref z, .int 0])), ((a 5), .inr (0, [.int 0, .ref z, .int 0]))]) [1, 0, 2, 3, 4, 5] (by decide) rfl hp
  refine hs_cVi C0 hKT hp (q0 := 0) (ci := 2) (Cn := RX12) (T := TX12) (N := 4) (rest := []) (n := 2) [((a 2), .inr (0, [.int 0, .ref z, .int 0])), ((a 1), .inr (1, [.ref (a 2), .ref (a 3), .ref (a 4), .ref (a 5), .int 0])), ((a 3), .inr (0, [.int 0, .ref z, .int 0])), ((a 4), .inr (0, [.int 0, .ref z, .int 0])), ((a 5), .inr (0, [.int 0, .ref z, .int 0]))] (hs_refuse l D z (a 0) cO 2 (.ref (a 1)) (.int 0) (.int 0)) rfl rfl rfl (hr_gV hw_132 hw_133 hw_134 hw_119 hw_130) ⟨rfl, rfl⟩ (by decide +kernel) ⟨Nat.le_of_ble_eq_true rfl, Nat.le_of_ble_eq_true rfl⟩ ⟨Nat.le_of_ble_eq_true rfl, Nat.le_of_ble_eq_true rfl⟩ hl.1 rfl rfl (Nat.le_of_ble_eq_true rfl) dX12_mast_95 (fun q_95 u_95 H locs hv_95 hz9 hp => ?_)
  subst hv_95
  have hp : hr_H D A s.heap [((a 0), .inr (2, [.int 0, .ref (a 1), .int 0, .int 0])), ((a 2), .inr (0, [.int 0, .ref z, .int 0])), ((a 1), .inr (1, [.ref (a 2), .ref (a 3), .ref (a 4), .ref (a 5), .int 0])), ((a 3), .inr (0, [.int 0, .ref z, .int 0])), ((a 4), .inr (0, [.int 0, .ref z, .int 0])), ((a 5), .inr (0, [.int 0, .ref z, .int 0]))] H _ := hp
  refine lv_if_eq (tgt := 103) hx hb dX12_mast_98 (by decide) (fun _ => ?_) (fun c9 => absurd c9 (by decide))
  refine lv_aload_n hx hb dX12_mast_103 rfl (lv_at hl 0 rfl) ?_
  refine hr_get C0 hp (q0 := 0) (C := RX12) (T := TX12) (N := 4) (ci := 2) rfl rfl hr_uX12 1 (by decide) hw_126 (fun _ h9 => h9) rfl dX12_mast_104 ?_
  refine hr_get C0 hp (q0 := 2) (C := RX11) (T := TX11) (N := 5) (ci := 1) rfl rfl hr_uX11 0 (by decide) hw_136 (fun _ h9 => h9) rfl dX12_mast_107 ?_
  refine hr_new C0 hp (ci := 3) (fs := [.int 0, .int 0, .int 0, .int 0, .int 0, .int 0, .int 0, .int 0, .int 0]) (C := RX9) (T := TX9) (N := 9) (ty0 := tyX9) rfl hr_uX9 tyX9_ok hw_176 hw_138 hw_98 (fun j hj => by rcases (show j = 0 ∨ j = 1 ∨ j = 2 ∨ j = 3 ∨ j = 4 ∨ j = 5 ∨ j = 6 ∨ j = 7 ∨ j = 8 by omega) with rfl | rfl | rfl | rfl | rfl | rfl | rfl | rfl | rfl <;> rfl) (Nat.le_of_ble_eq_true rfl) (Nat.le_of_ble_eq_true rfl) dX12_mast_110 (fun q_110 H hp => ?_)
  have hp : hr_H D A s.heap [((a 0), .inr (2, [.int 0, .ref (a 1), .int 0, .int 0])), ((a 2), .inr (0, [.int 0, .ref z, .int 0])), ((a 1), .inr (1, [.ref (a 2), .ref (a 3), .ref (a 4), .ref (a 5), .int 0])), ((a 3), .inr (0, [.int 0, .ref z, .int 0])), ((a 4), .inr (0, [.int 0, .ref z, .int 0])), ((a 5), .inr (0, [.int 0, .ref z, .int 0])), (q_110, .inr (3, [.int 0, .int 0, .int 0, .int 0, .int 0, .int 0, .int 0, .int 0, .int 0]))] H _ := hp
  refine W.widen (k := 1) (n := 9) (by decide) (by decide) ?_
  refine lv_dup hx hb dX12_mast_113 rfl ?_
  refine lv_iload_n hx hb dX12_mast_114 rfl (lv_at hl 1 rfl) ?_
  refine lv_iload_n hx hb dX12_mast_115 rfl (lv_at hl 2 rfl) ?_
  refine lv_iload_n hx hb dX12_mast_116 rfl (lv_at hl 3 rfl) ?_
  refine lv_iload hx hb dX12_mast_117 (lv_at hl 4 rfl) ?_
  refine lv_iload hx hb dX12_mast_119 (lv_at hl 5 rfl) ?_
  refine lv_iload hx hb dX12_mast_121 (lv_at hl 6 rfl) ?_
  have hp := hr_perm (Y' := [(q_110, .inr (3, [.int 0, .int 0, .int 0, .int 0, .int 0, .int 0, .int 0, .int 0, .int 0])), ((a 0), .inr (2, [.int 0, .ref (a 1), .int 0, .int 0])), ((a 2), .inr (0, [.int 0, .ref z, .int 0])), ((a 1), .inr (1, [.ref (a 2), .ref (a 3), .ref (a 4), .ref (a 5), .int 0])), ((a 3), .inr (0, [.int 0, .ref z, .int 0])), ((a 4), .inr (0, [.int 0, .ref z, .int 0])), ((a 5), .inr (0, [.int 0, .ref z, .int 0]))]) [6, 0, 1, 2, 3, 4, 5] (by decide) rfl hp
  refine hs_cIv C0 hKT hp (rest := [.ref q_110, .ref (a 2)]) (n := 6) [((a 0), .inr (2, [.int 0, .ref (a 1), .int 0, .int 0])), ((a 2), .inr (0, [.int 0, .ref z, .int 0])), ((a 1), .inr (1, [.ref (a 2), .ref (a 3), .ref (a 4), .ref (a 5), .int 0])), ((a 3), .inr (0, [.int 0, .ref z, .int 0])), ((a 4), .inr (0, [.int 0, .ref z, .int 0])), ((a 5), .inr (0, [.int 0, .ref z, .int 0]))] (hs_mk_0 l D z q_110 cO) rfl hw_0 hw_98 hw_145 hw_146 rfl ⟨rfl, rfl⟩ (by decide +kernel) ⟨Nat.le_of_ble_eq_true rfl, Nat.le_of_ble_eq_true rfl⟩ ⟨Nat.le_of_ble_eq_true rfl, Nat.le_of_ble_eq_true rfl⟩ hl.1 rfl rfl (Nat.le_of_ble_eq_true rfl) dX12_mast_123 (fun u_123 H locs hv_123 hz9 hp => ?_)
  have hp : hr_H D A s.heap [(q_110, .inr (3, [.int 0, .int 60, .int 0, .int 1, .int 0, .int 0, .int 1, .int 0, .int 0])), ((a 0), .inr (2, [.int 0, .ref (a 1), .int 0, .int 0])), ((a 2), .inr (0, [.int 0, .ref z, .int 0])), ((a 1), .inr (1, [.ref (a 2), .ref (a 3), .ref (a 4), .ref (a 5), .int 0])), ((a 3), .inr (0, [.int 0, .ref z, .int 0])), ((a 4), .inr (0, [.int 0, .ref z, .int 0])), ((a 5), .inr (0, [.int 0, .ref z, .int 0]))] H _ := hp
  have hp := hr_perm (Y' := [((a 2), .inr (0, [.int 0, .ref z, .int 0])), (q_110, .inr (3, [.int 0, .int 60, .int 0, .int 1, .int 0, .int 0, .int 1, .int 0, .int 0])), ((a 0), .inr (2, [.int 0, .ref (a 1), .int 0, .int 0])), ((a 1), .inr (1, [.ref (a 2), .ref (a 3), .ref (a 4), .ref (a 5), .int 0])), ((a 3), .inr (0, [.int 0, .ref z, .int 0])), ((a 4), .inr (0, [.int 0, .ref z, .int 0])), ((a 5), .inr (0, [.int 0, .ref z, .int 0]))]) [2, 0, 1, 3, 4, 5, 6] (by decide) rfl hp
  refine hs_cVi C0 hKT hp (q0 := 0) (ci := 0) (Cn := RJx4a65c) (T := TJx4a65c) (N := 3) (rest := []) (n := 1) [((a 0), .inr (2, [.int 0, .ref (a 1), .int 0, .int 0])), ((a 1), .inr (1, [.ref (a 2), .ref (a 3), .ref (a 4), .ref (a 5), .int 0])), ((a 3), .inr (0, [.int 0, .ref z, .int 0])), ((a 4), .inr (0, [.int 0, .ref z, .int 0])), ((a 5), .inr (0, [.int 0, .ref z, .int 0]))] (hs_addA1 l D z (a 2) q_110 cO [.int 0, .int 60, .int 0, .int 1, .int 0, .int 0, .int 1, .int 0, .int 0]) rfl rfl rfl (hr_gV hw_147 hw_148 hw_149 hw_20 hw_150) ⟨rfl, rfl⟩ (by decide +kernel) ⟨Nat.le_of_ble_eq_true rfl, Nat.le_of_ble_eq_true rfl⟩ ⟨Nat.le_of_ble_eq_true rfl, Nat.le_of_ble_eq_true rfl⟩ hl.1 rfl rfl (Nat.le_of_ble_eq_true rfl) dX12_mast_126 (fun q_126 u_126 H locs hv_126 hz9 hp => ?_)
  subst hv_126
  have hp : hr_H D A s.heap [((a 2), .inr (0, [.int 1, .ref u_126, .int 1])), (q_110, .inr (3, [.int 0, .int 60, .int 0, .int 1, .int 0, .int 0, .int 1, .int 0, .int 0])), (u_126, .inl (cO, 10, .inr (.inr (.inr (.inr (va_up (fun _ => none) 0 (some q_110))))))), ((a 0), .inr (2, [.int 0, .ref (a 1), .int 0, .int 0])), ((a 1), .inr (1, [.ref (a 2), .ref (a 3), .ref (a 4), .ref (a 5), .int 0])), ((a 3), .inr (0, [.int 0, .ref z, .int 0])), ((a 4), .inr (0, [.int 0, .ref z, .int 0])), ((a 5), .inr (0, [.int 0, .ref z, .int 0]))] H _ := hp
  refine W.widen (k := 2) (n := 19) (by decide) (by decide) ?_
  refine lv_pop hx hb dX12_mast_129 rfl ?_
  refine lv_aload_n hx hb dX12_mast_130 rfl (lv_at hl 0 rfl) ?_
  refine hr_get C0 hp (q0 := 3) (C := RX12) (T := TX12) (N := 4) (ci := 2) rfl rfl hr_uX12 1 (by decide) hw_126 (fun _ h9 => h9) rfl dX12_mast_131 ?_
  refine hr_get C0 hp (q0 := 4) (C := RX11) (T := TX11) (N := 5) (ci := 1) rfl rfl hr_uX11 0 (by decide) hw_136 (fun _ h9 => h9) rfl dX12_mast_134 ?_
  refine hs_cVi C0 hKT hp (q0 := 0) (ci := 0) (Cn := RJx4a65c) (T := TJx4a65c) (N := 3) (rest := []) (n := 0) [(q_110, .inr (3, [.int 0, .int 60, .int 0, .int 1, .int 0, .int 0, .int 1, .int 0, .int 0])), (u_126, .inl (cO, 10, .inr (.inr (.inr (.inr (va_up (fun _ => none) 0 (some q_110))))))), ((a 0), .inr (2, [.int 0, .ref (a 1), .int 0, .int 0])), ((a 1), .inr (1, [.ref (a 2), .ref (a 3), .ref (a 4), .ref (a 5), .int 0])), ((a 3), .inr (0, [.int 0, .ref z, .int 0])), ((a 4), .inr (0, [.int 0, .ref z, .int 0])), ((a 5), .inr (0, [.int 0, .ref z, .int 0]))] (hs_sizeG l D z (a 2) cO 1 1 (.ref u_126)) rfl rfl rfl (hr_gV hw_144 hw_107 hw_108 hw_20 hw_109) ⟨rfl, rfl⟩ (by decide +kernel) ⟨Nat.le_of_ble_eq_true rfl, Nat.le_of_ble_eq_true rfl⟩ ⟨Nat.le_of_ble_eq_true rfl, Nat.le_of_ble_eq_true rfl⟩ hl.1 rfl rfl (Nat.le_of_ble_eq_true rfl) dX12_mast_137 (fun q_137 u_137 H locs hv_137 hz9 hp => ?_)
  subst hv_137
  have hp : hr_H D A s.heap [((a 2), .inr (0, [.int 1, .ref u_126, .int 1])), (q_110, .inr (3, [.int 0, .int 60, .int 0, .int 1, .int 0, .int 0, .int 1, .int 0, .int 0])), (u_126, .inl (cO, 10, .inr (.inr (.inr (.inr (va_up (fun _ => none) 0 (some q_110))))))), ((a 0), .inr (2, [.int 0, .ref (a 1), .int 0, .int 0])), ((a 1), .inr (1, [.ref (a 2), .ref (a 3), .ref (a 4), .ref (a 5), .int 0])), ((a 3), .inr (0, [.int 0, .ref z, .int 0])), ((a 4), .inr (0, [.int 0, .ref z, .int 0])), ((a 5), .inr (0, [.int 0, .ref z, .int 0]))] H _ := hp
  refine lv_iconst (v := 1) hx hb dX12_mast_140 (by decide) ?_
  refine lv_isub hx hb dX12_mast_141 ?_
  rw [show (1 : Int32) - 1 = 0 from by decide]
  have hp := hr_perm (Y' := [((a 0), .inr (2, [.int 0, .ref (a 1), .int 0, .int 0])), ((a 1), .inr (1, [.ref (a 2), .ref (a 3), .ref (a 4), .ref (a 5), .int 0])), ((a 2), .inr (0, [.int 1, .ref u_126, .int 1])), ((a 3), .inr (0, [.int 0, .ref z, .int 0])), ((a 4), .inr (0, [.int 0, .ref z, .int 0])), ((a 5), .inr (0, [.int 0, .ref z, .int 0])), (u_126, .inl (cO, 10, .inr (.inr (.inr (.inr (va_up (fun _ => none) 0 (some q_110))))))), (q_110, .inr (3, [.int 0, .int 60, .int 0, .int 1, .int 0, .int 0, .int 1, .int 0, .int 0]))]) [3, 4, 0, 5, 6, 7, 2, 1] (by decide) rfl hp
  exact hs_iret (u_126, q_110) C0 hp hp.2.2.1 rfl ⟨Nat.le_of_ble_eq_true rfl, Nat.le_of_ble_eq_true rfl⟩ dX12_mast_142 rfl
set_option maxHeartbeats 4000000 in
set_option maxRecDepth 100000 in
/-- add, the second -/
theorem hs_addB3 (l : Launch) (D : va_G) (z b ee r m1 : Nat) (cO : ClassId) (fs : List Value) : hs_Kv l D z (hs_t cO) yJx4a65c_add_72be8 (hr_wm yJx4a65c_add_72be8 cJx4a65c_add_72be8 4 none) { frames := 0, cells := 0, slots := 0, locals := 0 } [.ref b, .ref ee, .ref r, .int 1] [(b, .inr (0, [.int 2, .ref r, .int 1])), (ee, .inr (3, fs)), (r, .inl (cO, 10, .inr (.inr (.inr (.inr (va_up (fun _ => none) 0 (some m1)))))))] 0 0 0 (fun (_ : Unit) => True) (fun _ => [(b, .inr (0, [.int 2, .ref r, .int 2])), (ee, .inr (3, fs)), (r, .inl (cO, 10, .inr (.inr (.inr (.inr (va_up (va_up (fun _ => none) 0 (some m1)) 1 (some ee)))))))]) := by
  refine hs_Kv_of (by decide) (Nat.le_of_ble_eq_true rfl) ?_
  intro p e s m args below meth c ls A hAe C0 hKT hp hl
  obtain ⟨hx, hb, hr9, hml, hown, hts, hK, hlk, hA, hN, hnm9⟩ := id C0
  have hl : lv_has ls 4 [(0, .ref b), (1, .ref ee), (2, .ref r), (3, .int 1)] := hl
  refine lv_iload_n hx hb dJx4a65c_add_72be8_0 rfl (lv_at hl 3 rfl) ?_
  refine lv_aload_n hx hb dJx4a65c_add_72be8_1 rfl (lv_at hl 2 rfl) ?_
  refine hs_alen C0 hKT 0 rfl hp (q0 := 2) (n := 10) (x := 10) rfl rfl dJx4a65c_add_72be8_2 ?_
  refine lv_icmp_ne (tgt := 11) hx hb dJx4a65c_add_72be8_3 (by decide) (fun _ => ?_) (fun c9 => absurd c9 (by decide))
  refine lv_aload_n hx hb dJx4a65c_add_72be8_11 rfl (lv_at hl 2 rfl) ?_
  refine lv_iload_n hx hb dJx4a65c_add_72be8_12 rfl (lv_at hl 3 rfl) ?_
  refine lv_aload_n hx hb dJx4a65c_add_72be8_13 rfl (lv_at hl 1 rfl) ?_
  refine hr_aastO C0 (r := (RX9, TX9, 9)) (ci := 3) hKT hN.1.2.2.2.2.2.2.1 hp (q0 := 2) (qk := 1) (n := 10) (f := (va_up (fun _ => none) 0 (some m1))) (k' := 1) (Y' := [(b, .inr (0, [.int 2, .ref r, .int 1])), (ee, .inr (3, fs)), (r, .inl (cO, 10, .inr (.inr (.inr (.inr (va_up (va_up (fun _ => none) 0 (some m1)) 1 (some ee)))))))]) rfl rfl rfl (by unfold vp_in; decide) (by decide) rfl dJx4a65c_add_72be8_14 (fun H locs hp => ?_)
  refine lv_aload_n hx hb dJx4a65c_add_72be8_15 rfl (lv_at hl 0 rfl) ?_
  refine lv_iload_n hx hb dJx4a65c_add_72be8_16 rfl (lv_at hl 3 rfl) ?_
  refine lv_iconst (v := 1) hx hb dJx4a65c_add_72be8_17 (by decide) ?_
  refine lv_iadd hx hb dJx4a65c_add_72be8_18 ?_
  rw [show (1 : Int32) + 1 = 2 from by decide]
  refine hr_put C0 hp (q0 := 0) (C := RJx4a65c) (T := TJx4a65c) (N := 3) (ci := 0) (ty0 := tyJx4a65c) (ty := .int) (Y' := [(b, .inr (0, [.int 2, .ref r, .int 2])), (ee, .inr (3, fs)), (r, .inl (cO, 10, .inr (.inr (.inr (.inr (va_up (va_up (fun _ => none) 0 (some m1)) 1 (some ee)))))))]) rfl rfl hr_uJx4a65c tyJx4a65c_ok nmJx4a65c 2 (by decide) hw_52 (fun _ h9 => h9) rfl (by decide +kernel) rfl rfl (Nat.le_of_ble_eq_true rfl) rfl dJx4a65c_add_72be8_19 (fun H locs hp => ?_)
  have hp := hr_perm (Y' := [(b, .inr (0, [.int 2, .ref r, .int 2])), (ee, .inr (3, fs)), (r, .inl (cO, 10, .inr (.inr (.inr (.inr (va_up (va_up (fun _ => none) 0 (some m1)) 1 (some ee)))))))]) [0, 1, 2] (by decide) rfl hp
  exact hs_vret () C0 hp hp.2.2.1 rfl ⟨Nat.le_of_ble_eq_true rfl, Nat.le_of_ble_eq_true rfl⟩ dJx4a65c_add_72be8_22 trivial
set_option maxHeartbeats 4000000 in
set_option maxRecDepth 100000 in
/-- add, the second -/
theorem hs_addB1 (l : Launch) (D : va_G) (z b ee r m1 : Nat) (cO : ClassId) (fs : List Value) : hs_Ki l D z (hs_t cO) yJx4a65c_add_9ea2d (hr_wm yJx4a65c_add_9ea2d cJx4a65c_add_9ea2d 2 (some .boolean)) { frames := 1, cells := 0, slots := 0, locals := 23 } [.ref b, .ref ee] [(b, .inr (0, [.int 1, .ref r, .int 1])), (ee, .inr (3, fs)), (r, .inl (cO, 10, .inr (.inr (.inr (.inr (va_up (fun _ => none) 0 (some m1)))))))] 0 0 0 (fun (q : Int32) (_ : Unit) => q = 1) (fun _ => [(b, .inr (0, [.int 2, .ref r, .int 2])), (ee, .inr (3, fs)), (r, .inl (cO, 10, .inr (.inr (.inr (.inr (va_up (va_up (fun _ => none) 0 (some m1)) 1 (some ee)))))))]) := by
  refine hs_Ki_of (by decide) (Nat.le_of_ble_eq_true rfl) ?_
  intro p e s m args below meth c ls A hAe C0 hKT hp hl
  obtain ⟨hx, hb, hr9, hml, hown, hts, hK, hlk, hA, hN, hnm9⟩ := id C0
  have hl : lv_has ls 2 [(0, .ref b), (1, .ref ee)] := hl
  refine lv_aload_n hx hb dJx4a65c_add_9ea2d_0 rfl (lv_at hl 0 rfl) ?_
  refine lv_dup hx hb dJx4a65c_add_9ea2d_1 rfl ?_
  refine hr_get C0 hp (q0 := 0) (C := RJx4a65c) (T := TJx4a65c) (N := 3) (ci := 0) rfl rfl hr_uJx4a65c 0 (by decide) hw_151 (u_same (hts _ hw_79)) rfl dJx4a65c_add_9ea2d_2 ?_
  refine lv_iconst (v := 1) hx hb dJx4a65c_add_9ea2d_5 (by decide) ?_
  refine lv_iadd hx hb dJx4a65c_add_9ea2d_6 ?_
  rw [show (1 : Int32) + 1 = 2 from by decide]
  refine hr_put C0 hp (q0 := 0) (C := RJx4a65c) (T := TJx4a65c) (N := 3) (ci := 0) (ty0 := tyJx4a65c) (ty := .int) (Y' := [(b, .inr (0, [.int 2, .ref r, .int 1])), (ee, .inr (3, fs)), (r, .inl (cO, 10, .inr (.inr (.inr (.inr (va_up (fun _ => none) 0 (some m1)))))))]) rfl rfl hr_uJx4a65c tyJx4a65c_ok nmJx4a65c 0 (by decide) hw_151 (u_same (hts _ hw_79)) rfl (by decide +kernel) rfl rfl (Nat.le_of_ble_eq_true rfl) rfl dJx4a65c_add_9ea2d_7 (fun H locs hp => ?_)
  refine lv_aload_n hx hb dJx4a65c_add_9ea2d_10 rfl (lv_at hl 0 rfl) ?_
  refine lv_aload_n hx hb dJx4a65c_add_9ea2d_11 rfl (lv_at hl 1 rfl) ?_
  refine lv_aload_n hx hb dJx4a65c_add_9ea2d_12 rfl (lv_at hl 0 rfl) ?_
  refine hr_get C0 hp (q0 := 0) (C := RJx4a65c) (T := TJx4a65c) (N := 3) (ci := 0) rfl rfl hr_uJx4a65c 1 (by decide) hw_29 (fun _ h9 => h9) rfl dJx4a65c_add_9ea2d_13 ?_
  refine lv_aload_n hx hb dJx4a65c_add_9ea2d_16 rfl (lv_at hl 0 rfl) ?_
  refine hr_get C0 hp (q0 := 0) (C := RJx4a65c) (T := TJx4a65c) (N := 3) (ci := 0) rfl rfl hr_uJx4a65c 2 (by decide) hw_52 (fun _ h9 => h9) rfl dJx4a65c_add_9ea2d_17 ?_
  refine hs_cVv C0 hKT hp (q0 := 0) (ci := 0) (Cn := RJx4a65c) (T := TJx4a65c) (N := 3) (rest := []) (n := 3) [] (hs_addB3 l D z b ee r m1 cO fs) rfl rfl rfl (hr_gV hw_152 hw_153 hw_154 hw_20 hw_155) ⟨rfl, rfl⟩ (by decide +kernel) ⟨Nat.le_of_ble_eq_true rfl, Nat.le_of_ble_eq_true rfl⟩ ⟨Nat.le_of_ble_eq_true rfl, Nat.le_of_ble_eq_true rfl⟩ hl.1 rfl rfl (Nat.le_of_ble_eq_true rfl) dJx4a65c_add_9ea2d_20 (fun u_20 H locs hv_20 hz9 hp => ?_)
  have hp : hr_H D A s.heap [(b, .inr (0, [.int 2, .ref r, .int 2])), (ee, .inr (3, fs)), (r, .inl (cO, 10, .inr (.inr (.inr (.inr (va_up (va_up (fun _ => none) 0 (some m1)) 1 (some ee)))))))] H _ := hp
  refine lv_iconst (v := 1) hx hb dJx4a65c_add_9ea2d_23 (by decide) ?_
  have hp := hr_perm (Y' := [(b, .inr (0, [.int 2, .ref r, .int 2])), (ee, .inr (3, fs)), (r, .inl (cO, 10, .inr (.inr (.inr (.inr (va_up (va_up (fun _ => none) 0 (some m1)) 1 (some ee)))))))]) [0, 1, 2] (by decide) rfl hp
  exact hs_zret () C0 hp hp.2.2.1 rfl (by decide) ⟨Nat.le_of_ble_eq_true rfl, Nat.le_of_ble_eq_true rfl⟩ dJx4a65c_add_9ea2d_24 rfl
set_option maxHeartbeats 4000000 in
set_option maxRecDepth 100000 in
/-- mast, the second -/
theorem hs_mast2 (l : Launch) (D : va_G) (a : Nat → Nat) (z r m1 : Nat) (cO : ClassId) (th : Int32) : hs_Ki l D z (hs_t cO) yX12_mast (hr_wm yX12_mast cX12_mast 7 (some .int)) { frames := 2, cells := 1, slots := 9, locals := 44 } [.ref (a 0), .int 0, .int 60, .int 2, .int 1, .int 0, .int 0] (hz_Y1 a z r m1 cO th) 0 1 9 (fun (q : Int32) (_ : Nat) => q = 1) (fun u => hs_Y (hz_a a r m1 u) z cO hz_pp 0) := by
  refine hs_Ki_of (by decide) (Nat.le_of_ble_eq_true rfl) ?_
  intro p e s m args below meth c ls A hAe C0 hKT hp hl
  obtain ⟨hx, hb, hr9, hml, hown, hts, hK, hlk, hA, hN, hnm9⟩ := id C0
  have hl : lv_has ls 7 [(0, .ref (a 0)), (1, .int 0), (2, .int 60), (3, .int 2), (4, .int 1), (5, .int 0), (6, .int 0)] := hl
  refine lv_aload_n hx hb dX12_mast_0 rfl (lv_at hl 0 rfl) ?_
  refine lv_iload_n hx hb dX12_mast_1 rfl (lv_at hl 1 rfl) ?_
  refine lv_iconst (v := 0) hx hb dX12_mast_2 (by decide) ?_
  refine lv_bipush (v := 99) hx hb dX12_mast_3 (by decide) ?_
  refine hs_cSi C0 hKT hp (rest := [.ref (a 0)]) (n := 3) [] (hs_isIn l D z _ [((a 0), .inr (2, [.int th, .ref (a 1), .int 0, .int 0])), ((a 1), .inr (1, [.ref (a 2), .ref (a 3), .ref (a 4), .ref (a 5), .int 0])), ((a 2), .inr (0, [.int 1, .ref r, .int 1])), ((a 3), .inr (0, [.int 0, .ref z, .int 0])), ((a 4), .inr (0, [.int 0, .ref z, .int 0])), ((a 5), .inr (0, [.int 0, .ref z, .int 0])), (r, .inl (cO, 10, .inr (.inr (.inr (.inr (va_up (fun _ => none) 0 (some m1))))))), (m1, .inr (3, [.int 0, .int 60, .int 0, .int 1, .int 0, .int 0, .int 1, .int 0, .int 0]))] 0 0 99) rfl (hr_gS hw_139 hw_140 hw_119 hw_121) ⟨rfl, rfl⟩ (by decide +kernel) ⟨Nat.le_of_ble_eq_true rfl, Nat.le_of_ble_eq_true rfl⟩ ⟨Nat.le_of_ble_eq_true rfl, Nat.le_of_ble_eq_true rfl⟩ hl.1 rfl rfl (Nat.le_of_ble_eq_true rfl) dX12_mast_5 (fun q_5 u_5 H locs hv_5 hz9 hp => ?_)
  subst hv_5
  have hp : hr_H D A s.heap [((a 0), .inr (2, [.int th, .ref (a 1), .int 0, .int 0])), ((a 1), .inr (1, [.ref (a 2), .ref (a 3), .ref (a 4), .ref (a 5), .int 0])), ((a 2), .inr (0, [.int 1, .ref r, .int 1])), ((a 3), .inr (0, [.int 0, .ref z, .int 0])), ((a 4), .inr (0, [.int 0, .ref z, .int 0])), ((a 5), .inr (0, [.int 0, .ref z, .int 0])), (r, .inl (cO, 10, .inr (.inr (.inr (.inr (va_up (fun _ => none) 0 (some m1))))))), (m1, .inr (3, [.int 0, .int 60, .int 0, .int 1, .int 0, .int 0, .int 1, .int 0, .int 0]))] H _ := hp
  rw [hr_in_y (by decide) (by decide)]
  refine lv_if_eq (tgt := 61) hx hb dX12_mast_8 (by decide) (fun c9 => absurd c9 (by decide)) (fun _ => ?_)
  refine lv_iload_n hx hb dX12_mast_11 rfl (lv_at hl 2 rfl) ?_
  refine lv_bipush (v := 10) hx hb dX12_mast_12 (by decide) ?_
  refine lv_bipush (v := 60) hx hb dX12_mast_14 (by decide) ?_
  refine hs_cSi C0 hKT hp (rest := [.ref (a 0)]) (n := 3) [] (hs_isIn l D z _ [((a 0), .inr (2, [.int th, .ref (a 1), .int 0, .int 0])), ((a 1), .inr (1, [.ref (a 2), .ref (a 3), .ref (a 4), .ref (a 5), .int 0])), ((a 2), .inr (0, [.int 1, .ref r, .int 1])), ((a 3), .inr (0, [.int 0, .ref z, .int 0])), ((a 4), .inr (0, [.int 0, .ref z, .int 0])), ((a 5), .inr (0, [.int 0, .ref z, .int 0])), (r, .inl (cO, 10, .inr (.inr (.inr (.inr (va_up (fun _ => none) 0 (some m1))))))), (m1, .inr (3, [.int 0, .int 60, .int 0, .int 1, .int 0, .int 0, .int 1, .int 0, .int 0]))] 60 10 60) rfl (hr_gS hw_139 hw_140 hw_119 hw_121) ⟨rfl, rfl⟩ (by decide +kernel) ⟨Nat.le_of_ble_eq_true rfl, Nat.le_of_ble_eq_true rfl⟩ ⟨Nat.le_of_ble_eq_true rfl, Nat.le_of_ble_eq_true rfl⟩ hl.1 rfl rfl (Nat.le_of_ble_eq_true rfl) dX12_mast_16 (fun q_16 u_16 H locs hv_16 hz9 hp => ?_)
  subst hv_16
  have hp : hr_H D A s.heap [((a 0), .inr (2, [.int th, .ref (a 1), .int 0, .int 0])), ((a 1), .inr (1, [.ref (a 2), .ref (a 3), .ref (a 4), .ref (a 5), .int 0])), ((a 2), .inr (0, [.int 1, .ref r, .int 1])), ((a 3), .inr (0, [.int 0, .ref z, .int 0])), ((a 4), .inr (0, [.int 0, .ref z, .int 0])), ((a 5), .inr (0, [.int 0, .ref z, .int 0])), (r, .inl (cO, 10, .inr (.inr (.inr (.inr (va_up (fun _ => none) 0 (some m1))))))), (m1, .inr (3, [.int 0, .int 60, .int 0, .int 1, .int 0, .int 0, .int 1, .int 0, .int 0]))] H _ := hp
  rw [hr_in_y (by decide) (by decide)]
  refine lv_if_eq (tgt := 61) hx hb dX12_mast_19 (by decide) (fun c9 => absurd c9 (by decide)) (fun _ => ?_)
  refine lv_iload_n hx hb dX12_mast_22 rfl (lv_at hl 3 rfl) ?_
  refine lv_iconst (v := 0) hx hb dX12_mast_23 (by decide) ?_
  refine lv_iconst (v := 2) hx hb dX12_mast_24 (by decide) ?_
  refine hs_cSi C0 hKT hp (rest := [.ref (a 0)]) (n := 3) [] (hs_isIn l D z _ [((a 0), .inr (2, [.int th, .ref (a 1), .int 0, .int 0])), ((a 1), .inr (1, [.ref (a 2), .ref (a 3), .ref (a 4), .ref (a 5), .int 0])), ((a 2), .inr (0, [.int 1, .ref r, .int 1])), ((a 3), .inr (0, [.int 0, .ref z, .int 0])), ((a 4), .inr (0, [.int 0, .ref z, .int 0])), ((a 5), .inr (0, [.int 0, .ref z, .int 0])), (r, .inl (cO, 10, .inr (.inr (.inr (.inr (va_up (fun _ => none) 0 (some m1))))))), (m1, .inr (3, [.int 0, .int 60, .int 0, .int 1, .int 0, .int 0, .int 1, .int 0, .int 0]))] 2 0 2) rfl (hr_gS hw_139 hw_140 hw_119 hw_121) ⟨rfl, rfl⟩ (by decide +kernel) ⟨Nat.le_of_ble_eq_true rfl, Nat.le_of_ble_eq_true rfl⟩ ⟨Nat.le_of_ble_eq_true rfl, Nat.le_of_ble_eq_true rfl⟩ hl.1 rfl rfl (Nat.le_of_ble_eq_true rfl) dX12_mast_25 (fun q_25 u_25 H locs hv_25 hz9 hp => ?_)
  subst hv_25
  have hp : hr_H D A s.heap [((a 0), .inr (2, [.int th, .ref (a 1), .int 0, .int 0])), ((a 1), .inr (1, [.ref (a 2), .ref (a 3), .ref (a 4), .ref (a 5), .int 0])), ((a 2), .inr (0, [.int 1, .ref r, .int 1])), ((a 3), .inr (0, [.int 0, .ref z, .int 0])), ((a 4), .inr (0, [.int 0, .ref z, .int 0])), ((a 5), .inr (0, [.int 0, .ref z, .int 0])), (r, .inl (cO, 10, .inr (.inr (.inr (.inr (va_up (fun _ => none) 0 (some m1))))))), (m1, .inr (3, [.int 0, .int 60, .int 0, .int 1, .int 0, .int 0, .int 1, .int 0, .int 0]))] H _ := hp
  rw [hr_in_y (by decide) (by decide)]
  refine lv_if_eq (tgt := 61) hx hb dX12_mast_28 (by decide) (fun c9 => absurd c9 (by decide)) (fun _ => ?_)
  refine lv_iload hx hb dX12_mast_31 (lv_at hl 4 rfl) ?_
  refine lv_iconst (v := 1) hx hb dX12_mast_33 (by decide) ?_
  refine lv_iconst (v := 4) hx hb dX12_mast_34 (by decide) ?_
  refine hs_cSi C0 hKT hp (rest := [.ref (a 0)]) (n := 3) [] (hs_isIn l D z _ [((a 0), .inr (2, [.int th, .ref (a 1), .int 0, .int 0])), ((a 1), .inr (1, [.ref (a 2), .ref (a 3), .ref (a 4), .ref (a 5), .int 0])), ((a 2), .inr (0, [.int 1, .ref r, .int 1])), ((a 3), .inr (0, [.int 0, .ref z, .int 0])), ((a 4), .inr (0, [.int 0, .ref z, .int 0])), ((a 5), .inr (0, [.int 0, .ref z, .int 0])), (r, .inl (cO, 10, .inr (.inr (.inr (.inr (va_up (fun _ => none) 0 (some m1))))))), (m1, .inr (3, [.int 0, .int 60, .int 0, .int 1, .int 0, .int 0, .int 1, .int 0, .int 0]))] 1 1 4) rfl (hr_gS hw_139 hw_140 hw_119 hw_121) ⟨rfl, rfl⟩ (by decide +kernel) ⟨Nat.le_of_ble_eq_true rfl, Nat.le_of_ble_eq_true rfl⟩ ⟨Nat.le_of_ble_eq_true rfl, Nat.le_of_ble_eq_true rfl⟩ hl.1 rfl rfl (Nat.le_of_ble_eq_true rfl) dX12_mast_35 (fun q_35 u_35 H locs hv_35 hz9 hp => ?_)
  subst hv_35
  have hp : hr_H D A s.heap [((a 0), .inr (2, [.int th, .ref (a 1), .int 0, .int 0])), ((a 1), .inr (1, [.ref (a 2), .ref (a 3), .ref (a 4), .ref (a 5), .int 0])), ((a 2), .inr (0, [.int 1, .ref r, .int 1])), ((a 3), .inr (0, [.int 0, .ref z, .int 0])), ((a 4), .inr (0, [.int 0, .ref z, .int 0])), ((a 5), .inr (0, [.int 0, .ref z, .int 0])), (r, .inl (cO, 10, .inr (.inr (.inr (.inr (va_up (fun _ => none) 0 (some m1))))))), (m1, .inr (3, [.int 0, .int 60, .int 0, .int 1, .int 0, .int 0, .int 1, .int 0, .int 0]))] H _ := hp
  rw [hr_in_y (by decide) (by decide)]
  refine lv_if_eq (tgt := 61) hx hb dX12_mast_38 (by decide) (fun c9 => absurd c9 (by decide)) (fun _ => ?_)
  refine lv_iload hx hb dX12_mast_41 (lv_at hl 5 rfl) ?_
  refine lv_iconst (v := 0) hx hb dX12_mast_43 (by decide) ?_
  refine lv_iconst (v := 3) hx hb dX12_mast_44 (by decide) ?_
  refine hs_cSi C0 hKT hp (rest := [.ref (a 0)]) (n := 3) [] (hs_isIn l D z _ [((a 0), .inr (2, [.int th, .ref (a 1), .int 0, .int 0])), ((a 1), .inr (1, [.ref (a 2), .ref (a 3), .ref (a 4), .ref (a 5), .int 0])), ((a 2), .inr (0, [.int 1, .ref r, .int 1])), ((a 3), .inr (0, [.int 0, .ref z, .int 0])), ((a 4), .inr (0, [.int 0, .ref z, .int 0])), ((a 5), .inr (0, [.int 0, .ref z, .int 0])), (r, .inl (cO, 10, .inr (.inr (.inr (.inr (va_up (fun _ => none) 0 (some m1))))))), (m1, .inr (3, [.int 0, .int 60, .int 0, .int 1, .int 0, .int 0, .int 1, .int 0, .int 0]))] 0 0 3) rfl (hr_gS hw_139 hw_140 hw_119 hw_121) ⟨rfl, rfl⟩ (by decide +kernel) ⟨Nat.le_of_ble_eq_true rfl, Nat.le_of_ble_eq_true rfl⟩ ⟨Nat.le_of_ble_eq_true rfl, Nat.le_of_ble_eq_true rfl⟩ hl.1 rfl rfl (Nat.le_of_ble_eq_true rfl) dX12_mast_45 (fun q_45 u_45 H locs hv_45 hz9 hp => ?_)
  subst hv_45
  have hp : hr_H D A s.heap [((a 0), .inr (2, [.int th, .ref (a 1), .int 0, .int 0])), ((a 1), .inr (1, [.ref (a 2), .ref (a 3), .ref (a 4), .ref (a 5), .int 0])), ((a 2), .inr (0, [.int 1, .ref r, .int 1])), ((a 3), .inr (0, [.int 0, .ref z, .int 0])), ((a 4), .inr (0, [.int 0, .ref z, .int 0])), ((a 5), .inr (0, [.int 0, .ref z, .int 0])), (r, .inl (cO, 10, .inr (.inr (.inr (.inr (va_up (fun _ => none) 0 (some m1))))))), (m1, .inr (3, [.int 0, .int 60, .int 0, .int 1, .int 0, .int 0, .int 1, .int 0, .int 0]))] H _ := hp
  rw [hr_in_y (by decide) (by decide)]
  refine lv_if_eq (tgt := 61) hx hb dX12_mast_48 (by decide) (fun c9 => absurd c9 (by decide)) (fun _ => ?_)
  refine lv_iload hx hb dX12_mast_51 (lv_at hl 6 rfl) ?_
  refine lv_iconst (v := 0) hx hb dX12_mast_53 (by decide) ?_
  refine lv_iconst (v := 1) hx hb dX12_mast_54 (by decide) ?_
  refine hs_cSi C0 hKT hp (rest := [.ref (a 0)]) (n := 3) [] (hs_isIn l D z _ [((a 0), .inr (2, [.int th, .ref (a 1), .int 0, .int 0])), ((a 1), .inr (1, [.ref (a 2), .ref (a 3), .ref (a 4), .ref (a 5), .int 0])), ((a 2), .inr (0, [.int 1, .ref r, .int 1])), ((a 3), .inr (0, [.int 0, .ref z, .int 0])), ((a 4), .inr (0, [.int 0, .ref z, .int 0])), ((a 5), .inr (0, [.int 0, .ref z, .int 0])), (r, .inl (cO, 10, .inr (.inr (.inr (.inr (va_up (fun _ => none) 0 (some m1))))))), (m1, .inr (3, [.int 0, .int 60, .int 0, .int 1, .int 0, .int 0, .int 1, .int 0, .int 0]))] 0 0 1) rfl (hr_gS hw_139 hw_140 hw_119 hw_121) ⟨rfl, rfl⟩ (by decide +kernel) ⟨Nat.le_of_ble_eq_true rfl, Nat.le_of_ble_eq_true rfl⟩ ⟨Nat.le_of_ble_eq_true rfl, Nat.le_of_ble_eq_true rfl⟩ hl.1 rfl rfl (Nat.le_of_ble_eq_true rfl) dX12_mast_55 (fun q_55 u_55 H locs hv_55 hz9 hp => ?_)
  subst hv_55
  have hp : hr_H D A s.heap [((a 0), .inr (2, [.int th, .ref (a 1), .int 0, .int 0])), ((a 1), .inr (1, [.ref (a 2), .ref (a 3), .ref (a 4), .ref (a 5), .int 0])), ((a 2), .inr (0, [.int 1, .ref r, .int 1])), ((a 3), .inr (0, [.int 0, .ref z, .int 0])), ((a 4), .inr (0, [.int 0, .ref z, .int 0])), ((a 5), .inr (0, [.int 0, .ref z, .int 0])), (r, .inl (cO, 10, .inr (.inr (.inr (.inr (va_up (fun _ => none) 0 (some m1))))))), (m1, .inr (3, [.int 0, .int 60, .int 0, .int 1, .int 0, .int 0, .int 1, .int 0, .int 0]))] H _ := hp
  rw [hr_in_y (by decide) (by decide)]
  refine lv_if_ne (tgt := 65) hx hb dX12_mast_58 (by decide) (fun _ => ?_) (fun c9 => absurd c9 (by decide))
  refine lv_iconst (v := 0) hx hb dX12_mast_65 (by decide) ?_
  refine lv_iconst (v := 1) hx hb dX12_mast_66 (by decide) ?_
  refine hs_cVi C0 hKT hp (q0 := 0) (ci := 2) (Cn := RX12) (T := TX12) (N := 4) (rest := []) (n := 2) [((a 1), .inr (1, [.ref (a 2), .ref (a 3), .ref (a 4), .ref (a 5), .int 0])), ((a 2), .inr (0, [.int 1, .ref r, .int 1])), ((a 3), .inr (0, [.int 0, .ref z, .int 0])), ((a 4), .inr (0, [.int 0, .ref z, .int 0])), ((a 5), .inr (0, [.int 0, .ref z, .int 0])), (r, .inl (cO, 10, .inr (.inr (.inr (.inr (va_up (fun _ => none) 0 (some m1))))))), (m1, .inr (3, [.int 0, .int 60, .int 0, .int 1, .int 0, .int 0, .int 1, .int 0, .int 0]))] (hs_start l D z (a 0) cO th (.ref (a 1)) (.int 0) (.int 0)) rfl rfl rfl (hr_gV hw_141 hw_142 hw_143 hw_119 hw_131) ⟨rfl, rfl⟩ (by decide +kernel) ⟨Nat.le_of_ble_eq_true rfl, Nat.le_of_ble_eq_true rfl⟩ ⟨Nat.le_of_ble_eq_true rfl, Nat.le_of_ble_eq_true rfl⟩ hl.1 rfl rfl (Nat.le_of_ble_eq_true rfl) dX12_mast_67 (fun q_67 u_67 H locs hv_67 hz9 hp => ?_)
  subst hv_67
  have hp : hr_H D A s.heap [((a 0), .inr (2, [.int 0, .ref (a 1), .int 0, .int 0])), ((a 1), .inr (1, [.ref (a 2), .ref (a 3), .ref (a 4), .ref (a 5), .int 0])), ((a 2), .inr (0, [.int 1, .ref r, .int 1])), ((a 3), .inr (0, [.int 0, .ref z, .int 0])), ((a 4), .inr (0, [.int 0, .ref z, .int 0])), ((a 5), .inr (0, [.int 0, .ref z, .int 0])), (r, .inl (cO, 10, .inr (.inr (.inr (.inr (va_up (fun _ => none) 0 (some m1))))))), (m1, .inr (3, [.int 0, .int 60, .int 0, .int 1, .int 0, .int 0, .int 1, .int 0, .int 0]))] H _ := hp
  refine lv_if_ne (tgt := 101) hx hb dX12_mast_70 (by decide) (fun c9 => absurd c9 (by decide)) (fun _ => ?_)
  refine lv_aload_n hx hb dX12_mast_73 rfl (lv_at hl 0 rfl) ?_
  refine lv_aload_n hx hb dX12_mast_74 rfl (lv_at hl 0 rfl) ?_
  refine hr_get C0 hp (q0 := 0) (C := RX12) (T := TX12) (N := 4) (ci := 2) rfl rfl hr_uX12 1 (by decide) hw_126 (fun _ h9 => h9) rfl dX12_mast_75 ?_
  refine hr_get C0 hp (q0 := 1) (C := RX11) (T := TX11) (N := 5) (ci := 1) rfl rfl hr_uX11 0 (by decide) hw_136 (fun _ h9 => h9) rfl dX12_mast_78 ?_
  have hp := hr_perm (Y' := [((a 2), .inr (0, [.int 1, .ref r, .int 1])), ((a 0), .inr (2, [.int 0, .ref (a 1), .int 0, .int 0])), ((a 1), .inr (1, [.ref (a 2), .ref (a 3), .ref (a 4), .ref (a 5), .int 0])), ((a 3), .inr (0, [.int 0, .ref z, .int 0])), ((a 4), .inr (0, [.int 0, .ref z, .int 0])), ((a 5), .inr (0, [.int 0, .ref z, .int 0])), (r, .inl (cO, 10, .inr (.inr (.inr (.inr (va_up (fun _ => none) 0 (some m1))))))), (m1, .inr (3, [.int 0, .int 60, .int 0, .int 1, .int 0, .int 0, .int 1, .int 0, .int 0]))]) [2, 0, 1, 3, 4, 5, 6, 7] (by decide) rfl hp
  refine hs_cVi C0 hKT hp (q0 := 0) (ci := 0) (Cn := RJx4a65c) (T := TJx4a65c) (N := 3) (rest := [.ref (a 0)]) (n := 0) [((a 0), .inr (2, [.int 0, .ref (a 1), .int 0, .int 0])), ((a 1), .inr (1, [.ref (a 2), .ref (a 3), .ref (a 4), .ref (a 5), .int 0])), ((a 3), .inr (0, [.int 0, .ref z, .int 0])), ((a 4), .inr (0, [.int 0, .ref z, .int 0])), ((a 5), .inr (0, [.int 0, .ref z, .int 0])), (r, .inl (cO, 10, .inr (.inr (.inr (.inr (va_up (fun _ => none) 0 (some m1))))))), (m1, .inr (3, [.int 0, .int 60, .int 0, .int 1, .int 0, .int 0, .int 1, .int 0, .int 0]))] (hs_sizeG l D z (a 2) cO 1 1 (.ref r)) rfl rfl rfl (hr_gV hw_144 hw_107 hw_108 hw_20 hw_109) ⟨rfl, rfl⟩ (by decide +kernel) ⟨Nat.le_of_ble_eq_true rfl, Nat.le_of_ble_eq_true rfl⟩ ⟨Nat.le_of_ble_eq_true rfl, Nat.le_of_ble_eq_true rfl⟩ hl.1 rfl rfl (Nat.le_of_ble_eq_true rfl) dX12_mast_81 (fun q_81 u_81 H locs hv_81 hz9 hp => ?_)
  subst hv_81
  have hp : hr_H D A s.heap [((a 2), .inr (0, [.int 1, .ref r, .int 1])), ((a 0), .inr (2, [.int 0, .ref (a 1), .int 0, .int 0])), ((a 1), .inr (1, [.ref (a 2), .ref (a 3), .ref (a 4), .ref (a 5), .int 0])), ((a 3), .inr (0, [.int 0, .ref z, .int 0])), ((a 4), .inr (0, [.int 0, .ref z, .int 0])), ((a 5), .inr (0, [.int 0, .ref z, .int 0])), (r, .inl (cO, 10, .inr (.inr (.inr (.inr (va_up (fun _ => none) 0 (some m1))))))), (m1, .inr (3, [.int 0, .int 60, .int 0, .int 1, .int 0, .int 0, .int 1, .int 0, .int 0]))] H _ := hp
  refine lv_bipush (v := 6) hx hb dX12_mast_84 (by decide) ?_
  refine lv_icmp_ne (tgt := 93) hx hb dX12_mast_86 (by decide) (fun _ => ?_) (fun c9 => absurd c9 (by decide))
  refine lv_iconst (v := 0) hx hb dX12_mast_93 (by decide) ?_
  refine lv_iconst (v := 2) hx hb dX12_mast_94 (by decide) ?_
  have hp := hr_perm (Y' := [((a 0), .inr (2, [.int 0, .ref (a 1), .int 0, .int 0])), ((a 2), .inr (0, [.int 1, .ref r, .int 1])), ((a 1), .inr (1, [.ref (a 2), .ref (a 3), .ref (a 4), .ref (a 5), .int 0])), ((a 3), .inr (0, [.int 0, .ref z, .int 0])), ((a 4), .inr (0, [.int 0, .ref z, .int 0])), ((a 5), .inr (0, [.int 0, .ref z, .int 0])), (r, .inl (cO, 10, .inr (.inr (.inr (.inr (va_up (fun _ => none) 0 (some m1))))))), (m1, .inr (3, [.int 0, .int 60, .int 0, .int 1, .int 0, .int 0, .int 1, .int 0, .int 0]))]) [1, 0, 2, 3, 4, 5, 6, 7] (by decide) rfl hp
  refine hs_cVi C0 hKT hp (q0 := 0) (ci := 2) (Cn := RX12) (T := TX12) (N := 4) (rest := []) (n := 2) [((a 2), .inr (0, [.int 1, .ref r, .int 1])), ((a 1), .inr (1, [.ref (a 2), .ref (a 3), .ref (a 4), .ref (a 5), .int 0])), ((a 3), .inr (0, [.int 0, .ref z, .int 0])), ((a 4), .inr (0, [.int 0, .ref z, .int 0])), ((a 5), .inr (0, [.int 0, .ref z, .int 0])), (r, .inl (cO, 10, .inr (.inr (.inr (.inr (va_up (fun _ => none) 0 (some m1))))))), (m1, .inr (3, [.int 0, .int 60, .int 0, .int 1, .int 0, .int 0, .int 1, .int 0, .int 0]))] (hs_refuse l D z (a 0) cO 2 (.ref (a 1)) (.int 0) (.int 0)) rfl rfl rfl (hr_gV hw_132 hw_133 hw_134 hw_119 hw_130) ⟨rfl, rfl⟩ (by decide +kernel) ⟨Nat.le_of_ble_eq_true rfl, Nat.le_of_ble_eq_true rfl⟩ ⟨Nat.le_of_ble_eq_true rfl, Nat.le_of_ble_eq_true rfl⟩ hl.1 rfl rfl (Nat.le_of_ble_eq_true rfl) dX12_mast_95 (fun q_95 u_95 H locs hv_95 hz9 hp => ?_)
  subst hv_95
  have hp : hr_H D A s.heap [((a 0), .inr (2, [.int 0, .ref (a 1), .int 0, .int 0])), ((a 2), .inr (0, [.int 1, .ref r, .int 1])), ((a 1), .inr (1, [.ref (a 2), .ref (a 3), .ref (a 4), .ref (a 5), .int 0])), ((a 3), .inr (0, [.int 0, .ref z, .int 0])), ((a 4), .inr (0, [.int 0, .ref z, .int 0])), ((a 5), .inr (0, [.int 0, .ref z, .int 0])), (r, .inl (cO, 10, .inr (.inr (.inr (.inr (va_up (fun _ => none) 0 (some m1))))))), (m1, .inr (3, [.int 0, .int 60, .int 0, .int 1, .int 0, .int 0, .int 1, .int 0, .int 0]))] H _ := hp
  refine lv_if_eq (tgt := 103) hx hb dX12_mast_98 (by decide) (fun _ => ?_) (fun c9 => absurd c9 (by decide))
  refine lv_aload_n hx hb dX12_mast_103 rfl (lv_at hl 0 rfl) ?_
  refine hr_get C0 hp (q0 := 0) (C := RX12) (T := TX12) (N := 4) (ci := 2) rfl rfl hr_uX12 1 (by decide) hw_126 (fun _ h9 => h9) rfl dX12_mast_104 ?_
  refine hr_get C0 hp (q0 := 2) (C := RX11) (T := TX11) (N := 5) (ci := 1) rfl rfl hr_uX11 0 (by decide) hw_136 (fun _ h9 => h9) rfl dX12_mast_107 ?_
  refine hr_new C0 hp (ci := 3) (fs := [.int 0, .int 0, .int 0, .int 0, .int 0, .int 0, .int 0, .int 0, .int 0]) (C := RX9) (T := TX9) (N := 9) (ty0 := tyX9) rfl hr_uX9 tyX9_ok hw_176 hw_138 hw_98 (fun j hj => by rcases (show j = 0 ∨ j = 1 ∨ j = 2 ∨ j = 3 ∨ j = 4 ∨ j = 5 ∨ j = 6 ∨ j = 7 ∨ j = 8 by omega) with rfl | rfl | rfl | rfl | rfl | rfl | rfl | rfl | rfl <;> rfl) (Nat.le_of_ble_eq_true rfl) (Nat.le_of_ble_eq_true rfl) dX12_mast_110 (fun q_110 H hp => ?_)
  have hp : hr_H D A s.heap [((a 0), .inr (2, [.int 0, .ref (a 1), .int 0, .int 0])), ((a 2), .inr (0, [.int 1, .ref r, .int 1])), ((a 1), .inr (1, [.ref (a 2), .ref (a 3), .ref (a 4), .ref (a 5), .int 0])), ((a 3), .inr (0, [.int 0, .ref z, .int 0])), ((a 4), .inr (0, [.int 0, .ref z, .int 0])), ((a 5), .inr (0, [.int 0, .ref z, .int 0])), (r, .inl (cO, 10, .inr (.inr (.inr (.inr (va_up (fun _ => none) 0 (some m1))))))), (m1, .inr (3, [.int 0, .int 60, .int 0, .int 1, .int 0, .int 0, .int 1, .int 0, .int 0])), (q_110, .inr (3, [.int 0, .int 0, .int 0, .int 0, .int 0, .int 0, .int 0, .int 0, .int 0]))] H _ := hp
  refine W.widen (k := 1) (n := 9) (by decide) (by decide) ?_
  refine lv_dup hx hb dX12_mast_113 rfl ?_
  refine lv_iload_n hx hb dX12_mast_114 rfl (lv_at hl 1 rfl) ?_
  refine lv_iload_n hx hb dX12_mast_115 rfl (lv_at hl 2 rfl) ?_
  refine lv_iload_n hx hb dX12_mast_116 rfl (lv_at hl 3 rfl) ?_
  refine lv_iload hx hb dX12_mast_117 (lv_at hl 4 rfl) ?_
  refine lv_iload hx hb dX12_mast_119 (lv_at hl 5 rfl) ?_
  refine lv_iload hx hb dX12_mast_121 (lv_at hl 6 rfl) ?_
  have hp := hr_perm (Y' := [(q_110, .inr (3, [.int 0, .int 0, .int 0, .int 0, .int 0, .int 0, .int 0, .int 0, .int 0])), ((a 0), .inr (2, [.int 0, .ref (a 1), .int 0, .int 0])), ((a 2), .inr (0, [.int 1, .ref r, .int 1])), ((a 1), .inr (1, [.ref (a 2), .ref (a 3), .ref (a 4), .ref (a 5), .int 0])), ((a 3), .inr (0, [.int 0, .ref z, .int 0])), ((a 4), .inr (0, [.int 0, .ref z, .int 0])), ((a 5), .inr (0, [.int 0, .ref z, .int 0])), (r, .inl (cO, 10, .inr (.inr (.inr (.inr (va_up (fun _ => none) 0 (some m1))))))), (m1, .inr (3, [.int 0, .int 60, .int 0, .int 1, .int 0, .int 0, .int 1, .int 0, .int 0]))]) [8, 0, 1, 2, 3, 4, 5, 6, 7] (by decide) rfl hp
  refine hs_cIv C0 hKT hp (rest := [.ref q_110, .ref (a 2)]) (n := 6) [((a 0), .inr (2, [.int 0, .ref (a 1), .int 0, .int 0])), ((a 2), .inr (0, [.int 1, .ref r, .int 1])), ((a 1), .inr (1, [.ref (a 2), .ref (a 3), .ref (a 4), .ref (a 5), .int 0])), ((a 3), .inr (0, [.int 0, .ref z, .int 0])), ((a 4), .inr (0, [.int 0, .ref z, .int 0])), ((a 5), .inr (0, [.int 0, .ref z, .int 0])), (r, .inl (cO, 10, .inr (.inr (.inr (.inr (va_up (fun _ => none) 0 (some m1))))))), (m1, .inr (3, [.int 0, .int 60, .int 0, .int 1, .int 0, .int 0, .int 1, .int 0, .int 0]))] (hs_mk_2 l D z q_110 cO) rfl hw_0 hw_98 hw_145 hw_146 rfl ⟨rfl, rfl⟩ (by decide +kernel) ⟨Nat.le_of_ble_eq_true rfl, Nat.le_of_ble_eq_true rfl⟩ ⟨Nat.le_of_ble_eq_true rfl, Nat.le_of_ble_eq_true rfl⟩ hl.1 rfl rfl (Nat.le_of_ble_eq_true rfl) dX12_mast_123 (fun u_123 H locs hv_123 hz9 hp => ?_)
  have hp : hr_H D A s.heap [(q_110, .inr (3, [.int 0, .int 60, .int 2, .int 1, .int 0, .int 0, .int 1, .int 0, .int 0])), ((a 0), .inr (2, [.int 0, .ref (a 1), .int 0, .int 0])), ((a 2), .inr (0, [.int 1, .ref r, .int 1])), ((a 1), .inr (1, [.ref (a 2), .ref (a 3), .ref (a 4), .ref (a 5), .int 0])), ((a 3), .inr (0, [.int 0, .ref z, .int 0])), ((a 4), .inr (0, [.int 0, .ref z, .int 0])), ((a 5), .inr (0, [.int 0, .ref z, .int 0])), (r, .inl (cO, 10, .inr (.inr (.inr (.inr (va_up (fun _ => none) 0 (some m1))))))), (m1, .inr (3, [.int 0, .int 60, .int 0, .int 1, .int 0, .int 0, .int 1, .int 0, .int 0]))] H _ := hp
  have hp := hr_perm (Y' := [((a 2), .inr (0, [.int 1, .ref r, .int 1])), (q_110, .inr (3, [.int 0, .int 60, .int 2, .int 1, .int 0, .int 0, .int 1, .int 0, .int 0])), (r, .inl (cO, 10, .inr (.inr (.inr (.inr (va_up (fun _ => none) 0 (some m1))))))), ((a 0), .inr (2, [.int 0, .ref (a 1), .int 0, .int 0])), ((a 1), .inr (1, [.ref (a 2), .ref (a 3), .ref (a 4), .ref (a 5), .int 0])), ((a 3), .inr (0, [.int 0, .ref z, .int 0])), ((a 4), .inr (0, [.int 0, .ref z, .int 0])), ((a 5), .inr (0, [.int 0, .ref z, .int 0])), (m1, .inr (3, [.int 0, .int 60, .int 0, .int 1, .int 0, .int 0, .int 1, .int 0, .int 0]))]) [2, 0, 7, 1, 3, 4, 5, 6, 8] (by decide) rfl hp
  refine hs_cVi C0 hKT hp (q0 := 0) (ci := 0) (Cn := RJx4a65c) (T := TJx4a65c) (N := 3) (rest := []) (n := 1) [((a 0), .inr (2, [.int 0, .ref (a 1), .int 0, .int 0])), ((a 1), .inr (1, [.ref (a 2), .ref (a 3), .ref (a 4), .ref (a 5), .int 0])), ((a 3), .inr (0, [.int 0, .ref z, .int 0])), ((a 4), .inr (0, [.int 0, .ref z, .int 0])), ((a 5), .inr (0, [.int 0, .ref z, .int 0])), (m1, .inr (3, [.int 0, .int 60, .int 0, .int 1, .int 0, .int 0, .int 1, .int 0, .int 0]))] (hs_addB1 l D z (a 2) q_110 r m1 cO [.int 0, .int 60, .int 2, .int 1, .int 0, .int 0, .int 1, .int 0, .int 0]) rfl rfl rfl (hr_gV hw_147 hw_148 hw_149 hw_20 hw_150) ⟨rfl, rfl⟩ (by decide +kernel) ⟨Nat.le_of_ble_eq_true rfl, Nat.le_of_ble_eq_true rfl⟩ ⟨Nat.le_of_ble_eq_true rfl, Nat.le_of_ble_eq_true rfl⟩ hl.1 rfl rfl (Nat.le_of_ble_eq_true rfl) dX12_mast_126 (fun q_126 u_126 H locs hv_126 hz9 hp => ?_)
  subst hv_126
  have hp : hr_H D A s.heap [((a 2), .inr (0, [.int 2, .ref r, .int 2])), (q_110, .inr (3, [.int 0, .int 60, .int 2, .int 1, .int 0, .int 0, .int 1, .int 0, .int 0])), (r, .inl (cO, 10, .inr (.inr (.inr (.inr (va_up (va_up (fun _ => none) 0 (some m1)) 1 (some q_110))))))), ((a 0), .inr (2, [.int 0, .ref (a 1), .int 0, .int 0])), ((a 1), .inr (1, [.ref (a 2), .ref (a 3), .ref (a 4), .ref (a 5), .int 0])), ((a 3), .inr (0, [.int 0, .ref z, .int 0])), ((a 4), .inr (0, [.int 0, .ref z, .int 0])), ((a 5), .inr (0, [.int 0, .ref z, .int 0])), (m1, .inr (3, [.int 0, .int 60, .int 0, .int 1, .int 0, .int 0, .int 1, .int 0, .int 0]))] H _ := hp
  refine lv_pop hx hb dX12_mast_129 rfl ?_
  refine lv_aload_n hx hb dX12_mast_130 rfl (lv_at hl 0 rfl) ?_
  refine hr_get C0 hp (q0 := 3) (C := RX12) (T := TX12) (N := 4) (ci := 2) rfl rfl hr_uX12 1 (by decide) hw_126 (fun _ h9 => h9) rfl dX12_mast_131 ?_
  refine hr_get C0 hp (q0 := 4) (C := RX11) (T := TX11) (N := 5) (ci := 1) rfl rfl hr_uX11 0 (by decide) hw_136 (fun _ h9 => h9) rfl dX12_mast_134 ?_
  refine hs_cVi C0 hKT hp (q0 := 0) (ci := 0) (Cn := RJx4a65c) (T := TJx4a65c) (N := 3) (rest := []) (n := 0) [(q_110, .inr (3, [.int 0, .int 60, .int 2, .int 1, .int 0, .int 0, .int 1, .int 0, .int 0])), (r, .inl (cO, 10, .inr (.inr (.inr (.inr (va_up (va_up (fun _ => none) 0 (some m1)) 1 (some q_110))))))), ((a 0), .inr (2, [.int 0, .ref (a 1), .int 0, .int 0])), ((a 1), .inr (1, [.ref (a 2), .ref (a 3), .ref (a 4), .ref (a 5), .int 0])), ((a 3), .inr (0, [.int 0, .ref z, .int 0])), ((a 4), .inr (0, [.int 0, .ref z, .int 0])), ((a 5), .inr (0, [.int 0, .ref z, .int 0])), (m1, .inr (3, [.int 0, .int 60, .int 0, .int 1, .int 0, .int 0, .int 1, .int 0, .int 0]))] (hs_sizeG l D z (a 2) cO 2 2 (.ref r)) rfl rfl rfl (hr_gV hw_144 hw_107 hw_108 hw_20 hw_109) ⟨rfl, rfl⟩ (by decide +kernel) ⟨Nat.le_of_ble_eq_true rfl, Nat.le_of_ble_eq_true rfl⟩ ⟨Nat.le_of_ble_eq_true rfl, Nat.le_of_ble_eq_true rfl⟩ hl.1 rfl rfl (Nat.le_of_ble_eq_true rfl) dX12_mast_137 (fun q_137 u_137 H locs hv_137 hz9 hp => ?_)
  subst hv_137
  have hp : hr_H D A s.heap [((a 2), .inr (0, [.int 2, .ref r, .int 2])), (q_110, .inr (3, [.int 0, .int 60, .int 2, .int 1, .int 0, .int 0, .int 1, .int 0, .int 0])), (r, .inl (cO, 10, .inr (.inr (.inr (.inr (va_up (va_up (fun _ => none) 0 (some m1)) 1 (some q_110))))))), ((a 0), .inr (2, [.int 0, .ref (a 1), .int 0, .int 0])), ((a 1), .inr (1, [.ref (a 2), .ref (a 3), .ref (a 4), .ref (a 5), .int 0])), ((a 3), .inr (0, [.int 0, .ref z, .int 0])), ((a 4), .inr (0, [.int 0, .ref z, .int 0])), ((a 5), .inr (0, [.int 0, .ref z, .int 0])), (m1, .inr (3, [.int 0, .int 60, .int 0, .int 1, .int 0, .int 0, .int 1, .int 0, .int 0]))] H _ := hp
  refine lv_iconst (v := 1) hx hb dX12_mast_140 (by decide) ?_
  refine lv_isub hx hb dX12_mast_141 ?_
  rw [show (2 : Int32) - 1 = 1 from by decide]
  have hp := hr_perm (Y' := hs_Y (hz_a a r m1 q_110) z cO hz_pp 0) [3, 4, 0, 5, 6, 7, 2, 8, 1] (by decide) rfl hp
  exact hs_iret q_110 C0 hp hp.2.2.1 rfl ⟨Nat.le_of_ble_eq_true rfl, Nat.le_of_ble_eq_true rfl⟩ dX12_mast_142 rfl
