/-! the reference: constructors, and the first element of a list -/
theorem hr_perm {s : State} {D : va_G} {A : Nat → Prop} {Y Y' : va_W} {H : Heap} {locs : List Loc} (is : List Nat) (hn : va_nd is = true) (hs : is.map (fun i => Y[i]?) = Y'.map some) (h : hr_H D A s.heap Y H locs) : hr_H D A s.heap Y' H locs := ⟨h.1.sub is (hn_fm hs), h.2.1.sub is hn hs, h.2.2⟩
set_option maxHeartbeats 4000000 in
set_option maxRecDepth 100000 in
/-- a list is made -/
theorem hr_Jxa1e45_init_da8c8 (l : Launch) (D : va_G) (z b : Nat) : hr_Kv l D z yJxa1e45_init_da8c8 (hr_wm yJxa1e45_init_da8c8 cJxa1e45_init_da8c8 1 none) { frames := 1, cells := 0, slots := 0, locals := 13 } [.ref b] [(b, .inr (0, [.int 0, .null, .int 0]))] 0 0 (fun (_ : Unit) => True) (fun _ => [(b, .inr (0, [.int 0, .null, .int 0]))]) := by
  refine hr_Kv_of (by decide) (Nat.le_of_ble_eq_true rfl) ?_
  intro p e s m args below meth c ls A C0 hp hl
  obtain ⟨hx, hb, hr9, hml, hown, hts, hK, hlk, hA, hN, hnm9⟩ := id C0
  have hl : lv_has ls 1 [(0, .ref b)] := hl
  refine lv_aload_n hx hb dJxa1e45_init_da8c8_0 rfl (lv_at hl 0 rfl) ?_
  refine hr_obj C0 hw_45 hw_2 hw_3 hl.1 dJxa1e45_init_da8c8_1 (Nat.le_of_ble_eq_true rfl) (Nat.le_of_ble_eq_true rfl) ?_
  exact hr_vret () C0 hp rfl ⟨Nat.le_of_ble_eq_true rfl, Nat.le_of_ble_eq_true rfl⟩ dJxa1e45_init_da8c8_4 trivial
set_option maxHeartbeats 4000000 in
set_option maxRecDepth 100000 in
/-- a list is made -/
theorem hr_Jxc12de_init_da8c8 (l : Launch) (D : va_G) (z b : Nat) : hr_Kv l D z yJxc12de_init_da8c8 (hr_wm yJxc12de_init_da8c8 cJxc12de_init_da8c8 1 none) { frames := 2, cells := 0, slots := 0, locals := 33 } [.ref b] [(b, .inr (0, [.int 0, .null, .int 0]))] 0 0 (fun (_ : Unit) => True) (fun _ => [(b, .inr (0, [.int 0, .null, .int 0]))]) := by
  refine hr_Kv_of (by decide) (Nat.le_of_ble_eq_true rfl) ?_
  intro p e s m args below meth c ls A C0 hp hl
  obtain ⟨hx, hb, hr9, hml, hown, hts, hK, hlk, hA, hN, hnm9⟩ := id C0
  have hl : lv_has ls 1 [(0, .ref b)] := hl
  refine lv_aload_n hx hb dJxc12de_init_da8c8_0 rfl (lv_at hl 0 rfl) ?_
  refine hr_cIv C0 hp (rest := []) (n := 0) [] (hr_Jxa1e45_init_da8c8 l D z b) rfl hw_44 hw_43 hw_41 hw_42 rfl ⟨rfl, rfl⟩ (by decide +kernel) ⟨Nat.le_of_ble_eq_true rfl, Nat.le_of_ble_eq_true rfl⟩ ⟨Nat.le_of_ble_eq_true rfl, Nat.le_of_ble_eq_true rfl⟩ hl.1 rfl rfl (Nat.le_of_ble_eq_true rfl) dJxc12de_init_da8c8_1 (fun u_1 H locs hv_1 hp => ?_)
  have hp : hr_H D A s.heap [(b, .inr (0, [.int 0, .null, .int 0]))] H _ := hp
  refine lv_aload_n hx hb dJxc12de_init_da8c8_4 rfl (lv_at hl 0 rfl) ?_
  refine lv_iconst (v := 0) hx hb dJxc12de_init_da8c8_5 (by decide) ?_
  refine hr_put C0 hp (q0 := 0) (C := RJx4a65c) (T := TJx4a65c) (N := 3) (ci := 0) (ty0 := tyJx4a65c) (ty := .int) (Y' := [(b, .inr (0, [.int 0, .null, .int 0]))]) rfl rfl hr_uJx4a65c tyJx4a65c_ok nmJx4a65c 0 (by decide) hw_40 (fun _ h9 => h9) rfl (by decide +kernel) rfl rfl (Nat.le_of_ble_eq_true rfl) rfl dJxc12de_init_da8c8_6 (fun H locs hp => ?_)
  exact hr_vret () C0 hp rfl ⟨Nat.le_of_ble_eq_true rfl, Nat.le_of_ble_eq_true rfl⟩ dJxc12de_init_da8c8_9 trivial
set_option maxHeartbeats 4000000 in
set_option maxRecDepth 100000 in
/-- a list is made -/
theorem hr_Jx4a65c_init_da8c8 (l : Launch) (D : va_G) (z b : Nat) : hr_Kv l D z yJx4a65c_init_da8c8 (hr_wm yJx4a65c_init_da8c8 cJx4a65c_init_da8c8 1 none) { frames := 3, cells := 0, slots := 0, locals := 53 } [.ref b] [(b, .inr (0, [.int 0, .null, .int 0]))] 0 0 (fun (_ : Unit) => True) (fun _ => [(b, .inr (0, [.int 0, .ref z, .int 0]))]) := by
  refine hr_Kv_of (by decide) (Nat.le_of_ble_eq_true rfl) ?_
  intro p e s m args below meth c ls A C0 hp hl
  obtain ⟨hx, hb, hr9, hml, hown, hts, hK, hlk, hA, hN, hnm9⟩ := id C0
  have hl : lv_has ls 1 [(0, .ref b)] := hl
  refine lv_aload_n hx hb dJx4a65c_init_da8c8_0 rfl (lv_at hl 0 rfl) ?_
  refine hr_cIv C0 hp (rest := []) (n := 0) [] (hr_Jxc12de_init_da8c8 l D z b) rfl hw_39 hw_38 hw_36 hw_37 rfl ⟨rfl, rfl⟩ (by decide +kernel) ⟨Nat.le_of_ble_eq_true rfl, Nat.le_of_ble_eq_true rfl⟩ ⟨Nat.le_of_ble_eq_true rfl, Nat.le_of_ble_eq_true rfl⟩ hl.1 rfl rfl (Nat.le_of_ble_eq_true rfl) dJx4a65c_init_da8c8_1 (fun u_1 H locs hv_1 hp => ?_)
  have hp : hr_H D A s.heap [(b, .inr (0, [.int 0, .null, .int 0]))] H _ := hp
  refine lv_aload_n hx hb dJx4a65c_init_da8c8_4 rfl (lv_at hl 0 rfl) ?_
  refine hr_gets C0 hp hw_34 dJx4a65c_init_da8c8_5 ?_
  refine hr_put C0 hp (q0 := 0) (C := RJx4a65c) (T := TJx4a65c) (N := 3) (ci := 0) (ty0 := tyJx4a65c) (ty := (.array (.object "java/lang/Object"))) (Y' := [(b, .inr (0, [.int 0, .ref z, .int 0]))]) rfl rfl hr_uJx4a65c tyJx4a65c_ok nmJx4a65c 1 (by decide) hw_35 (fun _ h9 => h9) rfl (by decide +kernel) rfl rfl (Nat.le_of_ble_eq_true rfl) rfl dJx4a65c_init_da8c8_8 (fun H locs hp => ?_)
  exact hr_vret () C0 hp rfl ⟨Nat.le_of_ble_eq_true rfl, Nat.le_of_ble_eq_true rfl⟩ dJx4a65c_init_da8c8_11 trivial
set_option maxHeartbeats 4000000 in
set_option maxRecDepth 100000 in
/-- Road() -/
theorem hr_X11_init (l : Launch) (D : va_G) (z b : Nat) : hr_Kv l D z yX11_init (hr_wm yX11_init cX11_init 1 none) { frames := 4, cells := 4, slots := 12, locals := 73 } [.ref b] [(b, .inr (1, [.null, .null, .null, .null, .int 0]))] 4 12 (fun (a : Nat → Nat) => a 1 = b) (fun a => [((a 1), .inr (1, [.ref (a 2), .ref (a 3), .ref (a 4), .ref (a 5), .int 0])), ((a 2), .inr (0, [.int 0, .ref z, .int 0])), ((a 3), .inr (0, [.int 0, .ref z, .int 0])), ((a 4), .inr (0, [.int 0, .ref z, .int 0])), ((a 5), .inr (0, [.int 0, .ref z, .int 0]))]) := by
  refine hr_Kv_of (by decide) (Nat.le_of_ble_eq_true rfl) ?_
  intro p e s m args below meth c ls A C0 hp hl
  obtain ⟨hx, hb, hr9, hml, hown, hts, hK, hlk, hA, hN, hnm9⟩ := id C0
  have hl : lv_has ls 1 [(0, .ref b)] := hl
  refine lv_aload_n hx hb dX11_init_0 rfl (lv_at hl 0 rfl) ?_
  refine hr_obj C0 hw_23 hw_2 hw_3 hl.1 dX11_init_1 (Nat.le_of_ble_eq_true rfl) (Nat.le_of_ble_eq_true rfl) ?_
  refine lv_aload_n hx hb dX11_init_4 rfl (lv_at hl 0 rfl) ?_
  refine hr_new C0 hp (ci := 0) (fs := [.int 0, .null, .int 0]) (C := RJx4a65c) (T := TJx4a65c) (N := 3) (ty0 := tyJx4a65c) rfl hr_uJx4a65c tyJx4a65c_ok hw_24 hw_25 hw_26 (fun j hj => by rcases (show j = 0 ∨ j = 1 ∨ j = 2 by omega) with rfl | rfl | rfl <;> rfl) (Nat.le_of_ble_eq_true rfl) (Nat.le_of_ble_eq_true rfl) dX11_init_5 (fun q_5 H hp => ?_)
  have hp : hr_H D A s.heap [(b, .inr (1, [.null, .null, .null, .null, .int 0])), (q_5, .inr (0, [.int 0, .null, .int 0]))] H _ := hp
  refine W.widen (k := 1) (n := 3) (by decide) (by decide) ?_
  refine lv_dup hx hb dX11_init_8 rfl ?_
  have hp := hr_perm (Y' := [(q_5, .inr (0, [.int 0, .null, .int 0])), (b, .inr (1, [.null, .null, .null, .null, .int 0]))]) [1, 0] (by decide) rfl hp
  refine hr_cIv C0 hp (rest := [.ref q_5, .ref b]) (n := 0) [(b, .inr (1, [.null, .null, .null, .null, .int 0]))] (hr_Jx4a65c_init_da8c8 l D z q_5) rfl hw_33 hw_26 hw_31 hw_32 rfl ⟨rfl, rfl⟩ (by decide +kernel) ⟨Nat.le_of_ble_eq_true rfl, Nat.le_of_ble_eq_true rfl⟩ ⟨Nat.le_of_ble_eq_true rfl, Nat.le_of_ble_eq_true rfl⟩ hl.1 rfl rfl (Nat.le_of_ble_eq_true rfl) dX11_init_9 (fun u_9 H locs hv_9 hp => ?_)
  have hp : hr_H D A s.heap [(q_5, .inr (0, [.int 0, .ref z, .int 0])), (b, .inr (1, [.null, .null, .null, .null, .int 0]))] H _ := hp
  refine hr_putF C0 hp (q0 := 1) (C := RX11) (T := TX11) (N := 5) (ci := 1) (ty0 := tyX11) (ty := (.object "java/util/ArrayList")) (Y' := [(q_5, .inr (0, [.int 0, .ref z, .int 0])), (b, .inr (1, [.ref q_5, .null, .null, .null, .int 0]))]) rfl rfl hr_uX11 tyX11_ok nmX11 0 (by decide) hw_27 (fun _ h9 => h9) rfl rfl rfl (by decide +kernel) rfl rfl (Nat.le_of_ble_eq_true rfl) rfl dX11_init_12 (fun H locs hp => ?_)
  refine lv_aload_n hx hb dX11_init_15 rfl (lv_at hl 0 rfl) ?_
  refine hr_new C0 hp (ci := 0) (fs := [.int 0, .null, .int 0]) (C := RJx4a65c) (T := TJx4a65c) (N := 3) (ty0 := tyJx4a65c) rfl hr_uJx4a65c tyJx4a65c_ok hw_24 hw_25 hw_26 (fun j hj => by rcases (show j = 0 ∨ j = 1 ∨ j = 2 by omega) with rfl | rfl | rfl <;> rfl) (Nat.le_of_ble_eq_true rfl) (Nat.le_of_ble_eq_true rfl) dX11_init_16 (fun q_16 H hp => ?_)
  have hp : hr_H D A s.heap [(q_5, .inr (0, [.int 0, .ref z, .int 0])), (b, .inr (1, [.ref q_5, .null, .null, .null, .int 0])), (q_16, .inr (0, [.int 0, .null, .int 0]))] H _ := hp
  refine W.widen (k := 2) (n := 6) (by decide) (by decide) ?_
  refine lv_dup hx hb dX11_init_19 rfl ?_
  have hp := hr_perm (Y' := [(q_16, .inr (0, [.int 0, .null, .int 0])), (q_5, .inr (0, [.int 0, .ref z, .int 0])), (b, .inr (1, [.ref q_5, .null, .null, .null, .int 0]))]) [2, 0, 1] (by decide) rfl hp
  refine hr_cIv C0 hp (rest := [.ref q_16, .ref b]) (n := 0) [(q_5, .inr (0, [.int 0, .ref z, .int 0])), (b, .inr (1, [.ref q_5, .null, .null, .null, .int 0]))] (hr_Jx4a65c_init_da8c8 l D z q_16) rfl hw_33 hw_26 hw_31 hw_32 rfl ⟨rfl, rfl⟩ (by decide +kernel) ⟨Nat.le_of_ble_eq_true rfl, Nat.le_of_ble_eq_true rfl⟩ ⟨Nat.le_of_ble_eq_true rfl, Nat.le_of_ble_eq_true rfl⟩ hl.1 rfl rfl (Nat.le_of_ble_eq_true rfl) dX11_init_20 (fun u_20 H locs hv_20 hp => ?_)
  have hp : hr_H D A s.heap [(q_16, .inr (0, [.int 0, .ref z, .int 0])), (q_5, .inr (0, [.int 0, .ref z, .int 0])), (b, .inr (1, [.ref q_5, .null, .null, .null, .int 0]))] H _ := hp
  refine hr_putF C0 hp (q0 := 2) (C := RX11) (T := TX11) (N := 5) (ci := 1) (ty0 := tyX11) (ty := (.object "java/util/ArrayList")) (Y' := [(q_16, .inr (0, [.int 0, .ref z, .int 0])), (q_5, .inr (0, [.int 0, .ref z, .int 0])), (b, .inr (1, [.ref q_5, .ref q_16, .null, .null, .int 0]))]) rfl rfl hr_uX11 tyX11_ok nmX11 1 (by decide) hw_28 (fun _ h9 => h9) rfl rfl rfl (by decide +kernel) rfl rfl (Nat.le_of_ble_eq_true rfl) rfl dX11_init_23 (fun H locs hp => ?_)
  refine lv_aload_n hx hb dX11_init_26 rfl (lv_at hl 0 rfl) ?_
  refine hr_new C0 hp (ci := 0) (fs := [.int 0, .null, .int 0]) (C := RJx4a65c) (T := TJx4a65c) (N := 3) (ty0 := tyJx4a65c) rfl hr_uJx4a65c tyJx4a65c_ok hw_24 hw_25 hw_26 (fun j hj => by rcases (show j = 0 ∨ j = 1 ∨ j = 2 by omega) with rfl | rfl | rfl <;> rfl) (Nat.le_of_ble_eq_true rfl) (Nat.le_of_ble_eq_true rfl) dX11_init_27 (fun q_27 H hp => ?_)
  have hp : hr_H D A s.heap [(q_16, .inr (0, [.int 0, .ref z, .int 0])), (q_5, .inr (0, [.int 0, .ref z, .int 0])), (b, .inr (1, [.ref q_5, .ref q_16, .null, .null, .int 0])), (q_27, .inr (0, [.int 0, .null, .int 0]))] H _ := hp
  refine W.widen (k := 3) (n := 9) (by decide) (by decide) ?_
  refine lv_dup hx hb dX11_init_30 rfl ?_
  have hp := hr_perm (Y' := [(q_27, .inr (0, [.int 0, .null, .int 0])), (q_16, .inr (0, [.int 0, .ref z, .int 0])), (q_5, .inr (0, [.int 0, .ref z, .int 0])), (b, .inr (1, [.ref q_5, .ref q_16, .null, .null, .int 0]))]) [3, 0, 1, 2] (by decide) rfl hp
  refine hr_cIv C0 hp (rest := [.ref q_27, .ref b]) (n := 0) [(q_16, .inr (0, [.int 0, .ref z, .int 0])), (q_5, .inr (0, [.int 0, .ref z, .int 0])), (b, .inr (1, [.ref q_5, .ref q_16, .null, .null, .int 0]))] (hr_Jx4a65c_init_da8c8 l D z q_27) rfl hw_33 hw_26 hw_31 hw_32 rfl ⟨rfl, rfl⟩ (by decide +kernel) ⟨Nat.le_of_ble_eq_true rfl, Nat.le_of_ble_eq_true rfl⟩ ⟨Nat.le_of_ble_eq_true rfl, Nat.le_of_ble_eq_true rfl⟩ hl.1 rfl rfl (Nat.le_of_ble_eq_true rfl) dX11_init_31 (fun u_31 H locs hv_31 hp => ?_)
  have hp : hr_H D A s.heap [(q_27, .inr (0, [.int 0, .ref z, .int 0])), (q_16, .inr (0, [.int 0, .ref z, .int 0])), (q_5, .inr (0, [.int 0, .ref z, .int 0])), (b, .inr (1, [.ref q_5, .ref q_16, .null, .null, .int 0]))] H _ := hp
  refine hr_putF C0 hp (q0 := 3) (C := RX11) (T := TX11) (N := 5) (ci := 1) (ty0 := tyX11) (ty := (.object "java/util/ArrayList")) (Y' := [(q_27, .inr (0, [.int 0, .ref z, .int 0])), (q_16, .inr (0, [.int 0, .ref z, .int 0])), (q_5, .inr (0, [.int 0, .ref z, .int 0])), (b, .inr (1, [.ref q_5, .ref q_16, .ref q_27, .null, .int 0]))]) rfl rfl hr_uX11 tyX11_ok nmX11 2 (by decide) hw_29 (fun _ h9 => h9) rfl rfl rfl (by decide +kernel) rfl rfl (Nat.le_of_ble_eq_true rfl) rfl dX11_init_34 (fun H locs hp => ?_)
  refine lv_aload_n hx hb dX11_init_37 rfl (lv_at hl 0 rfl) ?_
  refine hr_new C0 hp (ci := 0) (fs := [.int 0, .null, .int 0]) (C := RJx4a65c) (T := TJx4a65c) (N := 3) (ty0 := tyJx4a65c) rfl hr_uJx4a65c tyJx4a65c_ok hw_24 hw_25 hw_26 (fun j hj => by rcases (show j = 0 ∨ j = 1 ∨ j = 2 by omega) with rfl | rfl | rfl <;> rfl) (Nat.le_of_ble_eq_true rfl) (Nat.le_of_ble_eq_true rfl) dX11_init_38 (fun q_38 H hp => ?_)
  have hp : hr_H D A s.heap [(q_27, .inr (0, [.int 0, .ref z, .int 0])), (q_16, .inr (0, [.int 0, .ref z, .int 0])), (q_5, .inr (0, [.int 0, .ref z, .int 0])), (b, .inr (1, [.ref q_5, .ref q_16, .ref q_27, .null, .int 0])), (q_38, .inr (0, [.int 0, .null, .int 0]))] H _ := hp
  refine W.widen (k := 4) (n := 12) (by decide) (by decide) ?_
  refine lv_dup hx hb dX11_init_41 rfl ?_
  have hp := hr_perm (Y' := [(q_38, .inr (0, [.int 0, .null, .int 0])), (q_27, .inr (0, [.int 0, .ref z, .int 0])), (q_16, .inr (0, [.int 0, .ref z, .int 0])), (q_5, .inr (0, [.int 0, .ref z, .int 0])), (b, .inr (1, [.ref q_5, .ref q_16, .ref q_27, .null, .int 0]))]) [4, 0, 1, 2, 3] (by decide) rfl hp
  refine hr_cIv C0 hp (rest := [.ref q_38, .ref b]) (n := 0) [(q_27, .inr (0, [.int 0, .ref z, .int 0])), (q_16, .inr (0, [.int 0, .ref z, .int 0])), (q_5, .inr (0, [.int 0, .ref z, .int 0])), (b, .inr (1, [.ref q_5, .ref q_16, .ref q_27, .null, .int 0]))] (hr_Jx4a65c_init_da8c8 l D z q_38) rfl hw_33 hw_26 hw_31 hw_32 rfl ⟨rfl, rfl⟩ (by decide +kernel) ⟨Nat.le_of_ble_eq_true rfl, Nat.le_of_ble_eq_true rfl⟩ ⟨Nat.le_of_ble_eq_true rfl, Nat.le_of_ble_eq_true rfl⟩ hl.1 rfl rfl (Nat.le_of_ble_eq_true rfl) dX11_init_42 (fun u_42 H locs hv_42 hp => ?_)
  have hp : hr_H D A s.heap [(q_38, .inr (0, [.int 0, .ref z, .int 0])), (q_27, .inr (0, [.int 0, .ref z, .int 0])), (q_16, .inr (0, [.int 0, .ref z, .int 0])), (q_5, .inr (0, [.int 0, .ref z, .int 0])), (b, .inr (1, [.ref q_5, .ref q_16, .ref q_27, .null, .int 0]))] H _ := hp
  refine hr_putF C0 hp (q0 := 4) (C := RX11) (T := TX11) (N := 5) (ci := 1) (ty0 := tyX11) (ty := (.object "java/util/ArrayList")) (Y' := [(q_38, .inr (0, [.int 0, .ref z, .int 0])), (q_27, .inr (0, [.int 0, .ref z, .int 0])), (q_16, .inr (0, [.int 0, .ref z, .int 0])), (q_5, .inr (0, [.int 0, .ref z, .int 0])), (b, .inr (1, [.ref q_5, .ref q_16, .ref q_27, .ref q_38, .int 0]))]) rfl rfl hr_uX11 tyX11_ok nmX11 3 (by decide) hw_30 (fun _ h9 => h9) rfl rfl rfl (by decide +kernel) rfl rfl (Nat.le_of_ble_eq_true rfl) rfl dX11_init_45 (fun H locs hp => ?_)
  have hp := hr_perm (Y' := [(b, .inr (1, [.ref q_5, .ref q_16, .ref q_27, .ref q_38, .int 0])), (q_5, .inr (0, [.int 0, .ref z, .int 0])), (q_16, .inr (0, [.int 0, .ref z, .int 0])), (q_27, .inr (0, [.int 0, .ref z, .int 0])), (q_38, .inr (0, [.int 0, .ref z, .int 0]))]) [4, 3, 2, 1, 0] (by decide) rfl hp
  exact hr_vret (fun k => match k with | 2 => q_5 | 3 => q_16 | 4 => q_27 | 5 => q_38 | _ => b) C0 hp rfl ⟨Nat.le_of_ble_eq_true rfl, Nat.le_of_ble_eq_true rfl⟩ dX11_init_48 rfl
set_option maxHeartbeats 4000000 in
set_option maxRecDepth 100000 in
/-- HandoverhouseModel() -/
theorem hr_X12_init (l : Launch) (D : va_G) (z b : Nat) : hr_Kv l D z yX12_init (hr_wm yX12_init cX12_init 1 none) { frames := 5, cells := 5, slots := 17, locals := 93 } [.ref b] [(b, .inr (2, [.int 0, .null, .int 0, .int 0]))] 5 17 (fun (a : Nat → Nat) => a 0 = b) (fun a => hr_Y a z 0 0) := by
  refine hr_Kv_of (by decide) (Nat.le_of_ble_eq_true rfl) ?_
  intro p e s m args below meth c ls A C0 hp hl
  obtain ⟨hx, hb, hr9, hml, hown, hts, hK, hlk, hA, hN, hnm9⟩ := id C0
  have hl : lv_has ls 1 [(0, .ref b)] := hl
  refine lv_aload_n hx hb dX12_init_0 rfl (lv_at hl 0 rfl) ?_
  refine hr_obj C0 hw_136 hw_2 hw_3 hl.1 dX12_init_1 (Nat.le_of_ble_eq_true rfl) (Nat.le_of_ble_eq_true rfl) ?_
  refine lv_aload_n hx hb dX12_init_4 rfl (lv_at hl 0 rfl) ?_
  refine hr_new C0 hp (ci := 1) (fs := [.null, .null, .null, .null, .int 0]) (C := RX11) (T := TX11) (N := 5) (ty0 := tyX11) rfl hr_uX11 tyX11_ok hw_137 hw_138 hw_58 (fun j hj => by rcases (show j = 0 ∨ j = 1 ∨ j = 2 ∨ j = 3 ∨ j = 4 by omega) with rfl | rfl | rfl | rfl | rfl <;> rfl) (Nat.le_of_ble_eq_true rfl) (Nat.le_of_ble_eq_true rfl) dX12_init_5 (fun q_5 H hp => ?_)
  have hp : hr_H D A s.heap [(b, .inr (2, [.int 0, .null, .int 0, .int 0])), (q_5, .inr (1, [.null, .null, .null, .null, .int 0]))] H _ := hp
  refine W.widen (k := 1) (n := 5) (by decide) (by decide) ?_
  refine lv_dup hx hb dX12_init_8 rfl ?_
  have hp := hr_perm (Y' := [(q_5, .inr (1, [.null, .null, .null, .null, .int 0])), (b, .inr (2, [.int 0, .null, .int 0, .int 0]))]) [1, 0] (by decide) rfl hp
  refine hr_cJv C0 hp (rest := [.ref q_5, .ref b]) (n := 0) [(b, .inr (2, [.int 0, .null, .int 0, .int 0]))] (hr_X11_init l D z q_5) rfl hw_22 hw_58 hw_140 rfl hN.1.1 ⟨rfl, rfl⟩ (by decide +kernel) ⟨Nat.le_of_ble_eq_true rfl, Nat.le_of_ble_eq_true rfl⟩ ⟨Nat.le_of_ble_eq_true rfl, Nat.le_of_ble_eq_true rfl⟩ hl.1 rfl rfl (Nat.le_of_ble_eq_true rfl) dX12_init_9 (fun u_9 H locs hv_9 hp => ?_)
  have hpn := hp
  subst hv_9
  have hp : hr_H D A s.heap [((u_9 1), .inr (1, [.ref (u_9 2), .ref (u_9 3), .ref (u_9 4), .ref (u_9 5), .int 0])), ((u_9 2), .inr (0, [.int 0, .ref z, .int 0])), ((u_9 3), .inr (0, [.int 0, .ref z, .int 0])), ((u_9 4), .inr (0, [.int 0, .ref z, .int 0])), ((u_9 5), .inr (0, [.int 0, .ref z, .int 0])), (b, .inr (2, [.int 0, .null, .int 0, .int 0]))] H _ := hpn
  refine W.widen (k := 5) (n := 17) (by decide) (by decide) ?_
  refine hr_putF C0 hp (q0 := 5) (C := RX12) (T := TX12) (N := 4) (ci := 2) (ty0 := tyX12) (ty := (.object "HandoverhouseModel$Road")) (Y' := [((u_9 1), .inr (1, [.ref (u_9 2), .ref (u_9 3), .ref (u_9 4), .ref (u_9 5), .int 0])), ((u_9 2), .inr (0, [.int 0, .ref z, .int 0])), ((u_9 3), .inr (0, [.int 0, .ref z, .int 0])), ((u_9 4), .inr (0, [.int 0, .ref z, .int 0])), ((u_9 5), .inr (0, [.int 0, .ref z, .int 0])), (b, .inr (2, [.int 0, .ref (u_9 1), .int 0, .int 0]))]) rfl rfl hr_uX12 tyX12_ok nmX12 1 (by decide) hw_139 (fun _ h9 => h9) rfl rfl rfl (by decide +kernel) rfl rfl (Nat.le_of_ble_eq_true rfl) rfl dX12_init_12 (fun H locs hp => ?_)
  have hp := hr_perm (Y' := [(b, .inr (2, [.int 0, .ref (u_9 1), .int 0, .int 0])), ((u_9 1), .inr (1, [.ref (u_9 2), .ref (u_9 3), .ref (u_9 4), .ref (u_9 5), .int 0])), ((u_9 2), .inr (0, [.int 0, .ref z, .int 0])), ((u_9 3), .inr (0, [.int 0, .ref z, .int 0])), ((u_9 4), .inr (0, [.int 0, .ref z, .int 0])), ((u_9 5), .inr (0, [.int 0, .ref z, .int 0]))]) [5, 0, 1, 2, 3, 4] (by decide) rfl hp
  exact hr_vret (fun k => match k with | 0 => b | 1 => u_9 1 | 2 => u_9 2 | 3 => u_9 3 | 4 => u_9 4 | _ => u_9 5) C0 hp rfl ⟨Nat.le_of_ble_eq_true rfl, Nat.le_of_ble_eq_true rfl⟩ dX12_init_15 rfl
set_option maxHeartbeats 4000000 in
set_option maxRecDepth 100000 in
/-- size -/
theorem hr_sizeG (l : Launch) (D : va_G) (z b : Nat) (m9 n9 : Int32) (v9 : Value) : hr_Ki l D z yJx4a65c_size_8abf5 (hr_wm yJx4a65c_size_8abf5 cJx4a65c_size_8abf5 1 (some .int)) { frames := 0, cells := 0, slots := 0, locals := 0 } [.ref b] [(b, .inr (0, [.int m9, v9, .int n9]))] 0 0 (fun (q : Int32) (_ : Unit) => q = n9) (fun _ => [(b, .inr (0, [.int m9, v9, .int n9]))]) := by
  refine hr_Ki_of (by decide) (Nat.le_of_ble_eq_true rfl) ?_
  intro p e s m args below meth c ls A C0 hp hl
  obtain ⟨hx, hb, hr9, hml, hown, hts, hK, hlk, hA, hN, hnm9⟩ := id C0
  have hl : lv_has ls 1 [(0, .ref b)] := hl
  refine lv_aload_n hx hb dJx4a65c_size_8abf5_0 rfl (lv_at hl 0 rfl) ?_
  refine hr_get C0 hp (q0 := 0) (C := RJx4a65c) (T := TJx4a65c) (N := 3) (ci := 0) rfl rfl hr_uJx4a65c 2 (by decide) hw_55 (fun _ h9 => h9) rfl dJx4a65c_size_8abf5_1 ?_
  exact hr_iret () C0 hp rfl ⟨Nat.le_of_ble_eq_true rfl, Nat.le_of_ble_eq_true rfl⟩ dJx4a65c_size_8abf5_4 rfl
set_option maxHeartbeats 4000000 in
set_option maxRecDepth 100000 in
/-- thrown -/
theorem hr_thrownG (l : Launch) (D : va_G) (z b : Nat) (th : Int32) (v1 v2 v3 : Value) : hr_Ki l D z yX12_thrown (hr_wm yX12_thrown cX12_thrown 1 (some .int)) { frames := 0, cells := 0, slots := 0, locals := 0 } [.ref b] [(b, .inr (2, [.int th, v1, v2, v3]))] 0 0 (fun (q : Int32) (_ : Unit) => q = th) (fun _ => [(b, .inr (2, [.int th, v1, v2, v3]))]) := by
  refine hr_Ki_of (by decide) (Nat.le_of_ble_eq_true rfl) ?_
  intro p e s m args below meth c ls A C0 hp hl
  obtain ⟨hx, hb, hr9, hml, hown, hts, hK, hlk, hA, hN, hnm9⟩ := id C0
  have hl : lv_has ls 1 [(0, .ref b)] := hl
  refine lv_aload_n hx hb dX12_thrown_0 rfl (lv_at hl 0 rfl) ?_
  refine hr_get C0 hp (q0 := 0) (C := RX12) (T := TX12) (N := 4) (ci := 2) rfl rfl hr_uX12 0 (by decide) hw_142 (fun _ h9 => h9) rfl dX12_thrown_1 ?_
  exact hr_iret () C0 hp rfl ⟨Nat.le_of_ble_eq_true rfl, Nat.le_of_ble_eq_true rfl⟩ dX12_thrown_4 rfl
set_option maxHeartbeats 4000000 in
set_option maxRecDepth 100000 in
/-- grow(1) -/
theorem hr_Jx4a65c_grow_92f84 (l : Launch) (D : va_G) (z b : Nat) : hr_Kr l D z yJx4a65c_grow_92f84 (hr_wm yJx4a65c_grow_92f84 cJx4a65c_grow_92f84 4 (some (.array (.object "java/lang/Object")))) { frames := 1, cells := 1, slots := 10, locals := 14 } [.ref b, .int 1] [(b, .inr (0, [.int 1, .ref z, .int 0]))] 1 10 (fun (c9 : ClassId) => True) (fun c9 q9 => [(b, .inr (0, [.int 1, .ref q9, .int 0])), (q9, .inl (c9, 10, .inr (.inr (.inr (.inr (fun _ => none))))))]) (fun c9 => [(c9, .object "java/lang/Object")]) := by
  refine hr_Kr_of (by decide) (Nat.le_of_ble_eq_true rfl) ?_
  intro p e s m args below meth c ls A C0 hp hl
  obtain ⟨hx, hb, hr9, hml, hown, hts, hK, hlk, hA, hN, hnm9⟩ := id C0
  have hl : lv_has ls 4 [(0, .ref b), (1, .int 1)] := hl
  refine lv_aload_n hx hb dJx4a65c_grow_92f84_0 rfl (lv_at hl 0 rfl) ?_
  refine hr_get C0 hp (q0 := 0) (C := RJx4a65c) (T := TJx4a65c) (N := 3) (ci := 0) rfl rfl hr_uJx4a65c 1 (by decide) hw_35 (fun _ h9 => h9) rfl dJx4a65c_grow_92f84_1 ?_
  refine hr_len0 C0 hp dJx4a65c_grow_92f84_4 ?_
  refine lv_istore_n (lv' := [(2, .int 0), (0, .ref b), (1, .int 1)]) hx hb dJx4a65c_grow_92f84_5 rfl hl (by decide) rfl (fun ls hl => ?_)
  refine lv_iload_n hx hb dJx4a65c_grow_92f84_6 rfl (lv_at hl 0 rfl) ?_
  refine lv_if_gt (tgt := 20) hx hb dJx4a65c_grow_92f84_7 (by decide) (fun c9 => absurd c9 (by decide)) (fun _ => ?_)
  refine lv_aload_n hx hb dJx4a65c_grow_92f84_10 rfl (lv_at hl 1 rfl) ?_
  refine hr_get C0 hp (q0 := 0) (C := RJx4a65c) (T := TJx4a65c) (N := 3) (ci := 0) rfl rfl hr_uJx4a65c 1 (by decide) hw_35 (fun _ h9 => h9) rfl dJx4a65c_grow_92f84_11 ?_
  refine hr_gets C0 hp hw_34 dJx4a65c_grow_92f84_14 ?_
  refine lv_acmp_eq (rx := some z) (ry := some z) (tgt := 45) hx hb dJx4a65c_grow_92f84_17 (by decide) (fun _ => ?_) (fun c9 => absurd rfl c9)
  refine lv_aload_n hx hb dJx4a65c_grow_92f84_45 rfl (lv_at hl 1 rfl) ?_
  refine lv_bipush (v := 10) hx hb dJx4a65c_grow_92f84_46 (by decide) ?_
  refine lv_iload_n hx hb dJx4a65c_grow_92f84_48 rfl (lv_at hl 2 rfl) ?_
  refine va_mmax hx hb (hml.trans hl.1.symm) hown (hts _ hw_180) (hts _ hw_61) (hts _ hw_62) (hts _ hw_63) (Nat.le_of_ble_eq_true rfl) (Nat.le_of_ble_eq_true rfl) (Nat.le_of_ble_eq_true rfl) (Nat.le_of_ble_eq_true rfl) dJx4a65c_grow_92f84_49 ?_
  rw [show (if (10 : Int32) < 1 then (1 : Int32) else 10) = 10 from by decide]
  refine hr_newO C0 hp hw_181 (n := 10) (by decide) (by decide) (by decide) (Nat.le_of_ble_eq_true rfl) (Nat.le_of_ble_eq_true rfl) dJx4a65c_grow_92f84_52 (fun q_52 cA_52 H hK_52 hp => ?_)
  have hp : hr_H D A s.heap [(b, .inr (0, [.int 1, .ref z, .int 0])), (q_52, .inl (cA_52, 10, .inr (.inr (.inr (.inr (fun _ => none))))))] H _ := hp
  refine W.widen (k := 1) (n := 10) (by decide) (by decide) ?_
  refine lv_dup_x1 hx hb dJx4a65c_grow_92f84_55 rfl rfl ?_
  refine hr_put C0 hp (q0 := 0) (C := RJx4a65c) (T := TJx4a65c) (N := 3) (ci := 0) (ty0 := tyJx4a65c) (ty := (.array (.object "java/lang/Object"))) (Y' := [(b, .inr (0, [.int 1, .ref q_52, .int 0])), (q_52, .inl (cA_52, 10, .inr (.inr (.inr (.inr (fun _ => none))))))]) rfl rfl hr_uJx4a65c tyJx4a65c_ok nmJx4a65c 1 (by decide) hw_35 (fun _ h9 => h9) rfl (by decide +kernel) rfl rfl (Nat.le_of_ble_eq_true rfl) rfl dJx4a65c_grow_92f84_56 (fun H locs hp => ?_)
  exact hr_aret cA_52 C0 hp rfl (Or.inr ⟨_, rfl⟩) ⟨Nat.le_of_ble_eq_true rfl, Nat.le_of_ble_eq_true rfl⟩ dJx4a65c_grow_92f84_59 trivial hK_52
set_option maxHeartbeats 4000000 in
set_option maxRecDepth 100000 in
/-- grow() -/
theorem hr_Jx4a65c_grow_d5877 (l : Launch) (D : va_G) (z b : Nat) : hr_Kr l D z yJx4a65c_grow_d5877 (hr_wm yJx4a65c_grow_d5877 cJx4a65c_grow_d5877 1 (some (.array (.object "java/lang/Object")))) { frames := 2, cells := 1, slots := 10, locals := 37 } [.ref b] [(b, .inr (0, [.int 1, .ref z, .int 0]))] 1 10 (fun (c9 : ClassId) => True) (fun c9 q9 => [(b, .inr (0, [.int 1, .ref q9, .int 0])), (q9, .inl (c9, 10, .inr (.inr (.inr (.inr (fun _ => none))))))]) (fun c9 => [(c9, .object "java/lang/Object")]) := by
  refine hr_Kr_of (by decide) (Nat.le_of_ble_eq_true rfl) ?_
  intro p e s m args below meth c ls A C0 hp hl
  obtain ⟨hx, hb, hr9, hml, hown, hts, hK, hlk, hA, hN, hnm9⟩ := id C0
  have hl : lv_has ls 1 [(0, .ref b)] := hl
  refine lv_aload_n hx hb dJx4a65c_grow_d5877_0 rfl (lv_at hl 0 rfl) ?_
  refine lv_aload_n hx hb dJx4a65c_grow_d5877_1 rfl (lv_at hl 0 rfl) ?_
  refine hr_get C0 hp (q0 := 0) (C := RJx4a65c) (T := TJx4a65c) (N := 3) (ci := 0) rfl rfl hr_uJx4a65c 2 (by decide) hw_55 (fun _ h9 => h9) rfl dJx4a65c_grow_d5877_2 ?_
  refine lv_iconst (v := 1) hx hb dJx4a65c_grow_d5877_5 (by decide) ?_
  refine lv_iadd hx hb dJx4a65c_grow_d5877_6 ?_
  rw [show (0 : Int32) + 1 = 1 from by decide]
  refine hr_cVr C0 hp (q0 := 0) (ci := 0) (Cn := RJx4a65c) (T := TJx4a65c) (N := 3) (rest := []) (n := 1) [] (hr_Jx4a65c_grow_92f84 l D z b) rfl rfl rfl (hr_gV hw_176 hw_177 hw_178 hw_26 hw_179) ⟨rfl, rfl⟩ (by decide +kernel) ⟨Nat.le_of_ble_eq_true rfl, Nat.le_of_ble_eq_true rfl⟩ ⟨Nat.le_of_ble_eq_true rfl, Nat.le_of_ble_eq_true rfl⟩ hl.1 rfl rfl (Nat.le_of_ble_eq_true rfl) dJx4a65c_grow_d5877_7 (fun u_7 q_7 H locs hv_7 hk_7 hp => ?_)
  have hp : hr_H D A s.heap [(b, .inr (0, [.int 1, .ref q_7, .int 0])), (q_7, .inl (u_7, 10, .inr (.inr (.inr (.inr (fun _ => none))))))] H _ := hp
  refine W.widen (k := 1) (n := 10) (by decide) (by decide) ?_
  exact hr_aret u_7 C0 hp rfl (Or.inr ⟨_, rfl⟩) ⟨Nat.le_of_ble_eq_true rfl, Nat.le_of_ble_eq_true rfl⟩ dJx4a65c_grow_d5877_10 trivial hk_7
