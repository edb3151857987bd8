/-! the reference: the first element of a list; what is told and asked of an empty road -/
set_option maxHeartbeats 4000000 in
set_option maxRecDepth 100000 in
/-- add at the end, the first -/
theorem hr_add3_3 (l : Launch) (D : va_G) (z b ee : Nat) (fs : List Value) : hr_Kv l D z yJx4a65c_add_72be8 (hr_wm yJx4a65c_add_72be8 cJx4a65c_add_72be8 4 none) { frames := 3, cells := 1, slots := 10, locals := 57 } [.ref b, .ref ee, .ref z, .int 0] [(b, .inr (0, [.int 1, .ref z, .int 0])), (ee, .inr (3, fs))] 1 10 (fun (_ : Nat × ClassId) => True) (fun u => [(b, .inr (0, [.int 1, .ref u.1, .int 1])), (ee, .inr (3, fs)), (u.1, .inl (u.2, 10, .inr (.inr (.inr (.inr (va_up (fun _ => none) 0 (some ee)))))))]) := by
  refine hr_Kv_of (by decide) (Nat.le_of_ble_eq_true rfl) ?_
  intro p e s m args below meth c ls A C0 hp hl
  obtain ⟨hx, hb, hr9, hml, hown, hts, hK, hlk, hA, hN, hnm9⟩ := id C0
  have hl : lv_has ls 4 [(0, .ref b), (1, .ref ee), (2, .ref z), (3, .int 0)] := hl
  refine lv_iload_n hx hb dJx4a65c_add_72be8_0 rfl (lv_at hl 3 rfl) ?_
  refine lv_aload_n hx hb dJx4a65c_add_72be8_1 rfl (lv_at hl 2 rfl) ?_
  refine hr_len0 C0 hp dJx4a65c_add_72be8_2 ?_
  refine lv_icmp_ne (tgt := 11) hx hb dJx4a65c_add_72be8_3 (by decide) (fun c9 => absurd c9 (by decide)) (fun _ => ?_)
  refine lv_aload_n hx hb dJx4a65c_add_72be8_6 rfl (lv_at hl 0 rfl) ?_
  refine hr_cVr C0 hp (q0 := 0) (ci := 0) (Cn := RJx4a65c) (T := TJx4a65c) (N := 3) (rest := []) (n := 0) [(ee, .inr (3, fs))] (hr_Jx4a65c_grow_d5877 l D z b) rfl rfl rfl (hr_gV hw_172 hw_173 hw_174 hw_26 hw_175) ⟨rfl, rfl⟩ (by decide +kernel) ⟨Nat.le_of_ble_eq_true rfl, Nat.le_of_ble_eq_true rfl⟩ ⟨Nat.le_of_ble_eq_true rfl, Nat.le_of_ble_eq_true rfl⟩ hl.1 rfl rfl (Nat.le_of_ble_eq_true rfl) dJx4a65c_add_72be8_7 (fun u_7 q_7 H locs hv_7 hk_7 hp => ?_)
  have hp : hr_H D A s.heap [(b, .inr (0, [.int 1, .ref q_7, .int 0])), (q_7, .inl (u_7, 10, .inr (.inr (.inr (.inr (fun _ => none)))))), (ee, .inr (3, fs))] H _ := hp
  refine W.widen (k := 1) (n := 10) (by decide) (by decide) ?_
  refine lv_astore_n (lv' := [(2, .ref q_7), (0, .ref b), (1, .ref ee), (3, .int 0)]) hx hb dJx4a65c_add_72be8_10 rfl hl (by decide) rfl (fun ls hl => ?_)
  refine lv_aload_n hx hb dJx4a65c_add_72be8_11 rfl (lv_at hl 0 rfl) ?_
  refine lv_iload_n hx hb dJx4a65c_add_72be8_12 rfl (lv_at hl 3 rfl) ?_
  refine lv_aload_n hx hb dJx4a65c_add_72be8_13 rfl (lv_at hl 2 rfl) ?_
  refine hr_aastO C0 (r := (RX9, TX9, 9)) (ci := 3) hk_7 hN.1.2.2.2.2.2.2.1 hp (q0 := 1) (qk := 2) (n := 10) (f := (fun _ => none)) (k' := 0) (Y' := [(b, .inr (0, [.int 1, .ref q_7, .int 0])), (q_7, .inl (u_7, 10, .inr (.inr (.inr (.inr (va_up (fun _ => none) 0 (some ee))))))), (ee, .inr (3, fs))]) rfl rfl rfl (by unfold vp_in; decide) (by decide) rfl dJx4a65c_add_72be8_14 (fun H locs hp => ?_)
  refine lv_aload_n hx hb dJx4a65c_add_72be8_15 rfl (lv_at hl 1 rfl) ?_
  refine lv_iload_n hx hb dJx4a65c_add_72be8_16 rfl (lv_at hl 3 rfl) ?_
  refine lv_iconst (v := 1) hx hb dJx4a65c_add_72be8_17 (by decide) ?_
  refine lv_iadd hx hb dJx4a65c_add_72be8_18 ?_
  rw [show (0 : Int32) + 1 = 1 from by decide]
  refine hr_put C0 hp (q0 := 0) (C := RJx4a65c) (T := TJx4a65c) (N := 3) (ci := 0) (ty0 := tyJx4a65c) (ty := .int) (Y' := [(b, .inr (0, [.int 1, .ref q_7, .int 1])), (q_7, .inl (u_7, 10, .inr (.inr (.inr (.inr (va_up (fun _ => none) 0 (some ee))))))), (ee, .inr (3, fs))]) rfl rfl hr_uJx4a65c tyJx4a65c_ok nmJx4a65c 2 (by decide) hw_55 (fun _ h9 => h9) rfl (by decide +kernel) rfl rfl (Nat.le_of_ble_eq_true rfl) rfl dJx4a65c_add_72be8_19 (fun H locs hp => ?_)
  have hp := hr_perm (Y' := [(b, .inr (0, [.int 1, .ref q_7, .int 1])), (ee, .inr (3, fs)), (q_7, .inl (u_7, 10, .inr (.inr (.inr (.inr (va_up (fun _ => none) 0 (some ee)))))))]) [0, 2, 1] (by decide) rfl hp
  exact hr_vret (q_7, u_7) C0 hp rfl ⟨Nat.le_of_ble_eq_true rfl, Nat.le_of_ble_eq_true rfl⟩ dJx4a65c_add_72be8_22 trivial
set_option maxHeartbeats 4000000 in
set_option maxRecDepth 100000 in
/-- add, the first -/
theorem hr_add1_3 (l : Launch) (D : va_G) (z b ee : Nat) (fs : List Value) : hr_Ki l D z yJx4a65c_add_9ea2d (hr_wm yJx4a65c_add_9ea2d cJx4a65c_add_9ea2d 2 (some .boolean)) { frames := 4, cells := 1, slots := 10, locals := 80 } [.ref b, .ref ee] [(b, .inr (0, [.int 0, .ref z, .int 0])), (ee, .inr (3, fs))] 1 10 (fun (q : Int32) (_ : Nat × ClassId) => q = 1) (fun u => [(b, .inr (0, [.int 1, .ref u.1, .int 1])), (ee, .inr (3, fs)), (u.1, .inl (u.2, 10, .inr (.inr (.inr (.inr (va_up (fun _ => none) 0 (some ee)))))))]) := by
  refine hr_Ki_of (by decide) (Nat.le_of_ble_eq_true rfl) ?_
  intro p e s m args below meth c ls A C0 hp hl
  obtain ⟨hx, hb, hr9, hml, hown, hts, hK, hlk, hA, hN, hnm9⟩ := id C0
  have hl : lv_has ls 2 [(0, .ref b), (1, .ref ee)] := hl
  refine lv_aload_n hx hb dJx4a65c_add_9ea2d_0 rfl (lv_at hl 0 rfl) ?_
  refine lv_dup hx hb dJx4a65c_add_9ea2d_1 rfl ?_
  refine hr_get C0 hp (q0 := 0) (C := RJx4a65c) (T := TJx4a65c) (N := 3) (ci := 0) rfl rfl hr_uJx4a65c 0 (by decide) hw_133 (u_same (hts _ hw_78)) rfl dJx4a65c_add_9ea2d_2 ?_
  refine lv_iconst (v := 1) hx hb dJx4a65c_add_9ea2d_5 (by decide) ?_
  refine lv_iadd hx hb dJx4a65c_add_9ea2d_6 ?_
  rw [show (0 : Int32) + 1 = 1 from by decide]
  refine hr_put C0 hp (q0 := 0) (C := RJx4a65c) (T := TJx4a65c) (N := 3) (ci := 0) (ty0 := tyJx4a65c) (ty := .int) (Y' := [(b, .inr (0, [.int 1, .ref z, .int 0])), (ee, .inr (3, fs))]) rfl rfl hr_uJx4a65c tyJx4a65c_ok nmJx4a65c 0 (by decide) hw_133 (u_same (hts _ hw_78)) rfl (by decide +kernel) rfl rfl (Nat.le_of_ble_eq_true rfl) rfl dJx4a65c_add_9ea2d_7 (fun H locs hp => ?_)
  refine lv_aload_n hx hb dJx4a65c_add_9ea2d_10 rfl (lv_at hl 0 rfl) ?_
  refine lv_aload_n hx hb dJx4a65c_add_9ea2d_11 rfl (lv_at hl 1 rfl) ?_
  refine lv_aload_n hx hb dJx4a65c_add_9ea2d_12 rfl (lv_at hl 0 rfl) ?_
  refine hr_get C0 hp (q0 := 0) (C := RJx4a65c) (T := TJx4a65c) (N := 3) (ci := 0) rfl rfl hr_uJx4a65c 1 (by decide) hw_35 (fun _ h9 => h9) rfl dJx4a65c_add_9ea2d_13 ?_
  refine lv_aload_n hx hb dJx4a65c_add_9ea2d_16 rfl (lv_at hl 0 rfl) ?_
  refine hr_get C0 hp (q0 := 0) (C := RJx4a65c) (T := TJx4a65c) (N := 3) (ci := 0) rfl rfl hr_uJx4a65c 2 (by decide) hw_55 (fun _ h9 => h9) rfl dJx4a65c_add_9ea2d_17 ?_
  refine hr_cVv C0 hp (q0 := 0) (ci := 0) (Cn := RJx4a65c) (T := TJx4a65c) (N := 3) (rest := []) (n := 3) [] (hr_add3_3 l D z b ee fs) rfl rfl rfl (hr_gV hw_168 hw_169 hw_170 hw_26 hw_171) ⟨rfl, rfl⟩ (by decide +kernel) ⟨Nat.le_of_ble_eq_true rfl, Nat.le_of_ble_eq_true rfl⟩ ⟨Nat.le_of_ble_eq_true rfl, Nat.le_of_ble_eq_true rfl⟩ hl.1 rfl rfl (Nat.le_of_ble_eq_true rfl) dJx4a65c_add_9ea2d_20 (fun u_20 H locs hv_20 hp => ?_)
  have hp : hr_H D A s.heap [(b, .inr (0, [.int 1, .ref u_20.1, .int 1])), (ee, .inr (3, fs)), (u_20.1, .inl (u_20.2, 10, .inr (.inr (.inr (.inr (va_up (fun _ => none) 0 (some ee)))))))] H _ := hp
  refine W.widen (k := 1) (n := 10) (by decide) (by decide) ?_
  refine lv_iconst (v := 1) hx hb dJx4a65c_add_9ea2d_23 (by decide) ?_
  exact hr_zret u_20 C0 hp rfl (by decide) ⟨Nat.le_of_ble_eq_true rfl, Nat.le_of_ble_eq_true rfl⟩ dJx4a65c_add_9ea2d_24 rfl
set_option maxHeartbeats 4000000 in
set_option maxRecDepth 100000 in
/-- add at the end, the first -/
theorem hr_add3_4 (l : Launch) (D : va_G) (z b ee : Nat) (fs : List Value) : hr_Kv l D z yJx4a65c_add_72be8 (hr_wm yJx4a65c_add_72be8 cJx4a65c_add_72be8 4 none) { frames := 3, cells := 1, slots := 10, locals := 57 } [.ref b, .ref ee, .ref z, .int 0] [(b, .inr (0, [.int 1, .ref z, .int 0])), (ee, .inr (4, fs))] 1 10 (fun (_ : Nat × ClassId) => True) (fun u => [(b, .inr (0, [.int 1, .ref u.1, .int 1])), (ee, .inr (4, fs)), (u.1, .inl (u.2, 10, .inr (.inr (.inr (.inr (va_up (fun _ => none) 0 (some ee)))))))]) := by
  refine hr_Kv_of (by decide) (Nat.le_of_ble_eq_true rfl) ?_
  intro p e s m args below meth c ls A C0 hp hl
  obtain ⟨hx, hb, hr9, hml, hown, hts, hK, hlk, hA, hN, hnm9⟩ := id C0
  have hl : lv_has ls 4 [(0, .ref b), (1, .ref ee), (2, .ref z), (3, .int 0)] := hl
  refine lv_iload_n hx hb dJx4a65c_add_72be8_0 rfl (lv_at hl 3 rfl) ?_
  refine lv_aload_n hx hb dJx4a65c_add_72be8_1 rfl (lv_at hl 2 rfl) ?_
  refine hr_len0 C0 hp dJx4a65c_add_72be8_2 ?_
  refine lv_icmp_ne (tgt := 11) hx hb dJx4a65c_add_72be8_3 (by decide) (fun c9 => absurd c9 (by decide)) (fun _ => ?_)
  refine lv_aload_n hx hb dJx4a65c_add_72be8_6 rfl (lv_at hl 0 rfl) ?_
  refine hr_cVr C0 hp (q0 := 0) (ci := 0) (Cn := RJx4a65c) (T := TJx4a65c) (N := 3) (rest := []) (n := 0) [(ee, .inr (4, fs))] (hr_Jx4a65c_grow_d5877 l D z b) rfl rfl rfl (hr_gV hw_172 hw_173 hw_174 hw_26 hw_175) ⟨rfl, rfl⟩ (by decide +kernel) ⟨Nat.le_of_ble_eq_true rfl, Nat.le_of_ble_eq_true rfl⟩ ⟨Nat.le_of_ble_eq_true rfl, Nat.le_of_ble_eq_true rfl⟩ hl.1 rfl rfl (Nat.le_of_ble_eq_true rfl) dJx4a65c_add_72be8_7 (fun u_7 q_7 H locs hv_7 hk_7 hp => ?_)
  have hp : hr_H D A s.heap [(b, .inr (0, [.int 1, .ref q_7, .int 0])), (q_7, .inl (u_7, 10, .inr (.inr (.inr (.inr (fun _ => none)))))), (ee, .inr (4, fs))] H _ := hp
  refine W.widen (k := 1) (n := 10) (by decide) (by decide) ?_
  refine lv_astore_n (lv' := [(2, .ref q_7), (0, .ref b), (1, .ref ee), (3, .int 0)]) hx hb dJx4a65c_add_72be8_10 rfl hl (by decide) rfl (fun ls hl => ?_)
  refine lv_aload_n hx hb dJx4a65c_add_72be8_11 rfl (lv_at hl 0 rfl) ?_
  refine lv_iload_n hx hb dJx4a65c_add_72be8_12 rfl (lv_at hl 3 rfl) ?_
  refine lv_aload_n hx hb dJx4a65c_add_72be8_13 rfl (lv_at hl 2 rfl) ?_
  refine hr_aastO C0 (r := (RX10, TX10, 12)) (ci := 4) hk_7 hN.1.2.2.2.2.2.2.2 hp (q0 := 1) (qk := 2) (n := 10) (f := (fun _ => none)) (k' := 0) (Y' := [(b, .inr (0, [.int 1, .ref q_7, .int 0])), (q_7, .inl (u_7, 10, .inr (.inr (.inr (.inr (va_up (fun _ => none) 0 (some ee))))))), (ee, .inr (4, fs))]) rfl rfl rfl (by unfold vp_in; decide) (by decide) rfl dJx4a65c_add_72be8_14 (fun H locs hp => ?_)
  refine lv_aload_n hx hb dJx4a65c_add_72be8_15 rfl (lv_at hl 1 rfl) ?_
  refine lv_iload_n hx hb dJx4a65c_add_72be8_16 rfl (lv_at hl 3 rfl) ?_
  refine lv_iconst (v := 1) hx hb dJx4a65c_add_72be8_17 (by decide) ?_
  refine lv_iadd hx hb dJx4a65c_add_72be8_18 ?_
  rw [show (0 : Int32) + 1 = 1 from by decide]
  refine hr_put C0 hp (q0 := 0) (C := RJx4a65c) (T := TJx4a65c) (N := 3) (ci := 0) (ty0 := tyJx4a65c) (ty := .int) (Y' := [(b, .inr (0, [.int 1, .ref q_7, .int 1])), (q_7, .inl (u_7, 10, .inr (.inr (.inr (.inr (va_up (fun _ => none) 0 (some ee))))))), (ee, .inr (4, fs))]) rfl rfl hr_uJx4a65c tyJx4a65c_ok nmJx4a65c 2 (by decide) hw_55 (fun _ h9 => h9) rfl (by decide +kernel) rfl rfl (Nat.le_of_ble_eq_true rfl) rfl dJx4a65c_add_72be8_19 (fun H locs hp => ?_)
  have hp := hr_perm (Y' := [(b, .inr (0, [.int 1, .ref q_7, .int 1])), (ee, .inr (4, fs)), (q_7, .inl (u_7, 10, .inr (.inr (.inr (.inr (va_up (fun _ => none) 0 (some ee)))))))]) [0, 2, 1] (by decide) rfl hp
  exact hr_vret (q_7, u_7) C0 hp rfl ⟨Nat.le_of_ble_eq_true rfl, Nat.le_of_ble_eq_true rfl⟩ dJx4a65c_add_72be8_22 trivial
set_option maxHeartbeats 4000000 in
set_option maxRecDepth 100000 in
/-- add, the first -/
theorem hr_add1_4 (l : Launch) (D : va_G) (z b ee : Nat) (fs : List Value) : hr_Ki l D z yJx4a65c_add_9ea2d (hr_wm yJx4a65c_add_9ea2d cJx4a65c_add_9ea2d 2 (some .boolean)) { frames := 4, cells := 1, slots := 10, locals := 80 } [.ref b, .ref ee] [(b, .inr (0, [.int 0, .ref z, .int 0])), (ee, .inr (4, fs))] 1 10 (fun (q : Int32) (_ : Nat × ClassId) => q = 1) (fun u => [(b, .inr (0, [.int 1, .ref u.1, .int 1])), (ee, .inr (4, fs)), (u.1, .inl (u.2, 10, .inr (.inr (.inr (.inr (va_up (fun _ => none) 0 (some ee)))))))]) := by
  refine hr_Ki_of (by decide) (Nat.le_of_ble_eq_true rfl) ?_
  intro p e s m args below meth c ls A C0 hp hl
  obtain ⟨hx, hb, hr9, hml, hown, hts, hK, hlk, hA, hN, hnm9⟩ := id C0
  have hl : lv_has ls 2 [(0, .ref b), (1, .ref ee)] := hl
  refine lv_aload_n hx hb dJx4a65c_add_9ea2d_0 rfl (lv_at hl 0 rfl) ?_
  refine lv_dup hx hb dJx4a65c_add_9ea2d_1 rfl ?_
  refine hr_get C0 hp (q0 := 0) (C := RJx4a65c) (T := TJx4a65c) (N := 3) (ci := 0) rfl rfl hr_uJx4a65c 0 (by decide) hw_133 (u_same (hts _ hw_78)) rfl dJx4a65c_add_9ea2d_2 ?_
  refine lv_iconst (v := 1) hx hb dJx4a65c_add_9ea2d_5 (by decide) ?_
  refine lv_iadd hx hb dJx4a65c_add_9ea2d_6 ?_
  rw [show (0 : Int32) + 1 = 1 from by decide]
  refine hr_put C0 hp (q0 := 0) (C := RJx4a65c) (T := TJx4a65c) (N := 3) (ci := 0) (ty0 := tyJx4a65c) (ty := .int) (Y' := [(b, .inr (0, [.int 1, .ref z, .int 0])), (ee, .inr (4, fs))]) rfl rfl hr_uJx4a65c tyJx4a65c_ok nmJx4a65c 0 (by decide) hw_133 (u_same (hts _ hw_78)) rfl (by decide +kernel) rfl rfl (Nat.le_of_ble_eq_true rfl) rfl dJx4a65c_add_9ea2d_7 (fun H locs hp => ?_)
  refine lv_aload_n hx hb dJx4a65c_add_9ea2d_10 rfl (lv_at hl 0 rfl) ?_
  refine lv_aload_n hx hb dJx4a65c_add_9ea2d_11 rfl (lv_at hl 1 rfl) ?_
  refine lv_aload_n hx hb dJx4a65c_add_9ea2d_12 rfl (lv_at hl 0 rfl) ?_
  refine hr_get C0 hp (q0 := 0) (C := RJx4a65c) (T := TJx4a65c) (N := 3) (ci := 0) rfl rfl hr_uJx4a65c 1 (by decide) hw_35 (fun _ h9 => h9) rfl dJx4a65c_add_9ea2d_13 ?_
  refine lv_aload_n hx hb dJx4a65c_add_9ea2d_16 rfl (lv_at hl 0 rfl) ?_
  refine hr_get C0 hp (q0 := 0) (C := RJx4a65c) (T := TJx4a65c) (N := 3) (ci := 0) rfl rfl hr_uJx4a65c 2 (by decide) hw_55 (fun _ h9 => h9) rfl dJx4a65c_add_9ea2d_17 ?_
  refine hr_cVv C0 hp (q0 := 0) (ci := 0) (Cn := RJx4a65c) (T := TJx4a65c) (N := 3) (rest := []) (n := 3) [] (hr_add3_4 l D z b ee fs) rfl rfl rfl (hr_gV hw_168 hw_169 hw_170 hw_26 hw_171) ⟨rfl, rfl⟩ (by decide +kernel) ⟨Nat.le_of_ble_eq_true rfl, Nat.le_of_ble_eq_true rfl⟩ ⟨Nat.le_of_ble_eq_true rfl, Nat.le_of_ble_eq_true rfl⟩ hl.1 rfl rfl (Nat.le_of_ble_eq_true rfl) dJx4a65c_add_9ea2d_20 (fun u_20 H locs hv_20 hp => ?_)
  have hp : hr_H D A s.heap [(b, .inr (0, [.int 1, .ref u_20.1, .int 1])), (ee, .inr (4, fs)), (u_20.1, .inl (u_20.2, 10, .inr (.inr (.inr (.inr (va_up (fun _ => none) 0 (some ee)))))))] H _ := hp
  refine W.widen (k := 1) (n := 10) (by decide) (by decide) ?_
  refine lv_iconst (v := 1) hx hb dJx4a65c_add_9ea2d_23 (by decide) ?_
  exact hr_zret u_20 C0 hp rfl (by decide) ⟨Nat.le_of_ble_eq_true rfl, Nat.le_of_ble_eq_true rfl⟩ dJx4a65c_add_9ea2d_24 rfl
set_option maxHeartbeats 4000000 in
set_option maxRecDepth 100000 in
/-- an element is made -/
theorem hr_X9_init (l : Launch) (D : va_G) (z b : Nat) (p0 p1 p2 p3 p4 p5 : Int32) : hr_Kv l D z yX9_init (hr_wm yX9_init cX9_init 7 none) { frames := 1, cells := 0, slots := 0, locals := 13 } [.ref b, .int p0, .int p1, .int p2, .int p3, .int p4, .int p5] [(b, .inr (3, [.int 0, .int 0, .int 0, .int 0, .int 0, .int 0, .int 0, .int 0, .int 0]))] 0 0 (fun (_ : Unit) => True) (fun _ => [(b, .inr (3, [.int p0, .int p1, .int p2, .int p3, .int p4, .int p5, .int 1, .int 0, .int 0]))]) := by
  refine hr_Kv_of (by decide) (Nat.le_of_ble_eq_true rfl) ?_
  intro p e s m args below meth c ls A C0 hp hl
  obtain ⟨hx, hb, hr9, hml, hown, hts, hK, hlk, hA, hN, hnm9⟩ := id C0
  have hl : lv_has ls 7 [(0, .ref b), (1, .int p0), (2, .int p1), (3, .int p2), (4, .int p3), (5, .int p4), (6, .int p5)] := hl
  refine lv_aload_n hx hb dX9_init_0 rfl (lv_at hl 0 rfl) ?_
  refine hr_obj C0 hw_1 hw_2 hw_3 hl.1 dX9_init_1 (Nat.le_of_ble_eq_true rfl) (Nat.le_of_ble_eq_true rfl) ?_
  refine lv_aload_n hx hb dX9_init_4 rfl (lv_at hl 0 rfl) ?_
  refine lv_iconst (v := 1) hx hb dX9_init_5 (by decide) ?_
  refine hr_put C0 hp (q0 := 0) (C := RX9) (T := TX9) (N := 9) (ci := 3) (ty0 := tyX9) (ty := .boolean) (Y' := [(b, .inr (3, [.int 0, .int 0, .int 0, .int 0, .int 0, .int 0, .int 1, .int 0, .int 0]))]) rfl rfl hr_uX9 tyX9_ok nmX9 6 (by decide) hw_4 (fun _ h9 => h9) rfl (by decide +kernel) rfl rfl (Nat.le_of_ble_eq_true rfl) rfl dX9_init_6 (fun H locs hp => ?_)
  refine lv_aload_n hx hb dX9_init_9 rfl (lv_at hl 0 rfl) ?_
  refine lv_iload_n hx hb dX9_init_10 rfl (lv_at hl 1 rfl) ?_
  refine hr_putF C0 hp (q0 := 0) (C := RX9) (T := TX9) (N := 9) (ci := 3) (ty0 := tyX9) (ty := .int) (Y' := [(b, .inr (3, [.int p0, .int 0, .int 0, .int 0, .int 0, .int 0, .int 1, .int 0, .int 0]))]) rfl rfl hr_uX9 tyX9_ok nmX9 0 (by decide) hw_5 (fun _ h9 => h9) rfl rfl rfl (by decide +kernel) rfl rfl (Nat.le_of_ble_eq_true rfl) rfl dX9_init_11 (fun H locs hp => ?_)
  refine lv_aload_n hx hb dX9_init_14 rfl (lv_at hl 0 rfl) ?_
  refine lv_iload_n hx hb dX9_init_15 rfl (lv_at hl 2 rfl) ?_
  refine hr_putF C0 hp (q0 := 0) (C := RX9) (T := TX9) (N := 9) (ci := 3) (ty0 := tyX9) (ty := .int) (Y' := [(b, .inr (3, [.int p0, .int p1, .int 0, .int 0, .int 0, .int 0, .int 1, .int 0, .int 0]))]) rfl rfl hr_uX9 tyX9_ok nmX9 1 (by decide) hw_6 (fun _ h9 => h9) rfl rfl rfl (by decide +kernel) rfl rfl (Nat.le_of_ble_eq_true rfl) rfl dX9_init_16 (fun H locs hp => ?_)
  refine lv_aload_n hx hb dX9_init_19 rfl (lv_at hl 0 rfl) ?_
  refine lv_iload_n hx hb dX9_init_20 rfl (lv_at hl 3 rfl) ?_
  refine hr_putF C0 hp (q0 := 0) (C := RX9) (T := TX9) (N := 9) (ci := 3) (ty0 := tyX9) (ty := .int) (Y' := [(b, .inr (3, [.int p0, .int p1, .int p2, .int 0, .int 0, .int 0, .int 1, .int 0, .int 0]))]) rfl rfl hr_uX9 tyX9_ok nmX9 2 (by decide) hw_7 (fun _ h9 => h9) rfl rfl rfl (by decide +kernel) rfl rfl (Nat.le_of_ble_eq_true rfl) rfl dX9_init_21 (fun H locs hp => ?_)
  refine lv_aload_n hx hb dX9_init_24 rfl (lv_at hl 0 rfl) ?_
  refine lv_iload hx hb dX9_init_25 (lv_at hl 4 rfl) ?_
  refine hr_putF C0 hp (q0 := 0) (C := RX9) (T := TX9) (N := 9) (ci := 3) (ty0 := tyX9) (ty := .int) (Y' := [(b, .inr (3, [.int p0, .int p1, .int p2, .int p3, .int 0, .int 0, .int 1, .int 0, .int 0]))]) rfl rfl hr_uX9 tyX9_ok nmX9 3 (by decide) hw_8 (fun _ h9 => h9) rfl rfl rfl (by decide +kernel) rfl rfl (Nat.le_of_ble_eq_true rfl) rfl dX9_init_27 (fun H locs hp => ?_)
  refine lv_aload_n hx hb dX9_init_30 rfl (lv_at hl 0 rfl) ?_
  refine lv_iload hx hb dX9_init_31 (lv_at hl 5 rfl) ?_
  refine hr_putF C0 hp (q0 := 0) (C := RX9) (T := TX9) (N := 9) (ci := 3) (ty0 := tyX9) (ty := .int) (Y' := [(b, .inr (3, [.int p0, .int p1, .int p2, .int p3, .int p4, .int 0, .int 1, .int 0, .int 0]))]) rfl rfl hr_uX9 tyX9_ok nmX9 4 (by decide) hw_9 (fun _ h9 => h9) rfl rfl rfl (by decide +kernel) rfl rfl (Nat.le_of_ble_eq_true rfl) rfl dX9_init_33 (fun H locs hp => ?_)
  refine lv_aload_n hx hb dX9_init_36 rfl (lv_at hl 0 rfl) ?_
  refine lv_iload hx hb dX9_init_37 (lv_at hl 6 rfl) ?_
  refine hr_putF C0 hp (q0 := 0) (C := RX9) (T := TX9) (N := 9) (ci := 3) (ty0 := tyX9) (ty := .int) (Y' := [(b, .inr (3, [.int p0, .int p1, .int p2, .int p3, .int p4, .int p5, .int 1, .int 0, .int 0]))]) rfl rfl hr_uX9 tyX9_ok nmX9 5 (by decide) hw_10 (fun _ h9 => h9) rfl rfl rfl (by decide +kernel) rfl rfl (Nat.le_of_ble_eq_true rfl) rfl dX9_init_39 (fun H locs hp => ?_)
  exact hr_vret () C0 hp rfl ⟨Nat.le_of_ble_eq_true rfl, Nat.le_of_ble_eq_true rfl⟩ dX9_init_42 trivial
set_option maxHeartbeats 4000000 in
set_option maxRecDepth 100000 in
/-- an element is made -/
theorem hr_X10_init (l : Launch) (D : va_G) (z b : Nat) (p0 p1 p2 p3 : Int32) : hr_Kv l D z yX10_init (hr_wm yX10_init cX10_init 5 none) { frames := 1, cells := 0, slots := 0, locals := 13 } [.ref b, .int p0, .int p1, .int p2, .int p3] [(b, .inr (4, [.int 0, .int 0, .int 0, .int 0, .int 0, .int 0, .int 0, .int 0, .int 0, .int 0, .int 0, .int 0]))] 0 0 (fun (_ : Unit) => True) (fun _ => [(b, .inr (4, [.int p0, .int p1, .int p2, .int p3, .int 1, .int (-1), .int (-1), .int (-1), .int 0, .int (-1), .int 0, .int 0]))]) := by
  refine hr_Kv_of (by decide) (Nat.le_of_ble_eq_true rfl) ?_
  intro p e s m args below meth c ls A C0 hp hl
  obtain ⟨hx, hb, hr9, hml, hown, hts, hK, hlk, hA, hN, hnm9⟩ := id C0
  have hl : lv_has ls 5 [(0, .ref b), (1, .int p0), (2, .int p1), (3, .int p2), (4, .int p3)] := hl
  refine lv_aload_n hx hb dX10_init_0 rfl (lv_at hl 0 rfl) ?_
  refine hr_obj C0 hw_12 hw_2 hw_3 hl.1 dX10_init_1 (Nat.le_of_ble_eq_true rfl) (Nat.le_of_ble_eq_true rfl) ?_
  refine lv_aload_n hx hb dX10_init_4 rfl (lv_at hl 0 rfl) ?_
  refine lv_iconst (v := 1) hx hb dX10_init_5 (by decide) ?_
  refine hr_put C0 hp (q0 := 0) (C := RX10) (T := TX10) (N := 12) (ci := 4) (ty0 := tyX10) (ty := .boolean) (Y' := [(b, .inr (4, [.int 0, .int 0, .int 0, .int 0, .int 1, .int 0, .int 0, .int 0, .int 0, .int 0, .int 0, .int 0]))]) rfl rfl hr_uX10 tyX10_ok nmX10 4 (by decide) hw_13 (fun _ h9 => h9) rfl (by decide +kernel) rfl rfl (Nat.le_of_ble_eq_true rfl) rfl dX10_init_6 (fun H locs hp => ?_)
  refine lv_aload_n hx hb dX10_init_9 rfl (lv_at hl 0 rfl) ?_
  refine lv_iconst (v := (-1)) hx hb dX10_init_10 (by decide) ?_
  refine hr_put C0 hp (q0 := 0) (C := RX10) (T := TX10) (N := 12) (ci := 4) (ty0 := tyX10) (ty := .int) (Y' := [(b, .inr (4, [.int 0, .int 0, .int 0, .int 0, .int 1, .int (-1), .int 0, .int 0, .int 0, .int 0, .int 0, .int 0]))]) rfl rfl hr_uX10 tyX10_ok nmX10 5 (by decide) hw_14 (fun _ h9 => h9) rfl (by decide +kernel) rfl rfl (Nat.le_of_ble_eq_true rfl) rfl dX10_init_11 (fun H locs hp => ?_)
  refine lv_aload_n hx hb dX10_init_14 rfl (lv_at hl 0 rfl) ?_
  refine lv_iconst (v := (-1)) hx hb dX10_init_15 (by decide) ?_
  refine hr_put C0 hp (q0 := 0) (C := RX10) (T := TX10) (N := 12) (ci := 4) (ty0 := tyX10) (ty := .int) (Y' := [(b, .inr (4, [.int 0, .int 0, .int 0, .int 0, .int 1, .int (-1), .int (-1), .int 0, .int 0, .int 0, .int 0, .int 0]))]) rfl rfl hr_uX10 tyX10_ok nmX10 6 (by decide) hw_15 (fun _ h9 => h9) rfl (by decide +kernel) rfl rfl (Nat.le_of_ble_eq_true rfl) rfl dX10_init_16 (fun H locs hp => ?_)
  refine lv_aload_n hx hb dX10_init_19 rfl (lv_at hl 0 rfl) ?_
  refine lv_iconst (v := (-1)) hx hb dX10_init_20 (by decide) ?_
  refine hr_put C0 hp (q0 := 0) (C := RX10) (T := TX10) (N := 12) (ci := 4) (ty0 := tyX10) (ty := .int) (Y' := [(b, .inr (4, [.int 0, .int 0, .int 0, .int 0, .int 1, .int (-1), .int (-1), .int (-1), .int 0, .int 0, .int 0, .int 0]))]) rfl rfl hr_uX10 tyX10_ok nmX10 7 (by decide) hw_16 (fun _ h9 => h9) rfl (by decide +kernel) rfl rfl (Nat.le_of_ble_eq_true rfl) rfl dX10_init_21 (fun H locs hp => ?_)
  refine lv_aload_n hx hb dX10_init_24 rfl (lv_at hl 0 rfl) ?_
  refine lv_iconst (v := (-1)) hx hb dX10_init_25 (by decide) ?_
  refine hr_put C0 hp (q0 := 0) (C := RX10) (T := TX10) (N := 12) (ci := 4) (ty0 := tyX10) (ty := .int) (Y' := [(b, .inr (4, [.int 0, .int 0, .int 0, .int 0, .int 1, .int (-1), .int (-1), .int (-1), .int 0, .int (-1), .int 0, .int 0]))]) rfl rfl hr_uX10 tyX10_ok nmX10 9 (by decide) hw_17 (fun _ h9 => h9) rfl (by decide +kernel) rfl rfl (Nat.le_of_ble_eq_true rfl) rfl dX10_init_26 (fun H locs hp => ?_)
  refine lv_aload_n hx hb dX10_init_29 rfl (lv_at hl 0 rfl) ?_
  refine lv_iload_n hx hb dX10_init_30 rfl (lv_at hl 1 rfl) ?_
  refine hr_putF C0 hp (q0 := 0) (C := RX10) (T := TX10) (N := 12) (ci := 4) (ty0 := tyX10) (ty := .int) (Y' := [(b, .inr (4, [.int p0, .int 0, .int 0, .int 0, .int 1, .int (-1), .int (-1), .int (-1), .int 0, .int (-1), .int 0, .int 0]))]) rfl rfl hr_uX10 tyX10_ok nmX10 0 (by decide) hw_18 (fun _ h9 => h9) rfl rfl rfl (by decide +kernel) rfl rfl (Nat.le_of_ble_eq_true rfl) rfl dX10_init_31 (fun H locs hp => ?_)
  refine lv_aload_n hx hb dX10_init_34 rfl (lv_at hl 0 rfl) ?_
  refine lv_iload_n hx hb dX10_init_35 rfl (lv_at hl 2 rfl) ?_
  refine hr_put C0 hp (q0 := 0) (C := RX10) (T := TX10) (N := 12) (ci := 4) (ty0 := tyX10) (ty := .int) (Y' := [(b, .inr (4, [.int p0, .int p1, .int 0, .int 0, .int 1, .int (-1), .int (-1), .int (-1), .int 0, .int (-1), .int 0, .int 0]))]) rfl rfl hr_uX10 tyX10_ok nmX10 1 (by decide) hw_19 (fun _ h9 => h9) rfl (by decide +kernel) rfl rfl (Nat.le_of_ble_eq_true rfl) rfl dX10_init_36 (fun H locs hp => ?_)
  refine lv_aload_n hx hb dX10_init_39 rfl (lv_at hl 0 rfl) ?_
  refine lv_iload_n hx hb dX10_init_40 rfl (lv_at hl 3 rfl) ?_
  refine hr_put C0 hp (q0 := 0) (C := RX10) (T := TX10) (N := 12) (ci := 4) (ty0 := tyX10) (ty := .int) (Y' := [(b, .inr (4, [.int p0, .int p1, .int p2, .int 0, .int 1, .int (-1), .int (-1), .int (-1), .int 0, .int (-1), .int 0, .int 0]))]) rfl rfl hr_uX10 tyX10_ok nmX10 2 (by decide) hw_20 (fun _ h9 => h9) rfl (by decide +kernel) rfl rfl (Nat.le_of_ble_eq_true rfl) rfl dX10_init_41 (fun H locs hp => ?_)
  refine lv_aload_n hx hb dX10_init_44 rfl (lv_at hl 0 rfl) ?_
  refine lv_iload hx hb dX10_init_45 (lv_at hl 4 rfl) ?_
  refine hr_put C0 hp (q0 := 0) (C := RX10) (T := TX10) (N := 12) (ci := 4) (ty0 := tyX10) (ty := .int) (Y' := [(b, .inr (4, [.int p0, .int p1, .int p2, .int p3, .int 1, .int (-1), .int (-1), .int (-1), .int 0, .int (-1), .int 0, .int 0]))]) rfl rfl hr_uX10 tyX10_ok nmX10 3 (by decide) hw_21 (fun _ h9 => h9) rfl (by decide +kernel) rfl rfl (Nat.le_of_ble_eq_true rfl) rfl dX10_init_47 (fun H locs hp => ?_)
  exact hr_vret () C0 hp rfl ⟨Nat.le_of_ble_eq_true rfl, Nat.le_of_ble_eq_true rfl⟩ dX10_init_50 trivial
def hv_mast (p0 p1 p2 p3 p4 p5 : Int32) : Prop := (0 ≤ p0 ∧ p0 ≤ 99) ∧ (10 ≤ p1 ∧ p1 ≤ 60) ∧ (0 ≤ p2 ∧ p2 ≤ 2) ∧ (1 ≤ p3 ∧ p3 ≤ 4) ∧ (0 ≤ p4 ∧ p4 ≤ 3) ∧ (0 ≤ p5 ∧ p5 ≤ 1)
def hv_handset (p0 p1 p2 p3 : Int32) : Prop := (0 ≤ p0 ∧ p0 ≤ 1) ∧ (0 ≤ p1 ∧ p1 ≤ 99) ∧ ((-3) ≤ p2 ∧ p2 ≤ 3) ∧ (0 ≤ p3 ∧ p3 ≤ 999)
def hv_pass (p0 : Int32) : Prop := (1 ≤ p0 ∧ p0 ≤ 99)
def hv_best (p0 : Int32) : Prop := (0 ≤ p0 ∧ p0 ≤ 99)
def hv_many (p0 : Int32) : Prop := (0 ≤ p0 ∧ p0 ≤ 14)
def hv_bestPlace (p0 p1 : Int32) : Prop := (10 ≤ p0 ∧ p0 ≤ 60) ∧ (0 ≤ p1 ∧ p1 ≤ 2)
set_option maxHeartbeats 4000000 in
set_option maxRecDepth 100000 in
/-- mast, the first -/
theorem hr_mast_y (l : Launch) (D : va_G) (a : Nat → Nat) (z : Nat) (th nw : Int32) (p0 p1 p2 p3 p4 p5 : Int32) (hvd : hv_mast p0 p1 p2 p3 p4 p5) : hr_Ki l D z yX12_mast (hr_wm yX12_mast cX12_mast 7 (some .int)) { frames := 5, cells := 2, slots := 19, locals := 101 } [.ref (a 0), .int p0, .int p1, .int p2, .int p3, .int p4, .int p5] (hr_Y a z th nw) 2 19 (fun (q : Int32) (_ : Unit) => q = 0) (fun _ => [((a 0), .inr (2, [.int 0, .ref (a 1), .int 0, .int 0]))]) := by
  refine hr_Ki_of (by decide) (Nat.le_of_ble_eq_true rfl) ?_
  intro p e s m args below meth c ls A C0 hp hl
  obtain ⟨hx, hb, hr9, hml, hown, hts, hK, hlk, hA, hN, hnm9⟩ := id C0
  have hl : lv_has ls 7 [(0, .ref (a 0)), (1, .int p0), (2, .int p1), (3, .int p2), (4, .int p3), (5, .int p4), (6, .int p5)] := hl
  refine lv_aload_n hx hb dX12_mast_0 rfl (lv_at hl 0 rfl) ?_
  refine lv_iload_n hx hb dX12_mast_1 rfl (lv_at hl 1 rfl) ?_
  refine lv_iconst (v := 0) hx hb dX12_mast_2 (by decide) ?_
  refine lv_bipush (v := 99) hx hb dX12_mast_3 (by decide) ?_
  refine hr_cSi C0 hp (rest := [.ref (a 0)]) (n := 3) [] (hr_X12_isIn l D z (hr_Y a z th nw) (p0) (0) (99)) rfl (hr_gS hw_151 hw_104 hw_105 hw_106) ⟨rfl, rfl⟩ (by decide +kernel) ⟨Nat.le_of_ble_eq_true rfl, Nat.le_of_ble_eq_true rfl⟩ ⟨Nat.le_of_ble_eq_true rfl, Nat.le_of_ble_eq_true rfl⟩ hl.1 rfl rfl (Nat.le_of_ble_eq_true rfl) dX12_mast_5 (fun q_5 u_5 H locs hv_5 hp => ?_)
  subst hv_5
  have hp : hr_H D A s.heap (hr_Y a z th nw) H _ := hp
  rw [hr_in_y hvd.1.1 hvd.1.2]
  refine lv_if_eq (tgt := 61) hx hb dX12_mast_8 (by decide) (fun c9 => absurd c9 (by decide)) (fun _ => ?_)
  refine lv_iload_n hx hb dX12_mast_11 rfl (lv_at hl 2 rfl) ?_
  refine lv_bipush (v := 10) hx hb dX12_mast_12 (by decide) ?_
  refine lv_bipush (v := 60) hx hb dX12_mast_14 (by decide) ?_
  refine hr_cSi C0 hp (rest := [.ref (a 0)]) (n := 3) [] (hr_X12_isIn l D z (hr_Y a z th nw) (p1) (10) (60)) rfl (hr_gS hw_151 hw_104 hw_105 hw_106) ⟨rfl, rfl⟩ (by decide +kernel) ⟨Nat.le_of_ble_eq_true rfl, Nat.le_of_ble_eq_true rfl⟩ ⟨Nat.le_of_ble_eq_true rfl, Nat.le_of_ble_eq_true rfl⟩ hl.1 rfl rfl (Nat.le_of_ble_eq_true rfl) dX12_mast_16 (fun q_16 u_16 H locs hv_16 hp => ?_)
  subst hv_16
  have hp : hr_H D A s.heap (hr_Y a z th nw) H _ := hp
  rw [hr_in_y hvd.2.1.1 hvd.2.1.2]
  refine lv_if_eq (tgt := 61) hx hb dX12_mast_19 (by decide) (fun c9 => absurd c9 (by decide)) (fun _ => ?_)
  refine lv_iload_n hx hb dX12_mast_22 rfl (lv_at hl 3 rfl) ?_
  refine lv_iconst (v := 0) hx hb dX12_mast_23 (by decide) ?_
  refine lv_iconst (v := 2) hx hb dX12_mast_24 (by decide) ?_
  refine hr_cSi C0 hp (rest := [.ref (a 0)]) (n := 3) [] (hr_X12_isIn l D z (hr_Y a z th nw) (p2) (0) (2)) rfl (hr_gS hw_151 hw_104 hw_105 hw_106) ⟨rfl, rfl⟩ (by decide +kernel) ⟨Nat.le_of_ble_eq_true rfl, Nat.le_of_ble_eq_true rfl⟩ ⟨Nat.le_of_ble_eq_true rfl, Nat.le_of_ble_eq_true rfl⟩ hl.1 rfl rfl (Nat.le_of_ble_eq_true rfl) dX12_mast_25 (fun q_25 u_25 H locs hv_25 hp => ?_)
  subst hv_25
  have hp : hr_H D A s.heap (hr_Y a z th nw) H _ := hp
  rw [hr_in_y hvd.2.2.1.1 hvd.2.2.1.2]
  refine lv_if_eq (tgt := 61) hx hb dX12_mast_28 (by decide) (fun c9 => absurd c9 (by decide)) (fun _ => ?_)
  refine lv_iload hx hb dX12_mast_31 (lv_at hl 4 rfl) ?_
  refine lv_iconst (v := 1) hx hb dX12_mast_33 (by decide) ?_
  refine lv_iconst (v := 4) hx hb dX12_mast_34 (by decide) ?_
  refine hr_cSi C0 hp (rest := [.ref (a 0)]) (n := 3) [] (hr_X12_isIn l D z (hr_Y a z th nw) (p3) (1) (4)) rfl (hr_gS hw_151 hw_104 hw_105 hw_106) ⟨rfl, rfl⟩ (by decide +kernel) ⟨Nat.le_of_ble_eq_true rfl, Nat.le_of_ble_eq_true rfl⟩ ⟨Nat.le_of_ble_eq_true rfl, Nat.le_of_ble_eq_true rfl⟩ hl.1 rfl rfl (Nat.le_of_ble_eq_true rfl) dX12_mast_35 (fun q_35 u_35 H locs hv_35 hp => ?_)
  subst hv_35
  have hp : hr_H D A s.heap (hr_Y a z th nw) H _ := hp
  rw [hr_in_y hvd.2.2.2.1.1 hvd.2.2.2.1.2]
  refine lv_if_eq (tgt := 61) hx hb dX12_mast_38 (by decide) (fun c9 => absurd c9 (by decide)) (fun _ => ?_)
  refine lv_iload hx hb dX12_mast_41 (lv_at hl 5 rfl) ?_
  refine lv_iconst (v := 0) hx hb dX12_mast_43 (by decide) ?_
  refine lv_iconst (v := 3) hx hb dX12_mast_44 (by decide) ?_
  refine hr_cSi C0 hp (rest := [.ref (a 0)]) (n := 3) [] (hr_X12_isIn l D z (hr_Y a z th nw) (p4) (0) (3)) rfl (hr_gS hw_151 hw_104 hw_105 hw_106) ⟨rfl, rfl⟩ (by decide +kernel) ⟨Nat.le_of_ble_eq_true rfl, Nat.le_of_ble_eq_true rfl⟩ ⟨Nat.le_of_ble_eq_true rfl, Nat.le_of_ble_eq_true rfl⟩ hl.1 rfl rfl (Nat.le_of_ble_eq_true rfl) dX12_mast_45 (fun q_45 u_45 H locs hv_45 hp => ?_)
  subst hv_45
  have hp : hr_H D A s.heap (hr_Y a z th nw) H _ := hp
  rw [hr_in_y hvd.2.2.2.2.1.1 hvd.2.2.2.2.1.2]
  refine lv_if_eq (tgt := 61) hx hb dX12_mast_48 (by decide) (fun c9 => absurd c9 (by decide)) (fun _ => ?_)
  refine lv_iload hx hb dX12_mast_51 (lv_at hl 6 rfl) ?_
  refine lv_iconst (v := 0) hx hb dX12_mast_53 (by decide) ?_
  refine lv_iconst (v := 1) hx hb dX12_mast_54 (by decide) ?_
  refine hr_cSi C0 hp (rest := [.ref (a 0)]) (n := 3) [] (hr_X12_isIn l D z (hr_Y a z th nw) (p5) (0) (1)) rfl (hr_gS hw_151 hw_104 hw_105 hw_106) ⟨rfl, rfl⟩ (by decide +kernel) ⟨Nat.le_of_ble_eq_true rfl, Nat.le_of_ble_eq_true rfl⟩ ⟨Nat.le_of_ble_eq_true rfl, Nat.le_of_ble_eq_true rfl⟩ hl.1 rfl rfl (Nat.le_of_ble_eq_true rfl) dX12_mast_55 (fun q_55 u_55 H locs hv_55 hp => ?_)
  subst hv_55
  have hp : hr_H D A s.heap (hr_Y a z th nw) H _ := hp
  rw [hr_in_y hvd.2.2.2.2.2.1 hvd.2.2.2.2.2.2]
  refine lv_if_ne (tgt := 65) hx hb dX12_mast_58 (by decide) (fun _ => ?_) (fun c9 => absurd c9 (by decide))
  refine lv_iconst (v := 0) hx hb dX12_mast_65 (by decide) ?_
  refine lv_iconst (v := 1) hx hb dX12_mast_66 (by decide) ?_
  refine hr_cVi C0 hp (q0 := 0) (ci := 2) (Cn := RX12) (T := TX12) (N := 4) (rest := []) (n := 2) [] (hr_start_0 l D a z th nw) rfl rfl rfl (hr_gV hw_159 hw_160 hw_161 hw_105 hw_144) ⟨rfl, rfl⟩ (by decide +kernel) ⟨Nat.le_of_ble_eq_true rfl, Nat.le_of_ble_eq_true rfl⟩ ⟨Nat.le_of_ble_eq_true rfl, Nat.le_of_ble_eq_true rfl⟩ hl.1 rfl rfl (Nat.le_of_ble_eq_true rfl) dX12_mast_67 (fun q_67 u_67 H locs hv_67 hp => ?_)
  subst hv_67
  have hp : hr_H D A s.heap (hr_Y a z 0 nw) H _ := hp
  refine lv_if_ne (tgt := 101) hx hb dX12_mast_70 (by decide) (fun c9 => absurd c9 (by decide)) (fun _ => ?_)
  refine lv_aload_n hx hb dX12_mast_73 rfl (lv_at hl 0 rfl) ?_
  refine lv_aload_n hx hb dX12_mast_74 rfl (lv_at hl 0 rfl) ?_
  refine hr_get C0 hp (q0 := 0) (C := RX12) (T := TX12) (N := 4) (ci := 2) rfl rfl hr_uX12 1 (by decide) hw_139 (fun _ h9 => h9) rfl dX12_mast_75 ?_
  refine hr_get C0 hp (q0 := 1) (C := RX11) (T := TX11) (N := 5) (ci := 1) rfl rfl hr_uX11 0 (by decide) hw_149 (fun _ h9 => h9) rfl dX12_mast_78 ?_
  refine hr_cVi C0 hp (q0 := 2) (ci := 0) (Cn := RJx4a65c) (T := TJx4a65c) (N := 3) (rest := [.ref (a 0)]) (n := 0) [] (hr_size_2 l D a z 0 nw) rfl rfl rfl (hr_gV hw_150 hw_52 hw_53 hw_26 hw_54) ⟨rfl, rfl⟩ (by decide +kernel) ⟨Nat.le_of_ble_eq_true rfl, Nat.le_of_ble_eq_true rfl⟩ ⟨Nat.le_of_ble_eq_true rfl, Nat.le_of_ble_eq_true rfl⟩ hl.1 rfl rfl (Nat.le_of_ble_eq_true rfl) dX12_mast_81 (fun q_81 u_81 H locs hv_81 hp => ?_)
  subst hv_81
  have hp : hr_H D A s.heap (hr_Y a z 0 nw) H _ := hp
  refine lv_bipush (v := 6) hx hb dX12_mast_84 (by decide) ?_
  refine lv_icmp_ne (tgt := 93) hx hb dX12_mast_86 (by decide) (fun _ => ?_) (fun c9 => absurd c9 (by decide))
  refine lv_iconst (v := 0) hx hb dX12_mast_93 (by decide) ?_
  refine lv_iconst (v := 2) hx hb dX12_mast_94 (by decide) ?_
  refine hr_cVi C0 hp (q0 := 0) (ci := 2) (Cn := RX12) (T := TX12) (N := 4) (rest := []) (n := 2) [] (hr_refuse_0 l D a z nw 2) rfl rfl rfl (hr_gV hw_145 hw_146 hw_147 hw_105 hw_143) ⟨rfl, rfl⟩ (by decide +kernel) ⟨Nat.le_of_ble_eq_true rfl, Nat.le_of_ble_eq_true rfl⟩ ⟨Nat.le_of_ble_eq_true rfl, Nat.le_of_ble_eq_true rfl⟩ hl.1 rfl rfl (Nat.le_of_ble_eq_true rfl) dX12_mast_95 (fun q_95 u_95 H locs hv_95 hp => ?_)
  subst hv_95
  have hp : hr_H D A s.heap (hr_Y a z 0 nw) H _ := hp
  refine lv_if_eq (tgt := 103) hx hb dX12_mast_98 (by decide) (fun _ => ?_) (fun c9 => absurd c9 (by decide))
  refine lv_aload_n hx hb dX12_mast_103 rfl (lv_at hl 0 rfl) ?_
  refine hr_get C0 hp (q0 := 0) (C := RX12) (T := TX12) (N := 4) (ci := 2) rfl rfl hr_uX12 1 (by decide) hw_139 (fun _ h9 => h9) rfl dX12_mast_104 ?_
  refine hr_get C0 hp (q0 := 1) (C := RX11) (T := TX11) (N := 5) (ci := 1) rfl rfl hr_uX11 0 (by decide) hw_149 (fun _ h9 => h9) rfl dX12_mast_107 ?_
  refine hr_new C0 hp (ci := 3) (fs := [.int 0, .int 0, .int 0, .int 0, .int 0, .int 0, .int 0, .int 0, .int 0]) (C := RX9) (T := TX9) (N := 9) (ty0 := tyX9) rfl hr_uX9 tyX9_ok hw_210 hw_158 hw_87 (fun j hj => by rcases (show j = 0 ∨ j = 1 ∨ j = 2 ∨ j = 3 ∨ j = 4 ∨ j = 5 ∨ j = 6 ∨ j = 7 ∨ j = 8 by omega) with rfl | rfl | rfl | rfl | rfl | rfl | rfl | rfl | rfl <;> rfl) (Nat.le_of_ble_eq_true rfl) (Nat.le_of_ble_eq_true rfl) dX12_mast_110 (fun q_110 H hp => ?_)
  have hp : hr_H D A s.heap (hr_Y a z 0 nw ++ [(q_110, .inr (3, [.int 0, .int 0, .int 0, .int 0, .int 0, .int 0, .int 0, .int 0, .int 0]))]) H _ := hp
  refine W.widen (k := 1) (n := 9) (by decide) (by decide) ?_
  refine lv_dup hx hb dX12_mast_113 rfl ?_
  refine lv_iload_n hx hb dX12_mast_114 rfl (lv_at hl 1 rfl) ?_
  refine lv_iload_n hx hb dX12_mast_115 rfl (lv_at hl 2 rfl) ?_
  refine lv_iload_n hx hb dX12_mast_116 rfl (lv_at hl 3 rfl) ?_
  refine lv_iload hx hb dX12_mast_117 (lv_at hl 4 rfl) ?_
  refine lv_iload hx hb dX12_mast_119 (lv_at hl 5 rfl) ?_
  refine lv_iload hx hb dX12_mast_121 (lv_at hl 6 rfl) ?_
  have hp := hr_perm (Y' := [(q_110, .inr (3, [.int 0, .int 0, .int 0, .int 0, .int 0, .int 0, .int 0, .int 0, .int 0])), ((a 0), .inr (2, [.int 0, .ref (a 1), .int 0, .int 0])), ((a 1), .inr (1, [.ref (a 2), .ref (a 3), .ref (a 4), .ref (a 5), .int nw])), ((a 2), .inr (0, [.int 0, .ref z, .int 0])), ((a 3), .inr (0, [.int 0, .ref z, .int 0])), ((a 4), .inr (0, [.int 0, .ref z, .int 0])), ((a 5), .inr (0, [.int 0, .ref z, .int 0]))]) [6, 0, 1, 2, 3, 4, 5] (by decide) rfl hp
  refine hr_cIv C0 hp (rest := [.ref q_110, .ref (a 2)]) (n := 6) [((a 0), .inr (2, [.int 0, .ref (a 1), .int 0, .int 0])), ((a 1), .inr (1, [.ref (a 2), .ref (a 3), .ref (a 4), .ref (a 5), .int nw])), ((a 2), .inr (0, [.int 0, .ref z, .int 0])), ((a 3), .inr (0, [.int 0, .ref z, .int 0])), ((a 4), .inr (0, [.int 0, .ref z, .int 0])), ((a 5), .inr (0, [.int 0, .ref z, .int 0]))] (hr_X9_init l D z q_110 p0 p1 p2 p3 p4 p5) rfl hw_0 hw_87 hw_162 hw_163 rfl ⟨rfl, rfl⟩ (by decide +kernel) ⟨Nat.le_of_ble_eq_true rfl, Nat.le_of_ble_eq_true rfl⟩ ⟨Nat.le_of_ble_eq_true rfl, Nat.le_of_ble_eq_true rfl⟩ hl.1 rfl rfl (Nat.le_of_ble_eq_true rfl) dX12_mast_123 (fun u_123 H locs hv_123 hp => ?_)
  have hp : hr_H D A s.heap [(q_110, .inr (3, [.int p0, .int p1, .int p2, .int p3, .int p4, .int p5, .int 1, .int 0, .int 0])), ((a 0), .inr (2, [.int 0, .ref (a 1), .int 0, .int 0])), ((a 1), .inr (1, [.ref (a 2), .ref (a 3), .ref (a 4), .ref (a 5), .int nw])), ((a 2), .inr (0, [.int 0, .ref z, .int 0])), ((a 3), .inr (0, [.int 0, .ref z, .int 0])), ((a 4), .inr (0, [.int 0, .ref z, .int 0])), ((a 5), .inr (0, [.int 0, .ref z, .int 0]))] H _ := hp
  have hp := hr_perm (Y' := [((a 2), .inr (0, [.int 0, .ref z, .int 0])), (q_110, .inr (3, [.int p0, .int p1, .int p2, .int p3, .int p4, .int p5, .int 1, .int 0, .int 0])), ((a 0), .inr (2, [.int 0, .ref (a 1), .int 0, .int 0])), ((a 1), .inr (1, [.ref (a 2), .ref (a 3), .ref (a 4), .ref (a 5), .int nw])), ((a 3), .inr (0, [.int 0, .ref z, .int 0])), ((a 4), .inr (0, [.int 0, .ref z, .int 0])), ((a 5), .inr (0, [.int 0, .ref z, .int 0]))]) [3, 0, 1, 2, 4, 5, 6] (by decide) rfl hp
  refine hr_cVi C0 hp (q0 := 0) (ci := 0) (Cn := RJx4a65c) (T := TJx4a65c) (N := 3) (rest := []) (n := 1) [((a 0), .inr (2, [.int 0, .ref (a 1), .int 0, .int 0])), ((a 1), .inr (1, [.ref (a 2), .ref (a 3), .ref (a 4), .ref (a 5), .int nw])), ((a 3), .inr (0, [.int 0, .ref z, .int 0])), ((a 4), .inr (0, [.int 0, .ref z, .int 0])), ((a 5), .inr (0, [.int 0, .ref z, .int 0]))] (hr_add1_3 l D z (a 2) q_110 [.int p0, .int p1, .int p2, .int p3, .int p4, .int p5, .int 1, .int 0, .int 0]) rfl rfl rfl (hr_gV hw_164 hw_165 hw_166 hw_26 hw_167) ⟨rfl, rfl⟩ (by decide +kernel) ⟨Nat.le_of_ble_eq_true rfl, Nat.le_of_ble_eq_true rfl⟩ ⟨Nat.le_of_ble_eq_true rfl, Nat.le_of_ble_eq_true rfl⟩ hl.1 rfl rfl (Nat.le_of_ble_eq_true rfl) dX12_mast_126 (fun q_126 u_126 H locs hv_126 hp => ?_)
  subst hv_126
  have hp : hr_H D A s.heap [((a 2), .inr (0, [.int 1, .ref u_126.1, .int 1])), (q_110, .inr (3, [.int p0, .int p1, .int p2, .int p3, .int p4, .int p5, .int 1, .int 0, .int 0])), (u_126.1, .inl (u_126.2, 10, .inr (.inr (.inr (.inr (va_up (fun _ => none) 0 (some q_110))))))), ((a 0), .inr (2, [.int 0, .ref (a 1), .int 0, .int 0])), ((a 1), .inr (1, [.ref (a 2), .ref (a 3), .ref (a 4), .ref (a 5), .int nw])), ((a 3), .inr (0, [.int 0, .ref z, .int 0])), ((a 4), .inr (0, [.int 0, .ref z, .int 0])), ((a 5), .inr (0, [.int 0, .ref z, .int 0]))] H _ := hp
  refine W.widen (k := 2) (n := 19) (by decide) (by decide) ?_
  refine lv_pop hx hb dX12_mast_129 rfl ?_
  refine lv_aload_n hx hb dX12_mast_130 rfl (lv_at hl 0 rfl) ?_
  refine hr_get C0 hp (q0 := 3) (C := RX12) (T := TX12) (N := 4) (ci := 2) rfl rfl hr_uX12 1 (by decide) hw_139 (fun _ h9 => h9) rfl dX12_mast_131 ?_
  refine hr_get C0 hp (q0 := 4) (C := RX11) (T := TX11) (N := 5) (ci := 1) rfl rfl hr_uX11 0 (by decide) hw_149 (fun _ h9 => h9) rfl dX12_mast_134 ?_
  refine hr_cVi C0 hp (q0 := 0) (ci := 0) (Cn := RJx4a65c) (T := TJx4a65c) (N := 3) (rest := []) (n := 0) [(q_110, .inr (3, [.int p0, .int p1, .int p2, .int p3, .int p4, .int p5, .int 1, .int 0, .int 0])), (u_126.1, .inl (u_126.2, 10, .inr (.inr (.inr (.inr (va_up (fun _ => none) 0 (some q_110))))))), ((a 0), .inr (2, [.int 0, .ref (a 1), .int 0, .int 0])), ((a 1), .inr (1, [.ref (a 2), .ref (a 3), .ref (a 4), .ref (a 5), .int nw])), ((a 3), .inr (0, [.int 0, .ref z, .int 0])), ((a 4), .inr (0, [.int 0, .ref z, .int 0])), ((a 5), .inr (0, [.int 0, .ref z, .int 0]))] (hr_sizeG l D z (a 2) 1 1 (.ref u_126.1)) rfl rfl rfl (hr_gV hw_150 hw_52 hw_53 hw_26 hw_54) ⟨rfl, rfl⟩ (by decide +kernel) ⟨Nat.le_of_ble_eq_true rfl, Nat.le_of_ble_eq_true rfl⟩ ⟨Nat.le_of_ble_eq_true rfl, Nat.le_of_ble_eq_true rfl⟩ hl.1 rfl rfl (Nat.le_of_ble_eq_true rfl) dX12_mast_137 (fun q_137 u_137 H locs hv_137 hp => ?_)
  subst hv_137
  have hp : hr_H D A s.heap [((a 2), .inr (0, [.int 1, .ref u_126.1, .int 1])), (q_110, .inr (3, [.int p0, .int p1, .int p2, .int p3, .int p4, .int p5, .int 1, .int 0, .int 0])), (u_126.1, .inl (u_126.2, 10, .inr (.inr (.inr (.inr (va_up (fun _ => none) 0 (some q_110))))))), ((a 0), .inr (2, [.int 0, .ref (a 1), .int 0, .int 0])), ((a 1), .inr (1, [.ref (a 2), .ref (a 3), .ref (a 4), .ref (a 5), .int nw])), ((a 3), .inr (0, [.int 0, .ref z, .int 0])), ((a 4), .inr (0, [.int 0, .ref z, .int 0])), ((a 5), .inr (0, [.int 0, .ref z, .int 0]))] H _ := hp
  refine lv_iconst (v := 1) hx hb dX12_mast_140 (by decide) ?_
  refine lv_isub hx hb dX12_mast_141 ?_
  rw [show (1 : Int32) - 1 = 0 from by decide]
  have hp := hr_perm (Y' := [((a 0), .inr (2, [.int 0, .ref (a 1), .int 0, .int 0])), ((a 2), .inr (0, [.int 1, .ref u_126.1, .int 1])), (q_110, .inr (3, [.int p0, .int p1, .int p2, .int p3, .int p4, .int p5, .int 1, .int 0, .int 0])), (u_126.1, .inl (u_126.2, 10, .inr (.inr (.inr (.inr (va_up (fun _ => none) 0 (some q_110))))))), ((a 1), .inr (1, [.ref (a 2), .ref (a 3), .ref (a 4), .ref (a 5), .int nw])), ((a 3), .inr (0, [.int 0, .ref z, .int 0])), ((a 4), .inr (0, [.int 0, .ref z, .int 0])), ((a 5), .inr (0, [.int 0, .ref z, .int 0]))]) [3, 0, 1, 2, 4, 5, 6, 7] (by decide) rfl hp
  have hp := hr_drop (Y := [((a 0), .inr (2, [.int 0, .ref (a 1), .int 0, .int 0]))]) (X := [((a 2), .inr (0, [.int 1, .ref u_126.1, .int 1])), (q_110, .inr (3, [.int p0, .int p1, .int p2, .int p3, .int p4, .int p5, .int 1, .int 0, .int 0])), (u_126.1, .inl (u_126.2, 10, .inr (.inr (.inr (.inr (va_up (fun _ => none) 0 (some q_110))))))), ((a 1), .inr (1, [.ref (a 2), .ref (a 3), .ref (a 4), .ref (a 5), .int nw])), ((a 3), .inr (0, [.int 0, .ref z, .int 0])), ((a 4), .inr (0, [.int 0, .ref z, .int 0])), ((a 5), .inr (0, [.int 0, .ref z, .int 0]))]) hp
  exact hr_iret () C0 hp rfl ⟨Nat.le_of_ble_eq_true rfl, Nat.le_of_ble_eq_true rfl⟩ dX12_mast_142 rfl
set_option maxHeartbeats 4000000 in
set_option maxRecDepth 100000 in
/-- handset, the first -/
theorem hr_handset_y (l : Launch) (D : va_G) (a : Nat → Nat) (z : Nat) (th nw : Int32) (p0 p1 p2 p3 : Int32) (hvd : hv_handset p0 p1 p2 p3) : hr_Ki l D z yX12_handset (hr_wm yX12_handset cX12_handset 5 (some .int)) { frames := 5, cells := 2, slots := 22, locals := 101 } [.ref (a 0), .int p0, .int p1, .int p2, .int p3] (hr_Y a z th nw) 2 22 (fun (q : Int32) (_ : Unit) => q = 0) (fun _ => [((a 0), .inr (2, [.int 0, .ref (a 1), .int 0, .int 0]))]) := by
  refine hr_Ki_of (by decide) (Nat.le_of_ble_eq_true rfl) ?_
  intro p e s m args below meth c ls A C0 hp hl
  obtain ⟨hx, hb, hr9, hml, hown, hts, hK, hlk, hA, hN, hnm9⟩ := id C0
  have hl : lv_has ls 5 [(0, .ref (a 0)), (1, .int p0), (2, .int p1), (3, .int p2), (4, .int p3)] := hl
  refine lv_aload_n hx hb dX12_handset_0 rfl (lv_at hl 0 rfl) ?_
  refine lv_iload_n hx hb dX12_handset_1 rfl (lv_at hl 1 rfl) ?_
  refine lv_iconst (v := 0) hx hb dX12_handset_2 (by decide) ?_
  refine lv_iconst (v := 1) hx hb dX12_handset_3 (by decide) ?_
  refine hr_cSi C0 hp (rest := [.ref (a 0)]) (n := 3) [] (hr_X12_isIn l D z (hr_Y a z th nw) (p0) (0) (1)) rfl (hr_gS hw_151 hw_104 hw_105 hw_106) ⟨rfl, rfl⟩ (by decide +kernel) ⟨Nat.le_of_ble_eq_true rfl, Nat.le_of_ble_eq_true rfl⟩ ⟨Nat.le_of_ble_eq_true rfl, Nat.le_of_ble_eq_true rfl⟩ hl.1 rfl rfl (Nat.le_of_ble_eq_true rfl) dX12_handset_4 (fun q_4 u_4 H locs hv_4 hp => ?_)
  subst hv_4
  have hp : hr_H D A s.heap (hr_Y a z th nw) H _ := hp
  rw [hr_in_y hvd.1.1 hvd.1.2]
  refine lv_if_eq (tgt := 42) hx hb dX12_handset_7 (by decide) (fun c9 => absurd c9 (by decide)) (fun _ => ?_)
  refine lv_iload_n hx hb dX12_handset_10 rfl (lv_at hl 2 rfl) ?_
  refine lv_iconst (v := 0) hx hb dX12_handset_11 (by decide) ?_
  refine lv_bipush (v := 99) hx hb dX12_handset_12 (by decide) ?_
  refine hr_cSi C0 hp (rest := [.ref (a 0)]) (n := 3) [] (hr_X12_isIn l D z (hr_Y a z th nw) (p1) (0) (99)) rfl (hr_gS hw_151 hw_104 hw_105 hw_106) ⟨rfl, rfl⟩ (by decide +kernel) ⟨Nat.le_of_ble_eq_true rfl, Nat.le_of_ble_eq_true rfl⟩ ⟨Nat.le_of_ble_eq_true rfl, Nat.le_of_ble_eq_true rfl⟩ hl.1 rfl rfl (Nat.le_of_ble_eq_true rfl) dX12_handset_14 (fun q_14 u_14 H locs hv_14 hp => ?_)
  subst hv_14
  have hp : hr_H D A s.heap (hr_Y a z th nw) H _ := hp
  rw [hr_in_y hvd.2.1.1 hvd.2.1.2]
  refine lv_if_eq (tgt := 42) hx hb dX12_handset_17 (by decide) (fun c9 => absurd c9 (by decide)) (fun _ => ?_)
  refine lv_iload_n hx hb dX12_handset_20 rfl (lv_at hl 3 rfl) ?_
  refine lv_bipush (v := (-3)) hx hb dX12_handset_21 (by decide) ?_
  refine lv_iconst (v := 3) hx hb dX12_handset_23 (by decide) ?_
  refine hr_cSi C0 hp (rest := [.ref (a 0)]) (n := 3) [] (hr_X12_isIn l D z (hr_Y a z th nw) (p2) ((-3)) (3)) rfl (hr_gS hw_151 hw_104 hw_105 hw_106) ⟨rfl, rfl⟩ (by decide +kernel) ⟨Nat.le_of_ble_eq_true rfl, Nat.le_of_ble_eq_true rfl⟩ ⟨Nat.le_of_ble_eq_true rfl, Nat.le_of_ble_eq_true rfl⟩ hl.1 rfl rfl (Nat.le_of_ble_eq_true rfl) dX12_handset_24 (fun q_24 u_24 H locs hv_24 hp => ?_)
  subst hv_24
  have hp : hr_H D A s.heap (hr_Y a z th nw) H _ := hp
  rw [hr_in_y hvd.2.2.1.1 hvd.2.2.1.2]
  refine lv_if_eq (tgt := 42) hx hb dX12_handset_27 (by decide) (fun c9 => absurd c9 (by decide)) (fun _ => ?_)
  refine lv_iload hx hb dX12_handset_30 (lv_at hl 4 rfl) ?_
  refine lv_iconst (v := 0) hx hb dX12_handset_32 (by decide) ?_
  refine lv_sipush (v := 999) hx hb dX12_handset_33 (by decide) ?_
  refine hr_cSi C0 hp (rest := [.ref (a 0)]) (n := 3) [] (hr_X12_isIn l D z (hr_Y a z th nw) (p3) (0) (999)) rfl (hr_gS hw_151 hw_104 hw_105 hw_106) ⟨rfl, rfl⟩ (by decide +kernel) ⟨Nat.le_of_ble_eq_true rfl, Nat.le_of_ble_eq_true rfl⟩ ⟨Nat.le_of_ble_eq_true rfl, Nat.le_of_ble_eq_true rfl⟩ hl.1 rfl rfl (Nat.le_of_ble_eq_true rfl) dX12_handset_36 (fun q_36 u_36 H locs hv_36 hp => ?_)
  subst hv_36
  have hp : hr_H D A s.heap (hr_Y a z th nw) H _ := hp
  rw [hr_in_y hvd.2.2.2.1 hvd.2.2.2.2]
  refine lv_if_ne (tgt := 46) hx hb dX12_handset_39 (by decide) (fun _ => ?_) (fun c9 => absurd c9 (by decide))
  refine lv_iconst (v := 0) hx hb dX12_handset_46 (by decide) ?_
  refine lv_iconst (v := 1) hx hb dX12_handset_47 (by decide) ?_
  refine hr_cVi C0 hp (q0 := 0) (ci := 2) (Cn := RX12) (T := TX12) (N := 4) (rest := []) (n := 2) [] (hr_start_0 l D a z th nw) rfl rfl rfl (hr_gV hw_159 hw_160 hw_161 hw_105 hw_144) ⟨rfl, rfl⟩ (by decide +kernel) ⟨Nat.le_of_ble_eq_true rfl, Nat.le_of_ble_eq_true rfl⟩ ⟨Nat.le_of_ble_eq_true rfl, Nat.le_of_ble_eq_true rfl⟩ hl.1 rfl rfl (Nat.le_of_ble_eq_true rfl) dX12_handset_48 (fun q_48 u_48 H locs hv_48 hp => ?_)
  subst hv_48
  have hp : hr_H D A s.heap (hr_Y a z 0 nw) H _ := hp
  refine lv_if_ne (tgt := 82) hx hb dX12_handset_51 (by decide) (fun c9 => absurd c9 (by decide)) (fun _ => ?_)
  refine lv_aload_n hx hb dX12_handset_54 rfl (lv_at hl 0 rfl) ?_
  refine lv_aload_n hx hb dX12_handset_55 rfl (lv_at hl 0 rfl) ?_
  refine hr_get C0 hp (q0 := 0) (C := RX12) (T := TX12) (N := 4) (ci := 2) rfl rfl hr_uX12 1 (by decide) hw_139 (fun _ h9 => h9) rfl dX12_handset_56 ?_
  refine hr_get C0 hp (q0 := 1) (C := RX11) (T := TX11) (N := 5) (ci := 1) rfl rfl hr_uX11 1 (by decide) hw_153 (fun _ h9 => h9) rfl dX12_handset_59 ?_
  refine hr_cVi C0 hp (q0 := 3) (ci := 0) (Cn := RJx4a65c) (T := TJx4a65c) (N := 3) (rest := [.ref (a 0)]) (n := 0) [] (hr_size_3 l D a z 0 nw) rfl rfl rfl (hr_gV hw_150 hw_52 hw_53 hw_26 hw_54) ⟨rfl, rfl⟩ (by decide +kernel) ⟨Nat.le_of_ble_eq_true rfl, Nat.le_of_ble_eq_true rfl⟩ ⟨Nat.le_of_ble_eq_true rfl, Nat.le_of_ble_eq_true rfl⟩ hl.1 rfl rfl (Nat.le_of_ble_eq_true rfl) dX12_handset_62 (fun q_62 u_62 H locs hv_62 hp => ?_)
  subst hv_62
  have hp : hr_H D A s.heap (hr_Y a z 0 nw) H _ := hp
  refine lv_bipush (v := 8) hx hb dX12_handset_65 (by decide) ?_
  refine lv_icmp_ne (tgt := 74) hx hb dX12_handset_67 (by decide) (fun _ => ?_) (fun c9 => absurd c9 (by decide))
  refine lv_iconst (v := 0) hx hb dX12_handset_74 (by decide) ?_
  refine lv_iconst (v := 2) hx hb dX12_handset_75 (by decide) ?_
  refine hr_cVi C0 hp (q0 := 0) (ci := 2) (Cn := RX12) (T := TX12) (N := 4) (rest := []) (n := 2) [] (hr_refuse_0 l D a z nw 2) rfl rfl rfl (hr_gV hw_145 hw_146 hw_147 hw_105 hw_143) ⟨rfl, rfl⟩ (by decide +kernel) ⟨Nat.le_of_ble_eq_true rfl, Nat.le_of_ble_eq_true rfl⟩ ⟨Nat.le_of_ble_eq_true rfl, Nat.le_of_ble_eq_true rfl⟩ hl.1 rfl rfl (Nat.le_of_ble_eq_true rfl) dX12_handset_76 (fun q_76 u_76 H locs hv_76 hp => ?_)
  subst hv_76
  have hp : hr_H D A s.heap (hr_Y a z 0 nw) H _ := hp
  refine lv_if_eq (tgt := 84) hx hb dX12_handset_79 (by decide) (fun _ => ?_) (fun c9 => absurd c9 (by decide))
  refine lv_aload_n hx hb dX12_handset_84 rfl (lv_at hl 0 rfl) ?_
  refine hr_get C0 hp (q0 := 0) (C := RX12) (T := TX12) (N := 4) (ci := 2) rfl rfl hr_uX12 1 (by decide) hw_139 (fun _ h9 => h9) rfl dX12_handset_85 ?_
  refine hr_get C0 hp (q0 := 1) (C := RX11) (T := TX11) (N := 5) (ci := 1) rfl rfl hr_uX11 1 (by decide) hw_153 (fun _ h9 => h9) rfl dX12_handset_88 ?_
  refine hr_new C0 hp (ci := 4) (fs := [.int 0, .int 0, .int 0, .int 0, .int 0, .int 0, .int 0, .int 0, .int 0, .int 0, .int 0, .int 0]) (C := RX10) (T := TX10) (N := 12) (ty0 := tyX10) rfl hr_uX10 tyX10_ok hw_197 hw_193 hw_107 (fun j hj => by rcases (show j = 0 ∨ j = 1 ∨ j = 2 ∨ j = 3 ∨ j = 4 ∨ j = 5 ∨ j = 6 ∨ j = 7 ∨ j = 8 ∨ j = 9 ∨ j = 10 ∨ j = 11 by omega) with rfl | rfl | rfl | rfl | rfl | rfl | rfl | rfl | rfl | rfl | rfl | rfl <;> rfl) (Nat.le_of_ble_eq_true rfl) (Nat.le_of_ble_eq_true rfl) dX12_handset_91 (fun q_91 H hp => ?_)
  have hp : hr_H D A s.heap (hr_Y a z 0 nw ++ [(q_91, .inr (4, [.int 0, .int 0, .int 0, .int 0, .int 0, .int 0, .int 0, .int 0, .int 0, .int 0, .int 0, .int 0]))]) H _ := hp
  refine W.widen (k := 1) (n := 12) (by decide) (by decide) ?_
  refine lv_dup hx hb dX12_handset_94 rfl ?_
  refine lv_iload_n hx hb dX12_handset_95 rfl (lv_at hl 1 rfl) ?_
  refine lv_iload_n hx hb dX12_handset_96 rfl (lv_at hl 2 rfl) ?_
  refine lv_iload_n hx hb dX12_handset_97 rfl (lv_at hl 3 rfl) ?_
  refine lv_iload hx hb dX12_handset_98 (lv_at hl 4 rfl) ?_
  have hp := hr_perm (Y' := [(q_91, .inr (4, [.int 0, .int 0, .int 0, .int 0, .int 0, .int 0, .int 0, .int 0, .int 0, .int 0, .int 0, .int 0])), ((a 0), .inr (2, [.int 0, .ref (a 1), .int 0, .int 0])), ((a 1), .inr (1, [.ref (a 2), .ref (a 3), .ref (a 4), .ref (a 5), .int nw])), ((a 2), .inr (0, [.int 0, .ref z, .int 0])), ((a 3), .inr (0, [.int 0, .ref z, .int 0])), ((a 4), .inr (0, [.int 0, .ref z, .int 0])), ((a 5), .inr (0, [.int 0, .ref z, .int 0]))]) [6, 0, 1, 2, 3, 4, 5] (by decide) rfl hp
  refine hr_cIv C0 hp (rest := [.ref q_91, .ref (a 3)]) (n := 4) [((a 0), .inr (2, [.int 0, .ref (a 1), .int 0, .int 0])), ((a 1), .inr (1, [.ref (a 2), .ref (a 3), .ref (a 4), .ref (a 5), .int nw])), ((a 2), .inr (0, [.int 0, .ref z, .int 0])), ((a 3), .inr (0, [.int 0, .ref z, .int 0])), ((a 4), .inr (0, [.int 0, .ref z, .int 0])), ((a 5), .inr (0, [.int 0, .ref z, .int 0]))] (hr_X10_init l D z q_91 p0 p1 p2 p3) rfl hw_11 hw_107 hw_194 hw_195 rfl ⟨rfl, rfl⟩ (by decide +kernel) ⟨Nat.le_of_ble_eq_true rfl, Nat.le_of_ble_eq_true rfl⟩ ⟨Nat.le_of_ble_eq_true rfl, Nat.le_of_ble_eq_true rfl⟩ hl.1 rfl rfl (Nat.le_of_ble_eq_true rfl) dX12_handset_100 (fun u_100 H locs hv_100 hp => ?_)
  have hp : hr_H D A s.heap [(q_91, .inr (4, [.int p0, .int p1, .int p2, .int p3, .int 1, .int (-1), .int (-1), .int (-1), .int 0, .int (-1), .int 0, .int 0])), ((a 0), .inr (2, [.int 0, .ref (a 1), .int 0, .int 0])), ((a 1), .inr (1, [.ref (a 2), .ref (a 3), .ref (a 4), .ref (a 5), .int nw])), ((a 2), .inr (0, [.int 0, .ref z, .int 0])), ((a 3), .inr (0, [.int 0, .ref z, .int 0])), ((a 4), .inr (0, [.int 0, .ref z, .int 0])), ((a 5), .inr (0, [.int 0, .ref z, .int 0]))] H _ := hp
  have hp := hr_perm (Y' := [((a 3), .inr (0, [.int 0, .ref z, .int 0])), (q_91, .inr (4, [.int p0, .int p1, .int p2, .int p3, .int 1, .int (-1), .int (-1), .int (-1), .int 0, .int (-1), .int 0, .int 0])), ((a 0), .inr (2, [.int 0, .ref (a 1), .int 0, .int 0])), ((a 1), .inr (1, [.ref (a 2), .ref (a 3), .ref (a 4), .ref (a 5), .int nw])), ((a 2), .inr (0, [.int 0, .ref z, .int 0])), ((a 4), .inr (0, [.int 0, .ref z, .int 0])), ((a 5), .inr (0, [.int 0, .ref z, .int 0]))]) [4, 0, 1, 2, 3, 5, 6] (by decide) rfl hp
  refine hr_cVi C0 hp (q0 := 0) (ci := 0) (Cn := RJx4a65c) (T := TJx4a65c) (N := 3) (rest := []) (n := 1) [((a 0), .inr (2, [.int 0, .ref (a 1), .int 0, .int 0])), ((a 1), .inr (1, [.ref (a 2), .ref (a 3), .ref (a 4), .ref (a 5), .int nw])), ((a 2), .inr (0, [.int 0, .ref z, .int 0])), ((a 4), .inr (0, [.int 0, .ref z, .int 0])), ((a 5), .inr (0, [.int 0, .ref z, .int 0]))] (hr_add1_4 l D z (a 3) q_91 [.int p0, .int p1, .int p2, .int p3, .int 1, .int (-1), .int (-1), .int (-1), .int 0, .int (-1), .int 0, .int 0]) rfl rfl rfl (hr_gV hw_164 hw_165 hw_166 hw_26 hw_167) ⟨rfl, rfl⟩ (by decide +kernel) ⟨Nat.le_of_ble_eq_true rfl, Nat.le_of_ble_eq_true rfl⟩ ⟨Nat.le_of_ble_eq_true rfl, Nat.le_of_ble_eq_true rfl⟩ hl.1 rfl rfl (Nat.le_of_ble_eq_true rfl) dX12_handset_103 (fun q_103 u_103 H locs hv_103 hp => ?_)
  subst hv_103
  have hp : hr_H D A s.heap [((a 3), .inr (0, [.int 1, .ref u_103.1, .int 1])), (q_91, .inr (4, [.int p0, .int p1, .int p2, .int p3, .int 1, .int (-1), .int (-1), .int (-1), .int 0, .int (-1), .int 0, .int 0])), (u_103.1, .inl (u_103.2, 10, .inr (.inr (.inr (.inr (va_up (fun _ => none) 0 (some q_91))))))), ((a 0), .inr (2, [.int 0, .ref (a 1), .int 0, .int 0])), ((a 1), .inr (1, [.ref (a 2), .ref (a 3), .ref (a 4), .ref (a 5), .int nw])), ((a 2), .inr (0, [.int 0, .ref z, .int 0])), ((a 4), .inr (0, [.int 0, .ref z, .int 0])), ((a 5), .inr (0, [.int 0, .ref z, .int 0]))] H _ := hp
  refine W.widen (k := 2) (n := 22) (by decide) (by decide) ?_
  refine lv_pop hx hb dX12_handset_106 rfl ?_
  refine lv_aload_n hx hb dX12_handset_107 rfl (lv_at hl 0 rfl) ?_
  refine hr_get C0 hp (q0 := 3) (C := RX12) (T := TX12) (N := 4) (ci := 2) rfl rfl hr_uX12 1 (by decide) hw_139 (fun _ h9 => h9) rfl dX12_handset_108 ?_
  refine hr_get C0 hp (q0 := 4) (C := RX11) (T := TX11) (N := 5) (ci := 1) rfl rfl hr_uX11 1 (by decide) hw_153 (fun _ h9 => h9) rfl dX12_handset_111 ?_
  refine hr_cVi C0 hp (q0 := 0) (ci := 0) (Cn := RJx4a65c) (T := TJx4a65c) (N := 3) (rest := []) (n := 0) [(q_91, .inr (4, [.int p0, .int p1, .int p2, .int p3, .int 1, .int (-1), .int (-1), .int (-1), .int 0, .int (-1), .int 0, .int 0])), (u_103.1, .inl (u_103.2, 10, .inr (.inr (.inr (.inr (va_up (fun _ => none) 0 (some q_91))))))), ((a 0), .inr (2, [.int 0, .ref (a 1), .int 0, .int 0])), ((a 1), .inr (1, [.ref (a 2), .ref (a 3), .ref (a 4), .ref (a 5), .int nw])), ((a 2), .inr (0, [.int 0, .ref z, .int 0])), ((a 4), .inr (0, [.int 0, .ref z, .int 0])), ((a 5), .inr (0, [.int 0, .ref z, .int 0]))] (hr_sizeG l D z (a 3) 1 1 (.ref u_103.1)) rfl rfl rfl (hr_gV hw_150 hw_52 hw_53 hw_26 hw_54) ⟨rfl, rfl⟩ (by decide +kernel) ⟨Nat.le_of_ble_eq_true rfl, Nat.le_of_ble_eq_true rfl⟩ ⟨Nat.le_of_ble_eq_true rfl, Nat.le_of_ble_eq_true rfl⟩ hl.1 rfl rfl (Nat.le_of_ble_eq_true rfl) dX12_handset_114 (fun q_114 u_114 H locs hv_114 hp => ?_)
  subst hv_114
  have hp : hr_H D A s.heap [((a 3), .inr (0, [.int 1, .ref u_103.1, .int 1])), (q_91, .inr (4, [.int p0, .int p1, .int p2, .int p3, .int 1, .int (-1), .int (-1), .int (-1), .int 0, .int (-1), .int 0, .int 0])), (u_103.1, .inl (u_103.2, 10, .inr (.inr (.inr (.inr (va_up (fun _ => none) 0 (some q_91))))))), ((a 0), .inr (2, [.int 0, .ref (a 1), .int 0, .int 0])), ((a 1), .inr (1, [.ref (a 2), .ref (a 3), .ref (a 4), .ref (a 5), .int nw])), ((a 2), .inr (0, [.int 0, .ref z, .int 0])), ((a 4), .inr (0, [.int 0, .ref z, .int 0])), ((a 5), .inr (0, [.int 0, .ref z, .int 0]))] H _ := hp
  refine lv_iconst (v := 1) hx hb dX12_handset_117 (by decide) ?_
  refine lv_isub hx hb dX12_handset_118 ?_
  rw [show (1 : Int32) - 1 = 0 from by decide]
  have hp := hr_perm (Y' := [((a 0), .inr (2, [.int 0, .ref (a 1), .int 0, .int 0])), ((a 3), .inr (0, [.int 1, .ref u_103.1, .int 1])), (q_91, .inr (4, [.int p0, .int p1, .int p2, .int p3, .int 1, .int (-1), .int (-1), .int (-1), .int 0, .int (-1), .int 0, .int 0])), (u_103.1, .inl (u_103.2, 10, .inr (.inr (.inr (.inr (va_up (fun _ => none) 0 (some q_91))))))), ((a 1), .inr (1, [.ref (a 2), .ref (a 3), .ref (a 4), .ref (a 5), .int nw])), ((a 2), .inr (0, [.int 0, .ref z, .int 0])), ((a 4), .inr (0, [.int 0, .ref z, .int 0])), ((a 5), .inr (0, [.int 0, .ref z, .int 0]))]) [3, 0, 1, 2, 4, 5, 6, 7] (by decide) rfl hp
  have hp := hr_drop (Y := [((a 0), .inr (2, [.int 0, .ref (a 1), .int 0, .int 0]))]) (X := [((a 3), .inr (0, [.int 1, .ref u_103.1, .int 1])), (q_91, .inr (4, [.int p0, .int p1, .int p2, .int p3, .int 1, .int (-1), .int (-1), .int (-1), .int 0, .int (-1), .int 0, .int 0])), (u_103.1, .inl (u_103.2, 10, .inr (.inr (.inr (.inr (va_up (fun _ => none) 0 (some q_91))))))), ((a 1), .inr (1, [.ref (a 2), .ref (a 3), .ref (a 4), .ref (a 5), .int nw])), ((a 2), .inr (0, [.int 0, .ref z, .int 0])), ((a 4), .inr (0, [.int 0, .ref z, .int 0])), ((a 5), .inr (0, [.int 0, .ref z, .int 0]))]) hp
  exact hr_iret () C0 hp rfl ⟨Nat.le_of_ble_eq_true rfl, Nat.le_of_ble_eq_true rfl⟩ dX12_handset_119 rfl
set_option maxHeartbeats 4000000 in
set_option maxRecDepth 100000 in
/-- mast: a number is wrong -/
theorem hr_mast_n (l : Launch) (D : va_G) (a : Nat → Nat) (z : Nat) (th nw : Int32) (p0 p1 p2 p3 p4 p5 : Int32) (hvd : ¬ hv_mast p0 p1 p2 p3 p4 p5) : hr_Ki l D z yX12_mast (hr_wm yX12_mast cX12_mast 7 (some .int)) { frames := 2, cells := 0, slots := 0, locals := 44 } [.ref (a 0), .int p0, .int p1, .int p2, .int p3, .int p4, .int p5] (hr_Y a z th nw) 0 0 (fun (q : Int32) (_ : Unit) => q = 0) (fun _ => hr_Y a z 1 nw) := by
  refine hr_Ki_of (by decide) (Nat.le_of_ble_eq_true rfl) ?_
  intro p e s m args below meth c ls A C0 hp hl
  obtain ⟨hx, hb, hr9, hml, hown, hts, hK, hlk, hA, hN, hnm9⟩ := id C0
  have hl : lv_has ls 7 [(0, .ref (a 0)), (1, .int p0), (2, .int p1), (3, .int p2), (4, .int p3), (5, .int p4), (6, .int p5)] := hl
  refine lv_aload_n hx hb dX12_mast_0 rfl (lv_at hl 0 rfl) ?_
  refine lv_iload_n hx hb dX12_mast_1 rfl (lv_at hl 1 rfl) ?_
  refine lv_iconst (v := 0) hx hb dX12_mast_2 (by decide) ?_
  refine lv_bipush (v := 99) hx hb dX12_mast_3 (by decide) ?_
  refine hr_cSi C0 hp (rest := [.ref (a 0)]) (n := 3) [] (hr_X12_isIn l D z (hr_Y a z th nw) (p0) (0) (99)) rfl (hr_gS hw_151 hw_104 hw_105 hw_106) ⟨rfl, rfl⟩ (by decide +kernel) ⟨Nat.le_of_ble_eq_true rfl, Nat.le_of_ble_eq_true rfl⟩ ⟨Nat.le_of_ble_eq_true rfl, Nat.le_of_ble_eq_true rfl⟩ hl.1 rfl rfl (Nat.le_of_ble_eq_true rfl) dX12_mast_5 (fun q_5 u_5 H locs hv_5 hp => ?_)
  subst hv_5
  have hp : hr_H D A s.heap (hr_Y a z th nw) H _ := hp
  rcases Classical.em (¬ (0 ≤ p0 ∧ p0 ≤ 99)) with hc0 | hc0
  · rw [hr_in_n hc0]
    refine lv_if_eq (tgt := 61) hx hb dX12_mast_8 (by decide) (fun _ => ?_) (fun c9 => absurd c9 (by decide))
    refine lv_iconst (v := 1) hx hb dX12_mast_61 (by decide) ?_
    refine lv_goto (tgt := 66) hx hb dX12_mast_62 (by decide) ?_
    refine lv_iconst (v := 1) hx hb dX12_mast_66 (by decide) ?_
    refine hr_cVi C0 hp (q0 := 0) (ci := 2) (Cn := RX12) (T := TX12) (N := 4) (rest := []) (n := 2) [] (hr_start_1 l D a z th nw) rfl rfl rfl (hr_gV hw_159 hw_160 hw_161 hw_105 hw_144) ⟨rfl, rfl⟩ (by decide +kernel) ⟨Nat.le_of_ble_eq_true rfl, Nat.le_of_ble_eq_true rfl⟩ ⟨Nat.le_of_ble_eq_true rfl, Nat.le_of_ble_eq_true rfl⟩ hl.1 rfl rfl (Nat.le_of_ble_eq_true rfl) dX12_mast_67 (fun q_67 u_67 H locs hv_67 hp => ?_)
    subst hv_67
    have hp : hr_H D A s.heap (hr_Y a z 1 nw) H _ := hp
    refine lv_if_ne (tgt := 101) hx hb dX12_mast_70 (by decide) (fun _ => ?_) (fun c9 => absurd c9 (by decide))
    refine lv_iconst (v := 0) hx hb dX12_mast_101 (by decide) ?_
    exact hr_iret () C0 hp rfl ⟨Nat.le_of_ble_eq_true rfl, Nat.le_of_ble_eq_true rfl⟩ dX12_mast_102 rfl
  replace hc0 := Classical.not_not.mp hc0
  rw [hr_in_y hc0.1 hc0.2]
  refine lv_if_eq (tgt := 61) hx hb dX12_mast_8 (by decide) (fun c9 => absurd c9 (by decide)) (fun _ => ?_)
  refine lv_iload_n hx hb dX12_mast_11 rfl (lv_at hl 2 rfl) ?_
  refine lv_bipush (v := 10) hx hb dX12_mast_12 (by decide) ?_
  refine lv_bipush (v := 60) hx hb dX12_mast_14 (by decide) ?_
  refine hr_cSi C0 hp (rest := [.ref (a 0)]) (n := 3) [] (hr_X12_isIn l D z (hr_Y a z th nw) (p1) (10) (60)) rfl (hr_gS hw_151 hw_104 hw_105 hw_106) ⟨rfl, rfl⟩ (by decide +kernel) ⟨Nat.le_of_ble_eq_true rfl, Nat.le_of_ble_eq_true rfl⟩ ⟨Nat.le_of_ble_eq_true rfl, Nat.le_of_ble_eq_true rfl⟩ hl.1 rfl rfl (Nat.le_of_ble_eq_true rfl) dX12_mast_16 (fun q_16 u_16 H locs hv_16 hp => ?_)
  subst hv_16
  have hp : hr_H D A s.heap (hr_Y a z th nw) H _ := hp
  rcases Classical.em (¬ (10 ≤ p1 ∧ p1 ≤ 60)) with hc1 | hc1
  · rw [hr_in_n hc1]
    refine lv_if_eq (tgt := 61) hx hb dX12_mast_19 (by decide) (fun _ => ?_) (fun c9 => absurd c9 (by decide))
    refine lv_iconst (v := 1) hx hb dX12_mast_61 (by decide) ?_
    refine lv_goto (tgt := 66) hx hb dX12_mast_62 (by decide) ?_
    refine lv_iconst (v := 1) hx hb dX12_mast_66 (by decide) ?_
    refine hr_cVi C0 hp (q0 := 0) (ci := 2) (Cn := RX12) (T := TX12) (N := 4) (rest := []) (n := 2) [] (hr_start_1 l D a z th nw) rfl rfl rfl (hr_gV hw_159 hw_160 hw_161 hw_105 hw_144) ⟨rfl, rfl⟩ (by decide +kernel) ⟨Nat.le_of_ble_eq_true rfl, Nat.le_of_ble_eq_true rfl⟩ ⟨Nat.le_of_ble_eq_true rfl, Nat.le_of_ble_eq_true rfl⟩ hl.1 rfl rfl (Nat.le_of_ble_eq_true rfl) dX12_mast_67 (fun q_67 u_67 H locs hv_67 hp => ?_)
    subst hv_67
    have hp : hr_H D A s.heap (hr_Y a z 1 nw) H _ := hp
    refine lv_if_ne (tgt := 101) hx hb dX12_mast_70 (by decide) (fun _ => ?_) (fun c9 => absurd c9 (by decide))
    refine lv_iconst (v := 0) hx hb dX12_mast_101 (by decide) ?_
    exact hr_iret () C0 hp rfl ⟨Nat.le_of_ble_eq_true rfl, Nat.le_of_ble_eq_true rfl⟩ dX12_mast_102 rfl
  replace hc1 := Classical.not_not.mp hc1
  rw [hr_in_y hc1.1 hc1.2]
  refine lv_if_eq (tgt := 61) hx hb dX12_mast_19 (by decide) (fun c9 => absurd c9 (by decide)) (fun _ => ?_)
  refine lv_iload_n hx hb dX12_mast_22 rfl (lv_at hl 3 rfl) ?_
  refine lv_iconst (v := 0) hx hb dX12_mast_23 (by decide) ?_
  refine lv_iconst (v := 2) hx hb dX12_mast_24 (by decide) ?_
  refine hr_cSi C0 hp (rest := [.ref (a 0)]) (n := 3) [] (hr_X12_isIn l D z (hr_Y a z th nw) (p2) (0) (2)) rfl (hr_gS hw_151 hw_104 hw_105 hw_106) ⟨rfl, rfl⟩ (by decide +kernel) ⟨Nat.le_of_ble_eq_true rfl, Nat.le_of_ble_eq_true rfl⟩ ⟨Nat.le_of_ble_eq_true rfl, Nat.le_of_ble_eq_true rfl⟩ hl.1 rfl rfl (Nat.le_of_ble_eq_true rfl) dX12_mast_25 (fun q_25 u_25 H locs hv_25 hp => ?_)
  subst hv_25
  have hp : hr_H D A s.heap (hr_Y a z th nw) H _ := hp
  rcases Classical.em (¬ (0 ≤ p2 ∧ p2 ≤ 2)) with hc2 | hc2
  · rw [hr_in_n hc2]
    refine lv_if_eq (tgt := 61) hx hb dX12_mast_28 (by decide) (fun _ => ?_) (fun c9 => absurd c9 (by decide))
    refine lv_iconst (v := 1) hx hb dX12_mast_61 (by decide) ?_
    refine lv_goto (tgt := 66) hx hb dX12_mast_62 (by decide) ?_
    refine lv_iconst (v := 1) hx hb dX12_mast_66 (by decide) ?_
    refine hr_cVi C0 hp (q0 := 0) (ci := 2) (Cn := RX12) (T := TX12) (N := 4) (rest := []) (n := 2) [] (hr_start_1 l D a z th nw) rfl rfl rfl (hr_gV hw_159 hw_160 hw_161 hw_105 hw_144) ⟨rfl, rfl⟩ (by decide +kernel) ⟨Nat.le_of_ble_eq_true rfl, Nat.le_of_ble_eq_true rfl⟩ ⟨Nat.le_of_ble_eq_true rfl, Nat.le_of_ble_eq_true rfl⟩ hl.1 rfl rfl (Nat.le_of_ble_eq_true rfl) dX12_mast_67 (fun q_67 u_67 H locs hv_67 hp => ?_)
    subst hv_67
    have hp : hr_H D A s.heap (hr_Y a z 1 nw) H _ := hp
    refine lv_if_ne (tgt := 101) hx hb dX12_mast_70 (by decide) (fun _ => ?_) (fun c9 => absurd c9 (by decide))
    refine lv_iconst (v := 0) hx hb dX12_mast_101 (by decide) ?_
    exact hr_iret () C0 hp rfl ⟨Nat.le_of_ble_eq_true rfl, Nat.le_of_ble_eq_true rfl⟩ dX12_mast_102 rfl
  replace hc2 := Classical.not_not.mp hc2
  rw [hr_in_y hc2.1 hc2.2]
  refine lv_if_eq (tgt := 61) hx hb dX12_mast_28 (by decide) (fun c9 => absurd c9 (by decide)) (fun _ => ?_)
  refine lv_iload hx hb dX12_mast_31 (lv_at hl 4 rfl) ?_
  refine lv_iconst (v := 1) hx hb dX12_mast_33 (by decide) ?_
  refine lv_iconst (v := 4) hx hb dX12_mast_34 (by decide) ?_
  refine hr_cSi C0 hp (rest := [.ref (a 0)]) (n := 3) [] (hr_X12_isIn l D z (hr_Y a z th nw) (p3) (1) (4)) rfl (hr_gS hw_151 hw_104 hw_105 hw_106) ⟨rfl, rfl⟩ (by decide +kernel) ⟨Nat.le_of_ble_eq_true rfl, Nat.le_of_ble_eq_true rfl⟩ ⟨Nat.le_of_ble_eq_true rfl, Nat.le_of_ble_eq_true rfl⟩ hl.1 rfl rfl (Nat.le_of_ble_eq_true rfl) dX12_mast_35 (fun q_35 u_35 H locs hv_35 hp => ?_)
  subst hv_35
  have hp : hr_H D A s.heap (hr_Y a z th nw) H _ := hp
  rcases Classical.em (¬ (1 ≤ p3 ∧ p3 ≤ 4)) with hc3 | hc3
  · rw [hr_in_n hc3]
    refine lv_if_eq (tgt := 61) hx hb dX12_mast_38 (by decide) (fun _ => ?_) (fun c9 => absurd c9 (by decide))
    refine lv_iconst (v := 1) hx hb dX12_mast_61 (by decide) ?_
    refine lv_goto (tgt := 66) hx hb dX12_mast_62 (by decide) ?_
    refine lv_iconst (v := 1) hx hb dX12_mast_66 (by decide) ?_
    refine hr_cVi C0 hp (q0 := 0) (ci := 2) (Cn := RX12) (T := TX12) (N := 4) (rest := []) (n := 2) [] (hr_start_1 l D a z th nw) rfl rfl rfl (hr_gV hw_159 hw_160 hw_161 hw_105 hw_144) ⟨rfl, rfl⟩ (by decide +kernel) ⟨Nat.le_of_ble_eq_true rfl, Nat.le_of_ble_eq_true rfl⟩ ⟨Nat.le_of_ble_eq_true rfl, Nat.le_of_ble_eq_true rfl⟩ hl.1 rfl rfl (Nat.le_of_ble_eq_true rfl) dX12_mast_67 (fun q_67 u_67 H locs hv_67 hp => ?_)
    subst hv_67
    have hp : hr_H D A s.heap (hr_Y a z 1 nw) H _ := hp
    refine lv_if_ne (tgt := 101) hx hb dX12_mast_70 (by decide) (fun _ => ?_) (fun c9 => absurd c9 (by decide))
    refine lv_iconst (v := 0) hx hb dX12_mast_101 (by decide) ?_
    exact hr_iret () C0 hp rfl ⟨Nat.le_of_ble_eq_true rfl, Nat.le_of_ble_eq_true rfl⟩ dX12_mast_102 rfl
  replace hc3 := Classical.not_not.mp hc3
  rw [hr_in_y hc3.1 hc3.2]
  refine lv_if_eq (tgt := 61) hx hb dX12_mast_38 (by decide) (fun c9 => absurd c9 (by decide)) (fun _ => ?_)
  refine lv_iload hx hb dX12_mast_41 (lv_at hl 5 rfl) ?_
  refine lv_iconst (v := 0) hx hb dX12_mast_43 (by decide) ?_
  refine lv_iconst (v := 3) hx hb dX12_mast_44 (by decide) ?_
  refine hr_cSi C0 hp (rest := [.ref (a 0)]) (n := 3) [] (hr_X12_isIn l D z (hr_Y a z th nw) (p4) (0) (3)) rfl (hr_gS hw_151 hw_104 hw_105 hw_106) ⟨rfl, rfl⟩ (by decide +kernel) ⟨Nat.le_of_ble_eq_true rfl, Nat.le_of_ble_eq_true rfl⟩ ⟨Nat.le_of_ble_eq_true rfl, Nat.le_of_ble_eq_true rfl⟩ hl.1 rfl rfl (Nat.le_of_ble_eq_true rfl) dX12_mast_45 (fun q_45 u_45 H locs hv_45 hp => ?_)
  subst hv_45
  have hp : hr_H D A s.heap (hr_Y a z th nw) H _ := hp
  rcases Classical.em (¬ (0 ≤ p4 ∧ p4 ≤ 3)) with hc4 | hc4
  · rw [hr_in_n hc4]
    refine lv_if_eq (tgt := 61) hx hb dX12_mast_48 (by decide) (fun _ => ?_) (fun c9 => absurd c9 (by decide))
    refine lv_iconst (v := 1) hx hb dX12_mast_61 (by decide) ?_
    refine lv_goto (tgt := 66) hx hb dX12_mast_62 (by decide) ?_
    refine lv_iconst (v := 1) hx hb dX12_mast_66 (by decide) ?_
    refine hr_cVi C0 hp (q0 := 0) (ci := 2) (Cn := RX12) (T := TX12) (N := 4) (rest := []) (n := 2) [] (hr_start_1 l D a z th nw) rfl rfl rfl (hr_gV hw_159 hw_160 hw_161 hw_105 hw_144) ⟨rfl, rfl⟩ (by decide +kernel) ⟨Nat.le_of_ble_eq_true rfl, Nat.le_of_ble_eq_true rfl⟩ ⟨Nat.le_of_ble_eq_true rfl, Nat.le_of_ble_eq_true rfl⟩ hl.1 rfl rfl (Nat.le_of_ble_eq_true rfl) dX12_mast_67 (fun q_67 u_67 H locs hv_67 hp => ?_)
    subst hv_67
    have hp : hr_H D A s.heap (hr_Y a z 1 nw) H _ := hp
    refine lv_if_ne (tgt := 101) hx hb dX12_mast_70 (by decide) (fun _ => ?_) (fun c9 => absurd c9 (by decide))
    refine lv_iconst (v := 0) hx hb dX12_mast_101 (by decide) ?_
    exact hr_iret () C0 hp rfl ⟨Nat.le_of_ble_eq_true rfl, Nat.le_of_ble_eq_true rfl⟩ dX12_mast_102 rfl
  replace hc4 := Classical.not_not.mp hc4
  rw [hr_in_y hc4.1 hc4.2]
  refine lv_if_eq (tgt := 61) hx hb dX12_mast_48 (by decide) (fun c9 => absurd c9 (by decide)) (fun _ => ?_)
  refine lv_iload hx hb dX12_mast_51 (lv_at hl 6 rfl) ?_
  refine lv_iconst (v := 0) hx hb dX12_mast_53 (by decide) ?_
  refine lv_iconst (v := 1) hx hb dX12_mast_54 (by decide) ?_
  refine hr_cSi C0 hp (rest := [.ref (a 0)]) (n := 3) [] (hr_X12_isIn l D z (hr_Y a z th nw) (p5) (0) (1)) rfl (hr_gS hw_151 hw_104 hw_105 hw_106) ⟨rfl, rfl⟩ (by decide +kernel) ⟨Nat.le_of_ble_eq_true rfl, Nat.le_of_ble_eq_true rfl⟩ ⟨Nat.le_of_ble_eq_true rfl, Nat.le_of_ble_eq_true rfl⟩ hl.1 rfl rfl (Nat.le_of_ble_eq_true rfl) dX12_mast_55 (fun q_55 u_55 H locs hv_55 hp => ?_)
  subst hv_55
  have hp : hr_H D A s.heap (hr_Y a z th nw) H _ := hp
  rcases Classical.em (¬ (0 ≤ p5 ∧ p5 ≤ 1)) with hc5 | hc5
  · rw [hr_in_n hc5]
    refine lv_if_ne (tgt := 65) hx hb dX12_mast_58 (by decide) (fun c9 => absurd c9 (by decide)) (fun _ => ?_)
    refine lv_iconst (v := 1) hx hb dX12_mast_61 (by decide) ?_
    refine lv_goto (tgt := 66) hx hb dX12_mast_62 (by decide) ?_
    refine lv_iconst (v := 1) hx hb dX12_mast_66 (by decide) ?_
    refine hr_cVi C0 hp (q0 := 0) (ci := 2) (Cn := RX12) (T := TX12) (N := 4) (rest := []) (n := 2) [] (hr_start_1 l D a z th nw) rfl rfl rfl (hr_gV hw_159 hw_160 hw_161 hw_105 hw_144) ⟨rfl, rfl⟩ (by decide +kernel) ⟨Nat.le_of_ble_eq_true rfl, Nat.le_of_ble_eq_true rfl⟩ ⟨Nat.le_of_ble_eq_true rfl, Nat.le_of_ble_eq_true rfl⟩ hl.1 rfl rfl (Nat.le_of_ble_eq_true rfl) dX12_mast_67 (fun q_67 u_67 H locs hv_67 hp => ?_)
    subst hv_67
    have hp : hr_H D A s.heap (hr_Y a z 1 nw) H _ := hp
    refine lv_if_ne (tgt := 101) hx hb dX12_mast_70 (by decide) (fun _ => ?_) (fun c9 => absurd c9 (by decide))
    refine lv_iconst (v := 0) hx hb dX12_mast_101 (by decide) ?_
    exact hr_iret () C0 hp rfl ⟨Nat.le_of_ble_eq_true rfl, Nat.le_of_ble_eq_true rfl⟩ dX12_mast_102 rfl
  replace hc5 := Classical.not_not.mp hc5
  rw [hr_in_y hc5.1 hc5.2]
  exact absurd ⟨hc0, hc1, hc2, hc3, hc4, hc5⟩ hvd
set_option maxHeartbeats 4000000 in
set_option maxRecDepth 100000 in
/-- handset: a number is wrong -/
theorem hr_handset_n (l : Launch) (D : va_G) (a : Nat → Nat) (z : Nat) (th nw : Int32) (p0 p1 p2 p3 : Int32) (hvd : ¬ hv_handset p0 p1 p2 p3) : hr_Ki l D z yX12_handset (hr_wm yX12_handset cX12_handset 5 (some .int)) { frames := 2, cells := 0, slots := 0, locals := 44 } [.ref (a 0), .int p0, .int p1, .int p2, .int p3] (hr_Y a z th nw) 0 0 (fun (q : Int32) (_ : Unit) => q = 0) (fun _ => hr_Y a z 1 nw) := by
  refine hr_Ki_of (by decide) (Nat.le_of_ble_eq_true rfl) ?_
  intro p e s m args below meth c ls A C0 hp hl
  obtain ⟨hx, hb, hr9, hml, hown, hts, hK, hlk, hA, hN, hnm9⟩ := id C0
  have hl : lv_has ls 5 [(0, .ref (a 0)), (1, .int p0), (2, .int p1), (3, .int p2), (4, .int p3)] := hl
  refine lv_aload_n hx hb dX12_handset_0 rfl (lv_at hl 0 rfl) ?_
  refine lv_iload_n hx hb dX12_handset_1 rfl (lv_at hl 1 rfl) ?_
  refine lv_iconst (v := 0) hx hb dX12_handset_2 (by decide) ?_
  refine lv_iconst (v := 1) hx hb dX12_handset_3 (by decide) ?_
  refine hr_cSi C0 hp (rest := [.ref (a 0)]) (n := 3) [] (hr_X12_isIn l D z (hr_Y a z th nw) (p0) (0) (1)) rfl (hr_gS hw_151 hw_104 hw_105 hw_106) ⟨rfl, rfl⟩ (by decide +kernel) ⟨Nat.le_of_ble_eq_true rfl, Nat.le_of_ble_eq_true rfl⟩ ⟨Nat.le_of_ble_eq_true rfl, Nat.le_of_ble_eq_true rfl⟩ hl.1 rfl rfl (Nat.le_of_ble_eq_true rfl) dX12_handset_4 (fun q_4 u_4 H locs hv_4 hp => ?_)
  subst hv_4
  have hp : hr_H D A s.heap (hr_Y a z th nw) H _ := hp
  rcases Classical.em (¬ (0 ≤ p0 ∧ p0 ≤ 1)) with hc0 | hc0
  · rw [hr_in_n hc0]
    refine lv_if_eq (tgt := 42) hx hb dX12_handset_7 (by decide) (fun _ => ?_) (fun c9 => absurd c9 (by decide))
    refine lv_iconst (v := 1) hx hb dX12_handset_42 (by decide) ?_
    refine lv_goto (tgt := 47) hx hb dX12_handset_43 (by decide) ?_
    refine lv_iconst (v := 1) hx hb dX12_handset_47 (by decide) ?_
    refine hr_cVi C0 hp (q0 := 0) (ci := 2) (Cn := RX12) (T := TX12) (N := 4) (rest := []) (n := 2) [] (hr_start_1 l D a z th nw) rfl rfl rfl (hr_gV hw_159 hw_160 hw_161 hw_105 hw_144) ⟨rfl, rfl⟩ (by decide +kernel) ⟨Nat.le_of_ble_eq_true rfl, Nat.le_of_ble_eq_true rfl⟩ ⟨Nat.le_of_ble_eq_true rfl, Nat.le_of_ble_eq_true rfl⟩ hl.1 rfl rfl (Nat.le_of_ble_eq_true rfl) dX12_handset_48 (fun q_48 u_48 H locs hv_48 hp => ?_)
    subst hv_48
    have hp : hr_H D A s.heap (hr_Y a z 1 nw) H _ := hp
    refine lv_if_ne (tgt := 82) hx hb dX12_handset_51 (by decide) (fun _ => ?_) (fun c9 => absurd c9 (by decide))
    refine lv_iconst (v := 0) hx hb dX12_handset_82 (by decide) ?_
    exact hr_iret () C0 hp rfl ⟨Nat.le_of_ble_eq_true rfl, Nat.le_of_ble_eq_true rfl⟩ dX12_handset_83 rfl
  replace hc0 := Classical.not_not.mp hc0
  rw [hr_in_y hc0.1 hc0.2]
  refine lv_if_eq (tgt := 42) hx hb dX12_handset_7 (by decide) (fun c9 => absurd c9 (by decide)) (fun _ => ?_)
  refine lv_iload_n hx hb dX12_handset_10 rfl (lv_at hl 2 rfl) ?_
  refine lv_iconst (v := 0) hx hb dX12_handset_11 (by decide) ?_
  refine lv_bipush (v := 99) hx hb dX12_handset_12 (by decide) ?_
  refine hr_cSi C0 hp (rest := [.ref (a 0)]) (n := 3) [] (hr_X12_isIn l D z (hr_Y a z th nw) (p1) (0) (99)) rfl (hr_gS hw_151 hw_104 hw_105 hw_106) ⟨rfl, rfl⟩ (by decide +kernel) ⟨Nat.le_of_ble_eq_true rfl, Nat.le_of_ble_eq_true rfl⟩ ⟨Nat.le_of_ble_eq_true rfl, Nat.le_of_ble_eq_true rfl⟩ hl.1 rfl rfl (Nat.le_of_ble_eq_true rfl) dX12_handset_14 (fun q_14 u_14 H locs hv_14 hp => ?_)
  subst hv_14
  have hp : hr_H D A s.heap (hr_Y a z th nw) H _ := hp
  rcases Classical.em (¬ (0 ≤ p1 ∧ p1 ≤ 99)) with hc1 | hc1
  · rw [hr_in_n hc1]
    refine lv_if_eq (tgt := 42) hx hb dX12_handset_17 (by decide) (fun _ => ?_) (fun c9 => absurd c9 (by decide))
    refine lv_iconst (v := 1) hx hb dX12_handset_42 (by decide) ?_
    refine lv_goto (tgt := 47) hx hb dX12_handset_43 (by decide) ?_
    refine lv_iconst (v := 1) hx hb dX12_handset_47 (by decide) ?_
    refine hr_cVi C0 hp (q0 := 0) (ci := 2) (Cn := RX12) (T := TX12) (N := 4) (rest := []) (n := 2) [] (hr_start_1 l D a z th nw) rfl rfl rfl (hr_gV hw_159 hw_160 hw_161 hw_105 hw_144) ⟨rfl, rfl⟩ (by decide +kernel) ⟨Nat.le_of_ble_eq_true rfl, Nat.le_of_ble_eq_true rfl⟩ ⟨Nat.le_of_ble_eq_true rfl, Nat.le_of_ble_eq_true rfl⟩ hl.1 rfl rfl (Nat.le_of_ble_eq_true rfl) dX12_handset_48 (fun q_48 u_48 H locs hv_48 hp => ?_)
    subst hv_48
    have hp : hr_H D A s.heap (hr_Y a z 1 nw) H _ := hp
    refine lv_if_ne (tgt := 82) hx hb dX12_handset_51 (by decide) (fun _ => ?_) (fun c9 => absurd c9 (by decide))
    refine lv_iconst (v := 0) hx hb dX12_handset_82 (by decide) ?_
    exact hr_iret () C0 hp rfl ⟨Nat.le_of_ble_eq_true rfl, Nat.le_of_ble_eq_true rfl⟩ dX12_handset_83 rfl
  replace hc1 := Classical.not_not.mp hc1
  rw [hr_in_y hc1.1 hc1.2]
  refine lv_if_eq (tgt := 42) hx hb dX12_handset_17 (by decide) (fun c9 => absurd c9 (by decide)) (fun _ => ?_)
  refine lv_iload_n hx hb dX12_handset_20 rfl (lv_at hl 3 rfl) ?_
  refine lv_bipush (v := (-3)) hx hb dX12_handset_21 (by decide) ?_
  refine lv_iconst (v := 3) hx hb dX12_handset_23 (by decide) ?_
  refine hr_cSi C0 hp (rest := [.ref (a 0)]) (n := 3) [] (hr_X12_isIn l D z (hr_Y a z th nw) (p2) ((-3)) (3)) rfl (hr_gS hw_151 hw_104 hw_105 hw_106) ⟨rfl, rfl⟩ (by decide +kernel) ⟨Nat.le_of_ble_eq_true rfl, Nat.le_of_ble_eq_true rfl⟩ ⟨Nat.le_of_ble_eq_true rfl, Nat.le_of_ble_eq_true rfl⟩ hl.1 rfl rfl (Nat.le_of_ble_eq_true rfl) dX12_handset_24 (fun q_24 u_24 H locs hv_24 hp => ?_)
  subst hv_24
  have hp : hr_H D A s.heap (hr_Y a z th nw) H _ := hp
  rcases Classical.em (¬ ((-3) ≤ p2 ∧ p2 ≤ 3)) with hc2 | hc2
  · rw [hr_in_n hc2]
    refine lv_if_eq (tgt := 42) hx hb dX12_handset_27 (by decide) (fun _ => ?_) (fun c9 => absurd c9 (by decide))
    refine lv_iconst (v := 1) hx hb dX12_handset_42 (by decide) ?_
    refine lv_goto (tgt := 47) hx hb dX12_handset_43 (by decide) ?_
    refine lv_iconst (v := 1) hx hb dX12_handset_47 (by decide) ?_
    refine hr_cVi C0 hp (q0 := 0) (ci := 2) (Cn := RX12) (T := TX12) (N := 4) (rest := []) (n := 2) [] (hr_start_1 l D a z th nw) rfl rfl rfl (hr_gV hw_159 hw_160 hw_161 hw_105 hw_144) ⟨rfl, rfl⟩ (by decide +kernel) ⟨Nat.le_of_ble_eq_true rfl, Nat.le_of_ble_eq_true rfl⟩ ⟨Nat.le_of_ble_eq_true rfl, Nat.le_of_ble_eq_true rfl⟩ hl.1 rfl rfl (Nat.le_of_ble_eq_true rfl) dX12_handset_48 (fun q_48 u_48 H locs hv_48 hp => ?_)
    subst hv_48
    have hp : hr_H D A s.heap (hr_Y a z 1 nw) H _ := hp
    refine lv_if_ne (tgt := 82) hx hb dX12_handset_51 (by decide) (fun _ => ?_) (fun c9 => absurd c9 (by decide))
    refine lv_iconst (v := 0) hx hb dX12_handset_82 (by decide) ?_
    exact hr_iret () C0 hp rfl ⟨Nat.le_of_ble_eq_true rfl, Nat.le_of_ble_eq_true rfl⟩ dX12_handset_83 rfl
  replace hc2 := Classical.not_not.mp hc2
  rw [hr_in_y hc2.1 hc2.2]
  refine lv_if_eq (tgt := 42) hx hb dX12_handset_27 (by decide) (fun c9 => absurd c9 (by decide)) (fun _ => ?_)
  refine lv_iload hx hb dX12_handset_30 (lv_at hl 4 rfl) ?_
  refine lv_iconst (v := 0) hx hb dX12_handset_32 (by decide) ?_
  refine lv_sipush (v := 999) hx hb dX12_handset_33 (by decide) ?_
  refine hr_cSi C0 hp (rest := [.ref (a 0)]) (n := 3) [] (hr_X12_isIn l D z (hr_Y a z th nw) (p3) (0) (999)) rfl (hr_gS hw_151 hw_104 hw_105 hw_106) ⟨rfl, rfl⟩ (by decide +kernel) ⟨Nat.le_of_ble_eq_true rfl, Nat.le_of_ble_eq_true rfl⟩ ⟨Nat.le_of_ble_eq_true rfl, Nat.le_of_ble_eq_true rfl⟩ hl.1 rfl rfl (Nat.le_of_ble_eq_true rfl) dX12_handset_36 (fun q_36 u_36 H locs hv_36 hp => ?_)
  subst hv_36
  have hp : hr_H D A s.heap (hr_Y a z th nw) H _ := hp
  rcases Classical.em (¬ (0 ≤ p3 ∧ p3 ≤ 999)) with hc3 | hc3
  · rw [hr_in_n hc3]
    refine lv_if_ne (tgt := 46) hx hb dX12_handset_39 (by decide) (fun c9 => absurd c9 (by decide)) (fun _ => ?_)
    refine lv_iconst (v := 1) hx hb dX12_handset_42 (by decide) ?_
    refine lv_goto (tgt := 47) hx hb dX12_handset_43 (by decide) ?_
    refine lv_iconst (v := 1) hx hb dX12_handset_47 (by decide) ?_
    refine hr_cVi C0 hp (q0 := 0) (ci := 2) (Cn := RX12) (T := TX12) (N := 4) (rest := []) (n := 2) [] (hr_start_1 l D a z th nw) rfl rfl rfl (hr_gV hw_159 hw_160 hw_161 hw_105 hw_144) ⟨rfl, rfl⟩ (by decide +kernel) ⟨Nat.le_of_ble_eq_true rfl, Nat.le_of_ble_eq_true rfl⟩ ⟨Nat.le_of_ble_eq_true rfl, Nat.le_of_ble_eq_true rfl⟩ hl.1 rfl rfl (Nat.le_of_ble_eq_true rfl) dX12_handset_48 (fun q_48 u_48 H locs hv_48 hp => ?_)
    subst hv_48
    have hp : hr_H D A s.heap (hr_Y a z 1 nw) H _ := hp
    refine lv_if_ne (tgt := 82) hx hb dX12_handset_51 (by decide) (fun _ => ?_) (fun c9 => absurd c9 (by decide))
    refine lv_iconst (v := 0) hx hb dX12_handset_82 (by decide) ?_
    exact hr_iret () C0 hp rfl ⟨Nat.le_of_ble_eq_true rfl, Nat.le_of_ble_eq_true rfl⟩ dX12_handset_83 rfl
  replace hc3 := Classical.not_not.mp hc3
  rw [hr_in_y hc3.1 hc3.2]
  exact absurd ⟨hc0, hc1, hc2, hc3⟩ hvd
set_option maxHeartbeats 4000000 in
set_option maxRecDepth 100000 in
/-- pass: a number is wrong -/
theorem hr_pass_n (l : Launch) (D : va_G) (a : Nat → Nat) (z : Nat) (th nw : Int32) (p0 : Int32) (hvd : ¬ hv_pass p0) : hr_Ki l D z yX12_pass (hr_wm yX12_pass cX12_pass 4 (some .int)) { frames := 2, cells := 0, slots := 0, locals := 44 } [.ref (a 0), .int p0] (hr_Y a z th nw) 0 0 (fun (q : Int32) (_ : Unit) => q = 0) (fun _ => hr_Y a z 1 nw) := by
  refine hr_Ki_of (by decide) (Nat.le_of_ble_eq_true rfl) ?_
  intro p e s m args below meth c ls A C0 hp hl
  obtain ⟨hx, hb, hr9, hml, hown, hts, hK, hlk, hA, hN, hnm9⟩ := id C0
  have hl : lv_has ls 4 [(0, .ref (a 0)), (1, .int p0)] := hl
  refine lv_aload_n hx hb dX12_pass_0 rfl (lv_at hl 0 rfl) ?_
  refine lv_iload_n hx hb dX12_pass_1 rfl (lv_at hl 1 rfl) ?_
  refine lv_iconst (v := 1) hx hb dX12_pass_2 (by decide) ?_
  refine lv_bipush (v := 99) hx hb dX12_pass_3 (by decide) ?_
  refine hr_cSi C0 hp (rest := [.ref (a 0)]) (n := 3) [] (hr_X12_isIn l D z (hr_Y a z th nw) (p0) (1) (99)) rfl (hr_gS hw_151 hw_104 hw_105 hw_106) ⟨rfl, rfl⟩ (by decide +kernel) ⟨Nat.le_of_ble_eq_true rfl, Nat.le_of_ble_eq_true rfl⟩ ⟨Nat.le_of_ble_eq_true rfl, Nat.le_of_ble_eq_true rfl⟩ hl.1 rfl rfl (Nat.le_of_ble_eq_true rfl) dX12_pass_5 (fun q_5 u_5 H locs hv_5 hp => ?_)
  subst hv_5
  have hp : hr_H D A s.heap (hr_Y a z th nw) H _ := hp
  rcases Classical.em (¬ (1 ≤ p0 ∧ p0 ≤ 99)) with hc0 | hc0
  · rw [hr_in_n hc0]
    refine lv_if_ne (tgt := 15) hx hb dX12_pass_8 (by decide) (fun c9 => absurd c9 (by decide)) (fun _ => ?_)
    refine lv_iconst (v := 1) hx hb dX12_pass_11 (by decide) ?_
    refine lv_goto (tgt := 16) hx hb dX12_pass_12 (by decide) ?_
    refine lv_iconst (v := 1) hx hb dX12_pass_16 (by decide) ?_
    refine hr_cVi C0 hp (q0 := 0) (ci := 2) (Cn := RX12) (T := TX12) (N := 4) (rest := []) (n := 2) [] (hr_start_1 l D a z th nw) rfl rfl rfl (hr_gV hw_159 hw_160 hw_161 hw_105 hw_144) ⟨rfl, rfl⟩ (by decide +kernel) ⟨Nat.le_of_ble_eq_true rfl, Nat.le_of_ble_eq_true rfl⟩ ⟨Nat.le_of_ble_eq_true rfl, Nat.le_of_ble_eq_true rfl⟩ hl.1 rfl rfl (Nat.le_of_ble_eq_true rfl) dX12_pass_17 (fun q_17 u_17 H locs hv_17 hp => ?_)
    subst hv_17
    have hp : hr_H D A s.heap (hr_Y a z 1 nw) H _ := hp
    refine lv_if_eq (tgt := 25) hx hb dX12_pass_20 (by decide) (fun c9 => absurd c9 (by decide)) (fun _ => ?_)
    refine lv_iconst (v := 0) hx hb dX12_pass_23 (by decide) ?_
    exact hr_iret () C0 hp rfl ⟨Nat.le_of_ble_eq_true rfl, Nat.le_of_ble_eq_true rfl⟩ dX12_pass_24 rfl
  replace hc0 := Classical.not_not.mp hc0
  rw [hr_in_y hc0.1 hc0.2]
  exact absurd hc0 hvd
set_option maxHeartbeats 4000000 in
set_option maxRecDepth 100000 in
/-- best: a number is wrong -/
theorem hr_best_n (l : Launch) (D : va_G) (a : Nat → Nat) (z : Nat) (th nw : Int32) (p0 : Int32) (hvd : ¬ hv_best p0) : hr_Ki l D z yX12_best (hr_wm yX12_best cX12_best 2 (some .int)) { frames := 2, cells := 0, slots := 0, locals := 44 } [.ref (a 0), .int p0] (hr_Y a z th nw) 0 0 (fun (q : Int32) (_ : Unit) => q = 0) (fun _ => hr_Y a z 1 nw) := by
  refine hr_Ki_of (by decide) (Nat.le_of_ble_eq_true rfl) ?_
  intro p e s m args below meth c ls A C0 hp hl
  obtain ⟨hx, hb, hr9, hml, hown, hts, hK, hlk, hA, hN, hnm9⟩ := id C0
  have hl : lv_has ls 2 [(0, .ref (a 0)), (1, .int p0)] := hl
  refine lv_aload_n hx hb dX12_best_0 rfl (lv_at hl 0 rfl) ?_
  refine lv_iload_n hx hb dX12_best_1 rfl (lv_at hl 1 rfl) ?_
  refine lv_iconst (v := 0) hx hb dX12_best_2 (by decide) ?_
  refine lv_bipush (v := 99) hx hb dX12_best_3 (by decide) ?_
  refine hr_cSi C0 hp (rest := [.ref (a 0)]) (n := 3) [] (hr_X12_isIn l D z (hr_Y a z th nw) (p0) (0) (99)) rfl (hr_gS hw_151 hw_104 hw_105 hw_106) ⟨rfl, rfl⟩ (by decide +kernel) ⟨Nat.le_of_ble_eq_true rfl, Nat.le_of_ble_eq_true rfl⟩ ⟨Nat.le_of_ble_eq_true rfl, Nat.le_of_ble_eq_true rfl⟩ hl.1 rfl rfl (Nat.le_of_ble_eq_true rfl) dX12_best_5 (fun q_5 u_5 H locs hv_5 hp => ?_)
  subst hv_5
  have hp : hr_H D A s.heap (hr_Y a z th nw) H _ := hp
  rcases Classical.em (¬ (0 ≤ p0 ∧ p0 ≤ 99)) with hc0 | hc0
  · rw [hr_in_n hc0]
    refine lv_if_ne (tgt := 15) hx hb dX12_best_8 (by decide) (fun c9 => absurd c9 (by decide)) (fun _ => ?_)
    refine lv_iconst (v := 1) hx hb dX12_best_11 (by decide) ?_
    refine lv_goto (tgt := 16) hx hb dX12_best_12 (by decide) ?_
    refine lv_iconst (v := 1) hx hb dX12_best_16 (by decide) ?_
    refine hr_cVi C0 hp (q0 := 0) (ci := 2) (Cn := RX12) (T := TX12) (N := 4) (rest := []) (n := 2) [] (hr_start_1 l D a z th nw) rfl rfl rfl (hr_gV hw_159 hw_160 hw_161 hw_105 hw_144) ⟨rfl, rfl⟩ (by decide +kernel) ⟨Nat.le_of_ble_eq_true rfl, Nat.le_of_ble_eq_true rfl⟩ ⟨Nat.le_of_ble_eq_true rfl, Nat.le_of_ble_eq_true rfl⟩ hl.1 rfl rfl (Nat.le_of_ble_eq_true rfl) dX12_best_17 (fun q_17 u_17 H locs hv_17 hp => ?_)
    subst hv_17
    have hp : hr_H D A s.heap (hr_Y a z 1 nw) H _ := hp
    refine lv_if_eq (tgt := 27) hx hb dX12_best_20 (by decide) (fun c9 => absurd c9 (by decide)) (fun _ => ?_)
    refine lv_iconst (v := 0) hx hb dX12_best_23 (by decide) ?_
    refine lv_goto (tgt := 35) hx hb dX12_best_24 (by decide) ?_
    exact hr_iret () C0 hp rfl ⟨Nat.le_of_ble_eq_true rfl, Nat.le_of_ble_eq_true rfl⟩ dX12_best_35 rfl
  replace hc0 := Classical.not_not.mp hc0
  rw [hr_in_y hc0.1 hc0.2]
  exact absurd hc0 hvd
set_option maxHeartbeats 4000000 in
set_option maxRecDepth 100000 in
/-- many: a number is wrong -/
theorem hr_many_n (l : Launch) (D : va_G) (a : Nat → Nat) (z : Nat) (th nw : Int32) (p0 : Int32) (hvd : ¬ hv_many p0) : hr_Ki l D z yX12_many (hr_wm yX12_many cX12_many 2 (some .int)) { frames := 2, cells := 0, slots := 0, locals := 44 } [.ref (a 0), .int p0] (hr_Y a z th nw) 0 0 (fun (q : Int32) (_ : Unit) => q = 0) (fun _ => hr_Y a z 1 nw) := by
  refine hr_Ki_of (by decide) (Nat.le_of_ble_eq_true rfl) ?_
  intro p e s m args below meth c ls A C0 hp hl
  obtain ⟨hx, hb, hr9, hml, hown, hts, hK, hlk, hA, hN, hnm9⟩ := id C0
  have hl : lv_has ls 2 [(0, .ref (a 0)), (1, .int p0)] := hl
  refine lv_aload_n hx hb dX12_many_0 rfl (lv_at hl 0 rfl) ?_
  refine lv_iload_n hx hb dX12_many_1 rfl (lv_at hl 1 rfl) ?_
  refine lv_iconst (v := 0) hx hb dX12_many_2 (by decide) ?_
  refine lv_bipush (v := 14) hx hb dX12_many_3 (by decide) ?_
  refine hr_cSi C0 hp (rest := [.ref (a 0)]) (n := 3) [] (hr_X12_isIn l D z (hr_Y a z th nw) (p0) (0) (14)) rfl (hr_gS hw_151 hw_104 hw_105 hw_106) ⟨rfl, rfl⟩ (by decide +kernel) ⟨Nat.le_of_ble_eq_true rfl, Nat.le_of_ble_eq_true rfl⟩ ⟨Nat.le_of_ble_eq_true rfl, Nat.le_of_ble_eq_true rfl⟩ hl.1 rfl rfl (Nat.le_of_ble_eq_true rfl) dX12_many_5 (fun q_5 u_5 H locs hv_5 hp => ?_)
  subst hv_5
  have hp : hr_H D A s.heap (hr_Y a z th nw) H _ := hp
  rcases Classical.em (¬ (0 ≤ p0 ∧ p0 ≤ 14)) with hc0 | hc0
  · rw [hr_in_n hc0]
    refine lv_if_ne (tgt := 15) hx hb dX12_many_8 (by decide) (fun c9 => absurd c9 (by decide)) (fun _ => ?_)
    refine lv_iconst (v := 1) hx hb dX12_many_11 (by decide) ?_
    refine lv_goto (tgt := 16) hx hb dX12_many_12 (by decide) ?_
    refine lv_iconst (v := 1) hx hb dX12_many_16 (by decide) ?_
    refine hr_cVi C0 hp (q0 := 0) (ci := 2) (Cn := RX12) (T := TX12) (N := 4) (rest := []) (n := 2) [] (hr_start_1 l D a z th nw) rfl rfl rfl (hr_gV hw_159 hw_160 hw_161 hw_105 hw_144) ⟨rfl, rfl⟩ (by decide +kernel) ⟨Nat.le_of_ble_eq_true rfl, Nat.le_of_ble_eq_true rfl⟩ ⟨Nat.le_of_ble_eq_true rfl, Nat.le_of_ble_eq_true rfl⟩ hl.1 rfl rfl (Nat.le_of_ble_eq_true rfl) dX12_many_17 (fun q_17 u_17 H locs hv_17 hp => ?_)
    subst hv_17
    have hp : hr_H D A s.heap (hr_Y a z 1 nw) H _ := hp
    refine lv_if_eq (tgt := 27) hx hb dX12_many_20 (by decide) (fun c9 => absurd c9 (by decide)) (fun _ => ?_)
    refine lv_iconst (v := 0) hx hb dX12_many_23 (by decide) ?_
    refine lv_goto (tgt := 32) hx hb dX12_many_24 (by decide) ?_
    exact hr_iret () C0 hp rfl ⟨Nat.le_of_ble_eq_true rfl, Nat.le_of_ble_eq_true rfl⟩ dX12_many_32 rfl
  replace hc0 := Classical.not_not.mp hc0
  rw [hr_in_y hc0.1 hc0.2]
  exact absurd hc0 hvd
set_option maxHeartbeats 4000000 in
set_option maxRecDepth 100000 in
/-- best of none -/
theorem hr_best_y (l : Launch) (D : va_G) (a : Nat → Nat) (z : Nat) (th nw : Int32) (p0 : Int32) (hvd : hv_best p0) : hr_Ki l D z yX12_best (hr_wm yX12_best cX12_best 2 (some .int)) { frames := 3, cells := 0, slots := 0, locals := 67 } [.ref (a 0), .int p0] (hr_Y a z th nw) 0 0 (fun (q : Int32) (_ : Unit) => q = (-1)) (fun _ => hr_Y a z 0 nw) := by
  refine hr_Ki_of (by decide) (Nat.le_of_ble_eq_true rfl) ?_
  intro p e s m args below meth c ls A C0 hp hl
  obtain ⟨hx, hb, hr9, hml, hown, hts, hK, hlk, hA, hN, hnm9⟩ := id C0
  have hl : lv_has ls 2 [(0, .ref (a 0)), (1, .int p0)] := hl
  refine lv_aload_n hx hb dX12_best_0 rfl (lv_at hl 0 rfl) ?_
  refine lv_iload_n hx hb dX12_best_1 rfl (lv_at hl 1 rfl) ?_
  refine lv_iconst (v := 0) hx hb dX12_best_2 (by decide) ?_
  refine lv_bipush (v := 99) hx hb dX12_best_3 (by decide) ?_
  refine hr_cSi C0 hp (rest := [.ref (a 0)]) (n := 3) [] (hr_X12_isIn l D z (hr_Y a z th nw) (p0) (0) (99)) rfl (hr_gS hw_151 hw_104 hw_105 hw_106) ⟨rfl, rfl⟩ (by decide +kernel) ⟨Nat.le_of_ble_eq_true rfl, Nat.le_of_ble_eq_true rfl⟩ ⟨Nat.le_of_ble_eq_true rfl, Nat.le_of_ble_eq_true rfl⟩ hl.1 rfl rfl (Nat.le_of_ble_eq_true rfl) dX12_best_5 (fun q_5 u_5 H locs hv_5 hp => ?_)
  subst hv_5
  have hp : hr_H D A s.heap (hr_Y a z th nw) H _ := hp
  rw [hr_in_y hvd.1 hvd.2]
  refine lv_if_ne (tgt := 15) hx hb dX12_best_8 (by decide) (fun _ => ?_) (fun c9 => absurd c9 (by decide))
  refine lv_iconst (v := 0) hx hb dX12_best_15 (by decide) ?_
  refine lv_iconst (v := 1) hx hb dX12_best_16 (by decide) ?_
  refine hr_cVi C0 hp (q0 := 0) (ci := 2) (Cn := RX12) (T := TX12) (N := 4) (rest := []) (n := 2) [] (hr_start_0 l D a z th nw) rfl rfl rfl (hr_gV hw_159 hw_160 hw_161 hw_105 hw_144) ⟨rfl, rfl⟩ (by decide +kernel) ⟨Nat.le_of_ble_eq_true rfl, Nat.le_of_ble_eq_true rfl⟩ ⟨Nat.le_of_ble_eq_true rfl, Nat.le_of_ble_eq_true rfl⟩ hl.1 rfl rfl (Nat.le_of_ble_eq_true rfl) dX12_best_17 (fun q_17 u_17 H locs hv_17 hp => ?_)
  subst hv_17
  have hp : hr_H D A s.heap (hr_Y a z 0 nw) H _ := hp
  refine lv_if_eq (tgt := 27) hx hb dX12_best_20 (by decide) (fun _ => ?_) (fun c9 => absurd c9 (by decide))
  refine lv_aload_n hx hb dX12_best_27 rfl (lv_at hl 0 rfl) ?_
  refine hr_get C0 hp (q0 := 0) (C := RX12) (T := TX12) (N := 4) (ci := 2) rfl rfl hr_uX12 1 (by decide) hw_139 (fun _ h9 => h9) rfl dX12_best_28 ?_
  refine lv_iload_n hx hb dX12_best_31 rfl (lv_at hl 1 rfl) ?_
  refine hr_cVi C0 hp (q0 := 1) (ci := 1) (Cn := RX11) (T := TX11) (N := 5) (rest := []) (n := 1) [] (hr_X11_bestHeard l D a z 0 nw p0) rfl rfl rfl (hr_gV hw_253 hw_114 hw_115 hw_58 hw_91) ⟨rfl, rfl⟩ (by decide +kernel) ⟨Nat.le_of_ble_eq_true rfl, Nat.le_of_ble_eq_true rfl⟩ ⟨Nat.le_of_ble_eq_true rfl, Nat.le_of_ble_eq_true rfl⟩ hl.1 rfl rfl (Nat.le_of_ble_eq_true rfl) dX12_best_32 (fun q_32 u_32 H locs hv_32 hp => ?_)
  subst hv_32
  have hp : hr_H D A s.heap (hr_Y a z 0 nw) H _ := hp
  exact hr_iret () C0 hp rfl ⟨Nat.le_of_ble_eq_true rfl, Nat.le_of_ble_eq_true rfl⟩ dX12_best_35 rfl
set_option maxHeartbeats 4000000 in
set_option maxRecDepth 100000 in
/-- covered: none -/
theorem hr_X11_covered (l : Launch) (D : va_G) (a : Nat → Nat) (z : Nat) (th nw : Int32) : hr_Ki l D z yX11_covered (hr_wm yX11_covered cX11_covered 4 (some .int)) { frames := 2, cells := 0, slots := 0, locals := 45 } [.ref (a 1)] (hr_Y a z th nw) 0 0 (fun (q : Int32) (_ : Unit) => q = 0) (fun _ => hr_Y a z th nw) := by
  refine hr_Ki_of (by decide) (Nat.le_of_ble_eq_true rfl) ?_
  intro p e s m args below meth c ls A C0 hp hl
  obtain ⟨hx, hb, hr9, hml, hown, hts, hK, hlk, hA, hN, hnm9⟩ := id C0
  have hl : lv_has ls 4 [(0, .ref (a 1))] := hl
  have hL : ∀ (n i : Nat) (H : Heap) (locs : List Loc) (ls : Array Slot), i ≤ 100 → 100 - i < n → hr_H D A s.heap (hr_Y a z th nw) H locs → lv_has ls 4 [(2, .int (nI i)), (0, .ref (a 1)), (1, .int 0)] → W p l e ({ frames := 2, cells := 0, slots := 0, locals := 45 } : Room) s m args below meth c H locs 0 0 (MQ below (va_Qi (fun (q : Int32) (_ : Unit) => q = 0) (fun u t => hr_B D A ((fun _ => hr_Y a z th nw) u) t) A) args s 0 0 A) (F0 m 4 ls []) := by
    intro n
    induction n with
    | zero => intro i H locs ls h1 h2; omega
    | succ n ih =>
    intro i H locs ls hi hn hp hl
    refine lv_iload_n hx hb dX11_covered_4 rfl (lv_at hl 0 rfl) ?_
    refine lv_bipush (v := 100) hx hb dX11_covered_5 (by decide) ?_
    refine lv_icmp_ge (tgt := 50) hx hb dX11_covered_7 (by decide) (fun c9 => ?_) (fun c9 => ?_)
    · refine lv_iload_n hx hb dX11_covered_50 rfl (lv_at hl 2 rfl) ?_
      exact hr_iret () C0 hp rfl ⟨Nat.le_of_ble_eq_true rfl, Nat.le_of_ble_eq_true rfl⟩ dX11_covered_51 rfl
    · have hlt : i < 100 := Nat.not_le.mp (fun q => c9 ((nI_leI (a := 100) (b := i) (by decide) (by omega)).mpr q))
      refine lv_aload_n hx hb dX11_covered_10 rfl (lv_at hl 1 rfl) ?_
      refine lv_iload_n hx hb dX11_covered_11 rfl (lv_at hl 0 rfl) ?_
      refine lv_iconst (v := (-1)) hx hb dX11_covered_12 (by decide) ?_
      refine lv_iconst (v := 0) hx hb dX11_covered_13 (by decide) ?_
      refine hr_cVi C0 hp (q0 := 1) (ci := 1) (Cn := RX11) (T := TX11) (N := 5) (rest := []) (n := 3) [] (hr_X11_best l D a z th nw (nI i) (-1) 0) rfl rfl rfl (hr_gV hw_92 hw_93 hw_94 hw_58 hw_46) ⟨rfl, rfl⟩ (by decide +kernel) ⟨Nat.le_of_ble_eq_true rfl, Nat.le_of_ble_eq_true rfl⟩ ⟨Nat.le_of_ble_eq_true rfl, Nat.le_of_ble_eq_true rfl⟩ hl.1 rfl rfl (Nat.le_of_ble_eq_true rfl) dX11_covered_14 (fun q_14 u_14 H locs hv_14 hp => ?_)
      subst hv_14
      have hp : hr_H D A s.heap (hr_Y a z th nw) H _ := hp
      refine lv_istore_n (lv' := [(3, .int (-1)), (2, .int (nI i)), (0, .ref (a 1)), (1, .int 0)]) hx hb dX11_covered_17 rfl hl (by decide) rfl (fun ls hl => ?_)
      refine lv_iload_n hx hb dX11_covered_18 rfl (lv_at hl 3 rfl) ?_
      refine lv_iload_n hx hb dX11_covered_19 rfl (lv_at hl 0 rfl) ?_
      refine lv_iconst (v := (-1)) hx hb dX11_covered_20 (by decide) ?_
      refine lv_icmp_eq (tgt := 38) hx hb dX11_covered_21 (by decide) (fun _ => ?_) (fun c9 => absurd c9 (by decide))
      refine lv_iconst (v := 0) hx hb dX11_covered_38 (by decide) ?_
      refine hr_cNi C0 hp (rest := [.int 0]) (n := 1) [] (hr_X12_one l D z (hr_Y a z th nw) 0) rfl hw_123 hw_105 hw_122 hN.1.2.1 ⟨rfl, rfl⟩ (by decide +kernel) ⟨Nat.le_of_ble_eq_true rfl, Nat.le_of_ble_eq_true rfl⟩ ⟨Nat.le_of_ble_eq_true rfl, Nat.le_of_ble_eq_true rfl⟩ hl.1 rfl rfl (Nat.le_of_ble_eq_true rfl) dX11_covered_39 (fun q_39 u_39 H locs hv_39 hp => ?_)
      subst hv_39
      have hp : hr_H D A s.heap (hr_Y a z th nw) H _ := hp
      rw [show hr_one 0 = 0 from rfl]
      refine lv_iadd hx hb dX11_covered_42 ?_
      rw [show (0 : Int32) + 0 = 0 from by decide]
      refine lv_istore_n (lv' := [(1, .int 0), (3, .int (-1)), (2, .int (nI i)), (0, .ref (a 1))]) hx hb dX11_covered_43 rfl hl (by decide) rfl (fun ls hl => ?_)
      refine lv_iinc (v := (nI (i + 1))) (lv' := [(2, .int (nI (i + 1))), (1, .int 0), (3, .int (-1)), (0, .ref (a 1))]) hx hb dX11_covered_44 hl (k := 2) rfl (nI_1 i) (by decide) rfl (fun ls hl => ?_)
      refine lv_goto (tgt := 4) hx hb dX11_covered_47 (by decide) ?_
      exact ih (i + 1) _ _ _ (by omega) (by omega) hp (lv_sub hl [0, 3, 1] rfl)
  refine lv_iconst (v := 0) hx hb dX11_covered_0 (by decide) ?_
  refine lv_istore_n (lv' := [(1, .int 0), (0, .ref (a 1))]) hx hb dX11_covered_1 rfl hl (by decide) rfl (fun ls hl => ?_)
  refine lv_iconst (v := 0) hx hb dX11_covered_2 (by decide) ?_
  refine lv_istore_n (lv' := [(2, .int 0), (1, .int 0), (0, .ref (a 1))]) hx hb dX11_covered_3 rfl hl (by decide) rfl (fun ls hl => ?_)
  exact hL 101 0 _ _ _ (by decide) (by decide) hp (lv_sub hl [0, 2, 1] rfl)
set_option maxHeartbeats 4000000 in
set_option maxRecDepth 100000 in
/-- count: none -/
theorem hr_X12_count (l : Launch) (D : va_G) (a : Nat → Nat) (z : Nat) (th : Int32) (p0 : Int32) (hin : vp_in p0 15) : hr_Ki l D z yX12_count (hr_wm yX12_count cX12_count 11 (some .int)) { frames := 3, cells := 3, slots := 23, locals := 68 } [.ref (a 0), .int p0] (hr_Y a z th 0) 3 23 (fun (q : Int32) (_ : Unit) => q = 0) (fun _ => hr_Y a z th 0) := by
  refine hr_Ki_of (by decide) (Nat.le_of_ble_eq_true rfl) ?_
  intro p e s m args below meth c ls A C0 hp hl
  obtain ⟨hx, hb, hr9, hml, hown, hts, hK, hlk, hA, hN, hnm9⟩ := id C0
  have hl : lv_has ls 11 [(0, .ref (a 0)), (1, .int p0)] := hl
  refine lv_iconst (v := 0) hx hb dX12_count_0 (by decide) ?_
  refine lv_istore_n (lv' := [(2, .int 0), (0, .ref (a 0)), (1, .int p0)]) hx hb dX12_count_1 rfl hl (by decide) rfl (fun ls hl => ?_)
  refine lv_iconst (v := 0) hx hb dX12_count_2 (by decide) ?_
  refine lv_istore_n (lv' := [(3, .int 0), (2, .int 0), (0, .ref (a 0)), (1, .int p0)]) hx hb dX12_count_3 rfl hl (by decide) rfl (fun ls hl => ?_)
  refine lv_iconst (v := 0) hx hb dX12_count_4 (by decide) ?_
  refine lv_istore (lv' := [(4, .int 0), (3, .int 0), (2, .int 0), (0, .ref (a 0)), (1, .int p0)]) hx hb dX12_count_5 hl (by decide) rfl (fun ls hl => ?_)
  refine lv_iconst (v := 0) hx hb dX12_count_7 (by decide) ?_
  refine lv_istore (lv' := [(5, .int 0), (4, .int 0), (3, .int 0), (2, .int 0), (0, .ref (a 0)), (1, .int p0)]) hx hb dX12_count_8 hl (by decide) rfl (fun ls hl => ?_)
  refine lv_iconst (v := 0) hx hb dX12_count_10 (by decide) ?_
  refine lv_istore (lv' := [(6, .int 0), (5, .int 0), (4, .int 0), (3, .int 0), (2, .int 0), (0, .ref (a 0)), (1, .int p0)]) hx hb dX12_count_11 hl (by decide) rfl (fun ls hl => ?_)
  refine lv_aload_n hx hb dX12_count_13 rfl (lv_at hl 5 rfl) ?_
  refine hr_get C0 hp (q0 := 0) (C := RX12) (T := TX12) (N := 4) (ci := 2) rfl rfl hr_uX12 1 (by decide) hw_139 (fun _ h9 => h9) rfl dX12_count_14 ?_
  refine hr_get C0 hp (q0 := 1) (C := RX11) (T := TX11) (N := 5) (ci := 1) rfl rfl hr_uX11 2 (by decide) hw_155 (fun _ h9 => h9) rfl dX12_count_17 ?_
  refine hr_cVr C0 hp (q0 := 4) (ci := 0) (Cn := RJx4a65c) (T := TJx4a65c) (N := 3) (rest := []) (n := 0) [] (hr_iter_4 l D a z th 0) rfl rfl rfl (hr_gV hw_216 hw_65 hw_66 hw_26 hw_67) ⟨rfl, rfl⟩ (by decide +kernel) ⟨Nat.le_of_ble_eq_true rfl, Nat.le_of_ble_eq_true rfl⟩ ⟨Nat.le_of_ble_eq_true rfl, Nat.le_of_ble_eq_true rfl⟩ hl.1 rfl rfl (Nat.le_of_ble_eq_true rfl) dX12_count_20 (fun u_20 q_20 H locs hv_20 hk_20 hp => ?_)
  have hp : hr_H D A s.heap (hr_Y a z th 0 ++ [(q_20, .inr (5, [.int 0, .int (-1), .int 0, .ref (a 4)]))]) H _ := hp
  refine W.widen (k := 1) (n := 4) (by decide) (by decide) ?_
  refine lv_astore (lv' := [(7, .ref q_20), (6, .int 0), (5, .int 0), (4, .int 0), (3, .int 0), (2, .int 0), (0, .ref (a 0)), (1, .int p0)]) hx hb dX12_count_23 hl (by decide) rfl (fun ls hl => ?_)
  refine lv_aload hx hb dX12_count_25 (lv_at hl 0 rfl) ?_
  refine hr_cFi C0 hp (q0 := 6) (ci := 5) (Cn := RJx35411) (T := TJx35411) (N := 4) (rest := []) (n := 0) [] (hr_has_4 l D a z th 0 q_20) rfl rfl rfl (hr_gF hw_217 hw_81 hw_82 hw_70 hw_83) hN.1.2.2.2.1 ⟨rfl, rfl⟩ (by decide +kernel) ⟨Nat.le_of_ble_eq_true rfl, Nat.le_of_ble_eq_true rfl⟩ ⟨Nat.le_of_ble_eq_true rfl, Nat.le_of_ble_eq_true rfl⟩ hl.1 rfl rfl (Nat.le_of_ble_eq_true rfl) dX12_count_27 (fun q_27 u_27 H locs hv_27 hp => ?_)
  subst hv_27
  have hp : hr_H D A s.heap (hr_Y a z th 0 ++ [(q_20, .inr (5, [.int 0, .int (-1), .int 0, .ref (a 4)]))]) H _ := hp
  refine lv_if_eq (tgt := 119) hx hb dX12_count_32 (by decide) (fun _ => ?_) (fun c9 => absurd c9 (by decide))
  have hp := hr_drop (Y := (hr_Y a z th 0)) (X := [(q_20, .inr (5, [.int 0, .int (-1), .int 0, .ref (a 4)]))]) hp
  refine lv_iconst (v := 0) hx hb dX12_count_119 (by decide) ?_
  refine lv_istore (lv' := [(7, .int 0), (6, .int 0), (5, .int 0), (4, .int 0), (3, .int 0), (2, .int 0), (0, .ref (a 0)), (1, .int p0)]) hx hb dX12_count_120 hl (by decide) rfl (fun ls hl => ?_)
  refine lv_iconst (v := 0) hx hb dX12_count_122 (by decide) ?_
  refine lv_istore (lv' := [(8, .int 0), (7, .int 0), (6, .int 0), (5, .int 0), (4, .int 0), (3, .int 0), (2, .int 0), (0, .ref (a 0)), (1, .int p0)]) hx hb dX12_count_123 hl (by decide) rfl (fun ls hl => ?_)
  refine lv_aload_n hx hb dX12_count_125 rfl (lv_at hl 7 rfl) ?_
  refine hr_get C0 hp (q0 := 0) (C := RX12) (T := TX12) (N := 4) (ci := 2) rfl rfl hr_uX12 1 (by decide) hw_139 (fun _ h9 => h9) rfl dX12_count_126 ?_
  refine hr_get C0 hp (q0 := 1) (C := RX11) (T := TX11) (N := 5) (ci := 1) rfl rfl hr_uX11 1 (by decide) hw_153 (fun _ h9 => h9) rfl dX12_count_129 ?_
  refine hr_cVr C0 hp (q0 := 3) (ci := 0) (Cn := RJx4a65c) (T := TJx4a65c) (N := 3) (rest := []) (n := 0) [] (hr_iter_3 l D a z th 0) rfl rfl rfl (hr_gV hw_216 hw_65 hw_66 hw_26 hw_67) ⟨rfl, rfl⟩ (by decide +kernel) ⟨Nat.le_of_ble_eq_true rfl, Nat.le_of_ble_eq_true rfl⟩ ⟨Nat.le_of_ble_eq_true rfl, Nat.le_of_ble_eq_true rfl⟩ hl.1 rfl rfl (Nat.le_of_ble_eq_true rfl) dX12_count_132 (fun u_132 q_132 H locs hv_132 hk_132 hp => ?_)
  have hp : hr_H D A s.heap (hr_Y a z th 0 ++ [(q_132, .inr (5, [.int 0, .int (-1), .int 0, .ref (a 3)]))]) H _ := hp
  refine W.widen (k := 2) (n := 8) (by decide) (by decide) ?_
  refine lv_astore (lv' := [(9, .ref q_132), (8, .int 0), (7, .int 0), (6, .int 0), (5, .int 0), (4, .int 0), (3, .int 0), (2, .int 0), (0, .ref (a 0)), (1, .int p0)]) hx hb dX12_count_135 hl (by decide) rfl (fun ls hl => ?_)
  refine lv_aload hx hb dX12_count_137 (lv_at hl 0 rfl) ?_
  refine hr_cFi C0 hp (q0 := 6) (ci := 5) (Cn := RJx35411) (T := TJx35411) (N := 4) (rest := []) (n := 0) [] (hr_has_3 l D a z th 0 q_132) rfl rfl rfl (hr_gF hw_217 hw_81 hw_82 hw_70 hw_83) hN.1.2.2.2.1 ⟨rfl, rfl⟩ (by decide +kernel) ⟨Nat.le_of_ble_eq_true rfl, Nat.le_of_ble_eq_true rfl⟩ ⟨Nat.le_of_ble_eq_true rfl, Nat.le_of_ble_eq_true rfl⟩ hl.1 rfl rfl (Nat.le_of_ble_eq_true rfl) dX12_count_139 (fun q_139 u_139 H locs hv_139 hp => ?_)
  subst hv_139
  have hp : hr_H D A s.heap (hr_Y a z th 0 ++ [(q_132, .inr (5, [.int 0, .int (-1), .int 0, .ref (a 3)]))]) H _ := hp
  refine lv_if_eq (tgt := 197) hx hb dX12_count_144 (by decide) (fun _ => ?_) (fun c9 => absurd c9 (by decide))
  have hp := hr_drop (Y := (hr_Y a z th 0)) (X := [(q_132, .inr (5, [.int 0, .int (-1), .int 0, .ref (a 3)]))]) hp
  refine lv_bipush (v := 15) hx hb dX12_count_197 (by decide) ?_
  refine hr_newI C0 hp hw_226 (n := 15) (by decide) (by decide) (by decide) (Nat.le_of_ble_eq_true rfl) (Nat.le_of_ble_eq_true rfl) dX12_count_199 (fun q_199 cA_199 H hK_199 hp => ?_)
  have hp : hr_H D A s.heap (hr_Y a z th 0 ++ [(q_199, .inl (cA_199, 15, .inl (fun _ => 0)))]) H _ := hp
  refine W.widen (k := 3) (n := 23) (by decide) (by decide) ?_
  refine lv_dup hx hb dX12_count_201 rfl ?_
  refine lv_iconst (v := 0) hx hb dX12_count_202 (by decide) ?_
  refine lv_aload_n hx hb dX12_count_203 rfl (lv_at hl 8 rfl) ?_
  refine hr_get C0 hp (q0 := 0) (C := RX12) (T := TX12) (N := 4) (ci := 2) rfl rfl hr_uX12 1 (by decide) hw_139 (fun _ h9 => h9) rfl dX12_count_204 ?_
  refine hr_get C0 hp (q0 := 1) (C := RX11) (T := TX11) (N := 5) (ci := 1) rfl rfl hr_uX11 4 (by decide) hw_273 (fun _ h9 => h9) rfl dX12_count_207 ?_
  refine hr_iast C0 hK_199 hp (q0 := 6) (n := 15) (f := (fun _ => 0)) (k' := 0) (Y' := (hr_Y a z th 0 ++ [(q_199, .inl (cA_199, 15, .inl (fun _ => 0)))])) rfl (by unfold vp_in; decide) (by decide) (by rw [hr_u0]; rfl) dX12_count_210 (fun H locs hp => ?_)
  refine lv_dup hx hb dX12_count_211 rfl ?_
  refine lv_iconst (v := 1) hx hb dX12_count_212 (by decide) ?_
  refine lv_aload_n hx hb dX12_count_213 rfl (lv_at hl 8 rfl) ?_
  refine hr_get C0 hp (q0 := 0) (C := RX12) (T := TX12) (N := 4) (ci := 2) rfl rfl hr_uX12 1 (by decide) hw_139 (fun _ h9 => h9) rfl dX12_count_214 ?_
  refine hr_get C0 hp (q0 := 1) (C := RX11) (T := TX11) (N := 5) (ci := 1) rfl rfl hr_uX11 0 (by decide) hw_149 (fun _ h9 => h9) rfl dX12_count_217 ?_
  refine hr_cVi C0 hp (q0 := 2) (ci := 0) (Cn := RJx4a65c) (T := TJx4a65c) (N := 3) (rest := [.int 1, .ref q_199, .ref q_199]) (n := 0) [(q_199, .inl (cA_199, 15, .inl (fun _ => 0)))] (hr_size_2 l D a z th 0) rfl rfl rfl (hr_gV hw_150 hw_52 hw_53 hw_26 hw_54) ⟨rfl, rfl⟩ (by decide +kernel) ⟨Nat.le_of_ble_eq_true rfl, Nat.le_of_ble_eq_true rfl⟩ ⟨Nat.le_of_ble_eq_true rfl, Nat.le_of_ble_eq_true rfl⟩ hl.1 rfl rfl (Nat.le_of_ble_eq_true rfl) dX12_count_220 (fun q_220 u_220 H locs hv_220 hp => ?_)
  subst hv_220
  have hp : hr_H D A s.heap (hr_Y a z th 0 ++ [(q_199, .inl (cA_199, 15, .inl (fun _ => 0)))]) H _ := hp
  refine hr_iast C0 hK_199 hp (q0 := 6) (n := 15) (f := (fun _ => 0)) (k' := 1) (Y' := (hr_Y a z th 0 ++ [(q_199, .inl (cA_199, 15, .inl (fun _ => 0)))])) rfl (by unfold vp_in; decide) (by decide) (by rw [hr_u0]; rfl) dX12_count_223 (fun H locs hp => ?_)
  refine lv_dup hx hb dX12_count_224 rfl ?_
  refine lv_iconst (v := 2) hx hb dX12_count_225 (by decide) ?_
  refine lv_aload_n hx hb dX12_count_226 rfl (lv_at hl 8 rfl) ?_
  refine hr_get C0 hp (q0 := 0) (C := RX12) (T := TX12) (N := 4) (ci := 2) rfl rfl hr_uX12 1 (by decide) hw_139 (fun _ h9 => h9) rfl dX12_count_227 ?_
  refine hr_get C0 hp (q0 := 1) (C := RX11) (T := TX11) (N := 5) (ci := 1) rfl rfl hr_uX11 1 (by decide) hw_153 (fun _ h9 => h9) rfl dX12_count_230 ?_
  refine hr_cVi C0 hp (q0 := 3) (ci := 0) (Cn := RJx4a65c) (T := TJx4a65c) (N := 3) (rest := [.int 2, .ref q_199, .ref q_199]) (n := 0) [(q_199, .inl (cA_199, 15, .inl (fun _ => 0)))] (hr_size_3 l D a z th 0) rfl rfl rfl (hr_gV hw_150 hw_52 hw_53 hw_26 hw_54) ⟨rfl, rfl⟩ (by decide +kernel) ⟨Nat.le_of_ble_eq_true rfl, Nat.le_of_ble_eq_true rfl⟩ ⟨Nat.le_of_ble_eq_true rfl, Nat.le_of_ble_eq_true rfl⟩ hl.1 rfl rfl (Nat.le_of_ble_eq_true rfl) dX12_count_233 (fun q_233 u_233 H locs hv_233 hp => ?_)
  subst hv_233
  have hp : hr_H D A s.heap (hr_Y a z th 0 ++ [(q_199, .inl (cA_199, 15, .inl (fun _ => 0)))]) H _ := hp
  refine hr_iast C0 hK_199 hp (q0 := 6) (n := 15) (f := (fun _ => 0)) (k' := 2) (Y' := (hr_Y a z th 0 ++ [(q_199, .inl (cA_199, 15, .inl (fun _ => 0)))])) rfl (by unfold vp_in; decide) (by decide) (by rw [hr_u0]; rfl) dX12_count_236 (fun H locs hp => ?_)
  refine lv_dup hx hb dX12_count_237 rfl ?_
  refine lv_iconst (v := 3) hx hb dX12_count_238 (by decide) ?_
  refine lv_aload_n hx hb dX12_count_239 rfl (lv_at hl 8 rfl) ?_
  refine hr_get C0 hp (q0 := 0) (C := RX12) (T := TX12) (N := 4) (ci := 2) rfl rfl hr_uX12 1 (by decide) hw_139 (fun _ h9 => h9) rfl dX12_count_240 ?_
  refine hr_get C0 hp (q0 := 1) (C := RX11) (T := TX11) (N := 5) (ci := 1) rfl rfl hr_uX11 2 (by decide) hw_155 (fun _ h9 => h9) rfl dX12_count_243 ?_
  refine hr_cVi C0 hp (q0 := 4) (ci := 0) (Cn := RJx4a65c) (T := TJx4a65c) (N := 3) (rest := [.int 3, .ref q_199, .ref q_199]) (n := 0) [(q_199, .inl (cA_199, 15, .inl (fun _ => 0)))] (hr_size_4 l D a z th 0) rfl rfl rfl (hr_gV hw_150 hw_52 hw_53 hw_26 hw_54) ⟨rfl, rfl⟩ (by decide +kernel) ⟨Nat.le_of_ble_eq_true rfl, Nat.le_of_ble_eq_true rfl⟩ ⟨Nat.le_of_ble_eq_true rfl, Nat.le_of_ble_eq_true rfl⟩ hl.1 rfl rfl (Nat.le_of_ble_eq_true rfl) dX12_count_246 (fun q_246 u_246 H locs hv_246 hp => ?_)
  subst hv_246
  have hp : hr_H D A s.heap (hr_Y a z th 0 ++ [(q_199, .inl (cA_199, 15, .inl (fun _ => 0)))]) H _ := hp
  refine hr_iast C0 hK_199 hp (q0 := 6) (n := 15) (f := (fun _ => 0)) (k' := 3) (Y' := (hr_Y a z th 0 ++ [(q_199, .inl (cA_199, 15, .inl (fun _ => 0)))])) rfl (by unfold vp_in; decide) (by decide) (by rw [hr_u0]; rfl) dX12_count_249 (fun H locs hp => ?_)
  refine lv_dup hx hb dX12_count_250 rfl ?_
  refine lv_iconst (v := 4) hx hb dX12_count_251 (by decide) ?_
  refine lv_iload_n hx hb dX12_count_252 rfl (lv_at hl 7 rfl) ?_
  refine hr_iast C0 hK_199 hp (q0 := 6) (n := 15) (f := (fun _ => 0)) (k' := 4) (Y' := (hr_Y a z th 0 ++ [(q_199, .inl (cA_199, 15, .inl (fun _ => 0)))])) rfl (by unfold vp_in; decide) (by decide) (by rw [hr_u0]; rfl) dX12_count_253 (fun H locs hp => ?_)
  refine lv_dup hx hb dX12_count_254 rfl ?_
  refine lv_iconst (v := 5) hx hb dX12_count_255 (by decide) ?_
  refine lv_iload_n hx hb dX12_count_256 rfl (lv_at hl 6 rfl) ?_
  refine hr_iast C0 hK_199 hp (q0 := 6) (n := 15) (f := (fun _ => 0)) (k' := 5) (Y' := (hr_Y a z th 0 ++ [(q_199, .inl (cA_199, 15, .inl (fun _ => 0)))])) rfl (by unfold vp_in; decide) (by decide) (by rw [hr_u0]; rfl) dX12_count_257 (fun H locs hp => ?_)
  refine lv_dup hx hb dX12_count_258 rfl ?_
  refine lv_bipush (v := 6) hx hb dX12_count_259 (by decide) ?_
  refine lv_iload hx hb dX12_count_261 (lv_at hl 5 rfl) ?_
  refine hr_iast C0 hK_199 hp (q0 := 6) (n := 15) (f := (fun _ => 0)) (k' := 6) (Y' := (hr_Y a z th 0 ++ [(q_199, .inl (cA_199, 15, .inl (fun _ => 0)))])) rfl (by unfold vp_in; decide) (by decide) (by rw [hr_u0]; rfl) dX12_count_263 (fun H locs hp => ?_)
  refine lv_dup hx hb dX12_count_264 rfl ?_
  refine lv_bipush (v := 7) hx hb dX12_count_265 (by decide) ?_
  refine lv_iload hx hb dX12_count_267 (lv_at hl 4 rfl) ?_
  refine hr_iast C0 hK_199 hp (q0 := 6) (n := 15) (f := (fun _ => 0)) (k' := 7) (Y' := (hr_Y a z th 0 ++ [(q_199, .inl (cA_199, 15, .inl (fun _ => 0)))])) rfl (by unfold vp_in; decide) (by decide) (by rw [hr_u0]; rfl) dX12_count_269 (fun H locs hp => ?_)
  refine lv_dup hx hb dX12_count_270 rfl ?_
  refine lv_bipush (v := 8) hx hb dX12_count_271 (by decide) ?_
  refine lv_aload_n hx hb dX12_count_273 rfl (lv_at hl 8 rfl) ?_
  refine hr_get C0 hp (q0 := 0) (C := RX12) (T := TX12) (N := 4) (ci := 2) rfl rfl hr_uX12 2 (by decide) hw_220 (fun _ h9 => h9) rfl dX12_count_274 ?_
  refine hr_iast C0 hK_199 hp (q0 := 6) (n := 15) (f := (fun _ => 0)) (k' := 8) (Y' := (hr_Y a z th 0 ++ [(q_199, .inl (cA_199, 15, .inl (fun _ => 0)))])) rfl (by unfold vp_in; decide) (by decide) (by rw [hr_u0]; rfl) dX12_count_277 (fun H locs hp => ?_)
  refine lv_dup hx hb dX12_count_278 rfl ?_
  refine lv_bipush (v := 9) hx hb dX12_count_279 (by decide) ?_
  refine lv_aload_n hx hb dX12_count_281 rfl (lv_at hl 8 rfl) ?_
  refine hr_get C0 hp (q0 := 0) (C := RX12) (T := TX12) (N := 4) (ci := 2) rfl rfl hr_uX12 3 (by decide) hw_238 (fun _ h9 => h9) rfl dX12_count_282 ?_
  refine hr_iast C0 hK_199 hp (q0 := 6) (n := 15) (f := (fun _ => 0)) (k' := 9) (Y' := (hr_Y a z th 0 ++ [(q_199, .inl (cA_199, 15, .inl (fun _ => 0)))])) rfl (by unfold vp_in; decide) (by decide) (by rw [hr_u0]; rfl) dX12_count_285 (fun H locs hp => ?_)
  refine lv_dup hx hb dX12_count_286 rfl ?_
  refine lv_bipush (v := 10) hx hb dX12_count_287 (by decide) ?_
  refine lv_aload_n hx hb dX12_count_289 rfl (lv_at hl 8 rfl) ?_
  refine hr_get C0 hp (q0 := 0) (C := RX12) (T := TX12) (N := 4) (ci := 2) rfl rfl hr_uX12 1 (by decide) hw_139 (fun _ h9 => h9) rfl dX12_count_290 ?_
  refine hr_get C0 hp (q0 := 1) (C := RX11) (T := TX11) (N := 5) (ci := 1) rfl rfl hr_uX11 3 (by decide) hw_239 (fun _ h9 => h9) rfl dX12_count_293 ?_
  refine hr_cVi C0 hp (q0 := 5) (ci := 0) (Cn := RJx4a65c) (T := TJx4a65c) (N := 3) (rest := [.int 10, .ref q_199, .ref q_199]) (n := 0) [(q_199, .inl (cA_199, 15, .inl (fun _ => 0)))] (hr_size_5 l D a z th 0) rfl rfl rfl (hr_gV hw_150 hw_52 hw_53 hw_26 hw_54) ⟨rfl, rfl⟩ (by decide +kernel) ⟨Nat.le_of_ble_eq_true rfl, Nat.le_of_ble_eq_true rfl⟩ ⟨Nat.le_of_ble_eq_true rfl, Nat.le_of_ble_eq_true rfl⟩ hl.1 rfl rfl (Nat.le_of_ble_eq_true rfl) dX12_count_296 (fun q_296 u_296 H locs hv_296 hp => ?_)
  subst hv_296
  have hp : hr_H D A s.heap (hr_Y a z th 0 ++ [(q_199, .inl (cA_199, 15, .inl (fun _ => 0)))]) H _ := hp
  refine hr_iast C0 hK_199 hp (q0 := 6) (n := 15) (f := (fun _ => 0)) (k' := 10) (Y' := (hr_Y a z th 0 ++ [(q_199, .inl (cA_199, 15, .inl (fun _ => 0)))])) rfl (by unfold vp_in; decide) (by decide) (by rw [hr_u0]; rfl) dX12_count_299 (fun H locs hp => ?_)
  refine lv_dup hx hb dX12_count_300 rfl ?_
  refine lv_bipush (v := 11) hx hb dX12_count_301 (by decide) ?_
  refine lv_iload hx hb dX12_count_303 (lv_at hl 2 rfl) ?_
  refine hr_iast C0 hK_199 hp (q0 := 6) (n := 15) (f := (fun _ => 0)) (k' := 11) (Y' := (hr_Y a z th 0 ++ [(q_199, .inl (cA_199, 15, .inl (fun _ => 0)))])) rfl (by unfold vp_in; decide) (by decide) (by rw [hr_u0]; rfl) dX12_count_305 (fun H locs hp => ?_)
  refine lv_dup hx hb dX12_count_306 rfl ?_
  refine lv_bipush (v := 12) hx hb dX12_count_307 (by decide) ?_
  refine lv_iload hx hb dX12_count_309 (lv_at hl 3 rfl) ?_
  refine hr_iast C0 hK_199 hp (q0 := 6) (n := 15) (f := (fun _ => 0)) (k' := 12) (Y' := (hr_Y a z th 0 ++ [(q_199, .inl (cA_199, 15, .inl (fun _ => 0)))])) rfl (by unfold vp_in; decide) (by decide) (by rw [hr_u0]; rfl) dX12_count_311 (fun H locs hp => ?_)
  refine lv_dup hx hb dX12_count_312 rfl ?_
  refine lv_bipush (v := 13) hx hb dX12_count_313 (by decide) ?_
  refine lv_iload hx hb dX12_count_315 (lv_at hl 1 rfl) ?_
  refine hr_iast C0 hK_199 hp (q0 := 6) (n := 15) (f := (fun _ => 0)) (k' := 13) (Y' := (hr_Y a z th 0 ++ [(q_199, .inl (cA_199, 15, .inl (fun _ => 0)))])) rfl (by unfold vp_in; decide) (by decide) (by rw [hr_u0]; rfl) dX12_count_317 (fun H locs hp => ?_)
  refine lv_dup hx hb dX12_count_318 rfl ?_
  refine lv_bipush (v := 14) hx hb dX12_count_319 (by decide) ?_
  refine lv_aload_n hx hb dX12_count_321 rfl (lv_at hl 8 rfl) ?_
  refine hr_get C0 hp (q0 := 0) (C := RX12) (T := TX12) (N := 4) (ci := 2) rfl rfl hr_uX12 1 (by decide) hw_139 (fun _ h9 => h9) rfl dX12_count_322 ?_
  refine hr_cVi C0 hp (q0 := 1) (ci := 1) (Cn := RX11) (T := TX11) (N := 5) (rest := [.int 14, .ref q_199, .ref q_199]) (n := 0) [(q_199, .inl (cA_199, 15, .inl (fun _ => 0)))] (hr_X11_covered l D a z th 0) rfl rfl rfl (hr_gV hw_274 hw_275 hw_276 hw_58 hw_134) ⟨rfl, rfl⟩ (by decide +kernel) ⟨Nat.le_of_ble_eq_true rfl, Nat.le_of_ble_eq_true rfl⟩ ⟨Nat.le_of_ble_eq_true rfl, Nat.le_of_ble_eq_true rfl⟩ hl.1 rfl rfl (Nat.le_of_ble_eq_true rfl) dX12_count_325 (fun q_325 u_325 H locs hv_325 hp => ?_)
  subst hv_325
  have hp : hr_H D A s.heap (hr_Y a z th 0 ++ [(q_199, .inl (cA_199, 15, .inl (fun _ => 0)))]) H _ := hp
  refine hr_iast C0 hK_199 hp (q0 := 6) (n := 15) (f := (fun _ => 0)) (k' := 14) (Y' := (hr_Y a z th 0 ++ [(q_199, .inl (cA_199, 15, .inl (fun _ => 0)))])) rfl (by unfold vp_in; decide) (by decide) (by rw [hr_u0]; rfl) dX12_count_328 (fun H locs hp => ?_)
  refine lv_astore (lv' := [(9, .ref q_199), (8, .int 0), (7, .int 0), (6, .int 0), (5, .int 0), (4, .int 0), (3, .int 0), (2, .int 0), (0, .ref (a 0)), (1, .int p0)]) hx hb dX12_count_329 hl (by decide) rfl (fun ls hl => ?_)
  refine lv_aload hx hb dX12_count_331 (lv_at hl 0 rfl) ?_
  refine lv_iload_n hx hb dX12_count_333 rfl (lv_at hl 9 rfl) ?_
  refine hr_ial C0 hK_199 hp (q0 := 6) (n := 15) (f := fun _ => 0) (k' := p0.toNatClampNeg) rfl hin rfl dX12_count_334 ?_
  have hp := hr_drop (Y := (hr_Y a z th 0)) (X := [(q_199, .inl (cA_199, 15, .inl (fun _ => 0)))]) hp
  exact hr_iret () C0 hp rfl ⟨Nat.le_of_ble_eq_true rfl, Nat.le_of_ble_eq_true rfl⟩ dX12_count_335 rfl
set_option maxHeartbeats 4000000 in
set_option maxRecDepth 100000 in
/-- many: none -/
theorem hr_many_y (l : Launch) (D : va_G) (a : Nat → Nat) (z : Nat) (th : Int32) (p0 : Int32) (hvd : hv_many p0) : hr_Ki l D z yX12_many (hr_wm yX12_many cX12_many 2 (some .int)) { frames := 4, cells := 3, slots := 23, locals := 98 } [.ref (a 0), .int p0] (hr_Y a z th 0) 3 23 (fun (q : Int32) (_ : Unit) => q = 0) (fun _ => hr_Y a z 0 0) := by
  refine hr_Ki_of (by decide) (Nat.le_of_ble_eq_true rfl) ?_
  intro p e s m args below meth c ls A C0 hp hl
  obtain ⟨hx, hb, hr9, hml, hown, hts, hK, hlk, hA, hN, hnm9⟩ := id C0
  have hl : lv_has ls 2 [(0, .ref (a 0)), (1, .int p0)] := hl
  have hin : vp_in p0 15 := by
    have h1 := Int32.le_iff_toInt_le.mp hvd.1
    have h2 := Int32.le_iff_toInt_le.mp hvd.2
    rw [vp_in_iff]
    have e0 : (0 : Int32).toInt = 0 := rfl
    have e1 : (14 : Int32).toInt = 14 := rfl
    rw [e0] at h1
    rw [e1] at h2
    omega
  refine lv_aload_n hx hb dX12_many_0 rfl (lv_at hl 0 rfl) ?_
  refine lv_iload_n hx hb dX12_many_1 rfl (lv_at hl 1 rfl) ?_
  refine lv_iconst (v := 0) hx hb dX12_many_2 (by decide) ?_
  refine lv_bipush (v := 14) hx hb dX12_many_3 (by decide) ?_
  refine hr_cSi C0 hp (rest := [.ref (a 0)]) (n := 3) [] (hr_X12_isIn l D z (hr_Y a z th 0) (p0) (0) (14)) rfl (hr_gS hw_151 hw_104 hw_105 hw_106) ⟨rfl, rfl⟩ (by decide +kernel) ⟨Nat.le_of_ble_eq_true rfl, Nat.le_of_ble_eq_true rfl⟩ ⟨Nat.le_of_ble_eq_true rfl, Nat.le_of_ble_eq_true rfl⟩ hl.1 rfl rfl (Nat.le_of_ble_eq_true rfl) dX12_many_5 (fun q_5 u_5 H locs hv_5 hp => ?_)
  subst hv_5
  have hp : hr_H D A s.heap (hr_Y a z th 0) H _ := hp
  rw [hr_in_y hvd.1 hvd.2]
  refine lv_if_ne (tgt := 15) hx hb dX12_many_8 (by decide) (fun _ => ?_) (fun c9 => absurd c9 (by decide))
  refine lv_iconst (v := 0) hx hb dX12_many_15 (by decide) ?_
  refine lv_iconst (v := 1) hx hb dX12_many_16 (by decide) ?_
  refine hr_cVi C0 hp (q0 := 0) (ci := 2) (Cn := RX12) (T := TX12) (N := 4) (rest := []) (n := 2) [] (hr_start_0 l D a z th 0) rfl rfl rfl (hr_gV hw_159 hw_160 hw_161 hw_105 hw_144) ⟨rfl, rfl⟩ (by decide +kernel) ⟨Nat.le_of_ble_eq_true rfl, Nat.le_of_ble_eq_true rfl⟩ ⟨Nat.le_of_ble_eq_true rfl, Nat.le_of_ble_eq_true rfl⟩ hl.1 rfl rfl (Nat.le_of_ble_eq_true rfl) dX12_many_17 (fun q_17 u_17 H locs hv_17 hp => ?_)
  subst hv_17
  have hp : hr_H D A s.heap (hr_Y a z 0 0) H _ := hp
  refine lv_if_eq (tgt := 27) hx hb dX12_many_20 (by decide) (fun _ => ?_) (fun c9 => absurd c9 (by decide))
  refine lv_aload_n hx hb dX12_many_27 rfl (lv_at hl 0 rfl) ?_
  refine lv_iload_n hx hb dX12_many_28 rfl (lv_at hl 1 rfl) ?_
  refine hr_cVi C0 hp (q0 := 0) (ci := 2) (Cn := RX12) (T := TX12) (N := 4) (rest := []) (n := 1) [] (hr_X12_count l D a z 0 p0 hin) rfl rfl rfl (hr_gV hw_278 hw_279 hw_280 hw_105 hw_272) ⟨rfl, rfl⟩ (by decide +kernel) ⟨Nat.le_of_ble_eq_true rfl, Nat.le_of_ble_eq_true rfl⟩ ⟨Nat.le_of_ble_eq_true rfl, Nat.le_of_ble_eq_true rfl⟩ hl.1 rfl rfl (Nat.le_of_ble_eq_true rfl) dX12_many_29 (fun q_29 u_29 H locs hv_29 hp => ?_)
  subst hv_29
  have hp : hr_H D A s.heap (hr_Y a z 0 0) H _ := hp
  refine W.widen (k := 3) (n := 23) (by decide) (by decide) ?_
  exact hr_iret () C0 hp rfl ⟨Nat.le_of_ble_eq_true rfl, Nat.le_of_ble_eq_true rfl⟩ dX12_many_32 rfl
set_option maxHeartbeats 4000000 in
set_option maxRecDepth 100000 in
/-- pass on an empty road -/
theorem hr_pass_y (l : Launch) (D : va_G) (a : Nat → Nat) (z : Nat) (th nw : Int32) (p0 : Int32) (hvd : hv_pass p0) : hr_Ki l D z yX12_pass (hr_wm yX12_pass cX12_pass 4 (some .int)) { frames := 4, cells := 396, slots := 1584, locals := 77 } [.ref (a 0), .int p0] (hr_Y a z th nw) 396 1584 (fun (q : Int32) (_ : Int32) => q = 0) (fun v9 => hr_Y a z 0 v9) := by
  refine hr_Ki_of (by decide) (Nat.le_of_ble_eq_true rfl) ?_
  intro p e s m args below meth c ls A C0 hp hl
  obtain ⟨hx, hb, hr9, hml, hown, hts, hK, hlk, hA, hN, hnm9⟩ := id C0
  have hl : lv_has ls 4 [(0, .ref (a 0)), (1, .int p0)] := hl
  have hS0 : (0 : Int32) ≤ p0 := Int32.le_trans (by decide) hvd.1
  have hS : p0 = nI p0.toNatClampNeg := hh_nat hS0
  have hS9 : p0.toNatClampNeg ≤ 99 := hh_nat_le hS0 hvd.2 (by decide)
  have hL : ∀ (n i : Nat) (v9 : Int32) (H : Heap) (locs : List Loc) (ls : Array Slot), i ≤ p0.toNatClampNeg → p0.toNatClampNeg - i < n → hr_H D A s.heap (hr_Y a z 0 v9) H locs → lv_has ls 4 [(3, .int (nI i)), (0, .ref (a 0)), (1, .int p0), (2, .int 0)] → W p l e ({ frames := 4, cells := 396, slots := 1584, locals := 77 } : Room) s m args below meth c H locs (4 * i) (16 * i) (MQ below (va_Qi (fun (q : Int32) (_ : Int32) => q = 0) (fun u t => hr_B D A ((fun v9 => hr_Y a z 0 v9) u) t) A) args s 396 1584 A) (F0 m 29 ls []) := by
    intro n
    induction n with
    | zero => intro i v9 H locs ls h1 h2; omega
    | succ n ih =>
    intro i v9 H locs ls hi hn hp hl
    refine lv_iload_n hx hb dX12_pass_29 rfl (lv_at hl 0 rfl) ?_
    refine lv_iload_n hx hb dX12_pass_30 rfl (lv_at hl 2 rfl) ?_
    refine lv_icmp_ge (tgt := 50) hx hb dX12_pass_31 (by decide) (fun c9 => ?_) (fun c9 => ?_)
    · refine lv_iload_n hx hb dX12_pass_50 rfl (lv_at hl 3 rfl) ?_
      exact hr_iret v9 C0 hp rfl ⟨by omega, by omega⟩ dX12_pass_51 rfl
    · have hlt : i < p0.toNatClampNeg := Nat.not_le.mp (fun q => c9 (by rw [hS]; exact nI_le q (by omega)))
      refine lv_iload_n hx hb dX12_pass_34 rfl (lv_at hl 3 rfl) ?_
      refine lv_aload_n hx hb dX12_pass_35 rfl (lv_at hl 1 rfl) ?_
      refine hr_get C0 hp (q0 := 0) (C := RX12) (T := TX12) (N := 4) (ci := 2) rfl rfl hr_uX12 1 (by decide) hw_139 (fun _ h9 => h9) rfl dX12_pass_36 ?_
      refine hr_cVi C0 hp (q0 := 1) (ci := 1) (Cn := RX11) (T := TX11) (N := 5) (rest := [.int 0]) (n := 0) [] (hr_X11_second l D a z 0 v9) rfl rfl rfl (hr_gV hw_248 hw_249 hw_250 hw_58 hw_95) ⟨rfl, rfl⟩ (by decide +kernel) ⟨Nat.le_of_ble_eq_true rfl, Nat.le_of_ble_eq_true rfl⟩ ⟨by show 4 * i + 4 ≤ 396; omega, by show 16 * i + 16 ≤ 1584; omega⟩ hl.1 rfl rfl (Nat.le_of_ble_eq_true rfl) dX12_pass_39 (fun q_39 u_39 H locs hv_39 hp => ?_)
      subst hv_39
      have hp : hr_H D A s.heap (hr_Y a z 0 (v9 + 1)) H _ := hp
      refine lv_iadd hx hb dX12_pass_42 ?_
      rw [show (0 : Int32) + 0 = 0 from by decide]
      refine lv_istore_n (lv' := [(2, .int 0), (3, .int (nI i)), (0, .ref (a 0)), (1, .int p0)]) hx hb dX12_pass_43 rfl hl (by decide) rfl (fun ls hl => ?_)
      refine lv_iinc (v := (nI (i + 1))) (lv' := [(3, .int (nI (i + 1))), (2, .int 0), (0, .ref (a 0)), (1, .int p0)]) hx hb dX12_pass_44 hl (k := 1) rfl (nI_1 i) (by decide) rfl (fun ls hl => ?_)
      refine lv_goto (tgt := 29) hx hb dX12_pass_47 (by decide) ?_
      refine W.widen (k := 4 * (i + 1)) (n := 16 * (i + 1)) (by omega) (by omega) ?_
      exact ih (i + 1) (v9 + 1) _ _ _ (by omega) (by omega) hp (lv_sub hl [0, 2, 3, 1] rfl)
  refine lv_aload_n hx hb dX12_pass_0 rfl (lv_at hl 0 rfl) ?_
  refine lv_iload_n hx hb dX12_pass_1 rfl (lv_at hl 1 rfl) ?_
  refine lv_iconst (v := 1) hx hb dX12_pass_2 (by decide) ?_
  refine lv_bipush (v := 99) hx hb dX12_pass_3 (by decide) ?_
  refine hr_cSi C0 hp (rest := [.ref (a 0)]) (n := 3) [] (hr_X12_isIn l D z (hr_Y a z th nw) (p0) (1) (99)) rfl (hr_gS hw_151 hw_104 hw_105 hw_106) ⟨rfl, rfl⟩ (by decide +kernel) ⟨Nat.le_of_ble_eq_true rfl, Nat.le_of_ble_eq_true rfl⟩ ⟨Nat.le_of_ble_eq_true rfl, Nat.le_of_ble_eq_true rfl⟩ hl.1 rfl rfl (Nat.le_of_ble_eq_true rfl) dX12_pass_5 (fun q_5 u_5 H locs hv_5 hp => ?_)
  subst hv_5
  have hp : hr_H D A s.heap (hr_Y a z th nw) H _ := hp
  rw [hr_in_y hvd.1 hvd.2]
  refine lv_if_ne (tgt := 15) hx hb dX12_pass_8 (by decide) (fun _ => ?_) (fun c9 => absurd c9 (by decide))
  refine lv_iconst (v := 0) hx hb dX12_pass_15 (by decide) ?_
  refine lv_iconst (v := 1) hx hb dX12_pass_16 (by decide) ?_
  refine hr_cVi C0 hp (q0 := 0) (ci := 2) (Cn := RX12) (T := TX12) (N := 4) (rest := []) (n := 2) [] (hr_start_0 l D a z th nw) rfl rfl rfl (hr_gV hw_159 hw_160 hw_161 hw_105 hw_144) ⟨rfl, rfl⟩ (by decide +kernel) ⟨Nat.le_of_ble_eq_true rfl, Nat.le_of_ble_eq_true rfl⟩ ⟨Nat.le_of_ble_eq_true rfl, Nat.le_of_ble_eq_true rfl⟩ hl.1 rfl rfl (Nat.le_of_ble_eq_true rfl) dX12_pass_17 (fun q_17 u_17 H locs hv_17 hp => ?_)
  subst hv_17
  have hp : hr_H D A s.heap (hr_Y a z 0 nw) H _ := hp
  refine lv_if_eq (tgt := 25) hx hb dX12_pass_20 (by decide) (fun _ => ?_) (fun c9 => absurd c9 (by decide))
  refine lv_iconst (v := 0) hx hb dX12_pass_25 (by decide) ?_
  refine lv_istore_n (lv' := [(2, .int 0), (0, .ref (a 0)), (1, .int p0)]) hx hb dX12_pass_26 rfl hl (by decide) rfl (fun ls hl => ?_)
  refine lv_iconst (v := 0) hx hb dX12_pass_27 (by decide) ?_
  refine lv_istore_n (lv' := [(3, .int 0), (2, .int 0), (0, .ref (a 0)), (1, .int p0)]) hx hb dX12_pass_28 rfl hl (by decide) rfl (fun ls hl => ?_)
  exact hL (p0.toNatClampNeg + 1) 0 nw _ _ _ (Nat.zero_le _) (by omega) hp (lv_sub hl [0, 2, 3, 1] rfl)
