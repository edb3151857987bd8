/-! the reference on a road with two masts: leaves, the quality of a mast (wip/gen/mkt.py) -/
def hr_in (x lo hi : Int32) : Int32 := if lo ≤ x ∧ x ≤ hi then 1 else 0
theorem hr_in_y {x lo hi : Int32} (h1 : lo ≤ x) (h2 : x ≤ hi) : hr_in x lo hi = 1 := if_pos ⟨h1, h2⟩
def hr_one (x : Int32) : Int32 := if x = 0 then 0 else 1
def hr_abs (x : Int32) : Int32 := if 0 ≤ x then x else 0 - x
set_option maxHeartbeats 4000000 in
set_option maxRecDepth 100000 in
/-- one -/
theorem hs_X12_one (l : Launch) (D : va_G) (z : Nat) (tys : List (ClassId × FieldType)) (Y : va_W) (x : Int32) : hs_Ki l D z tys yX12_one (hr_wm yX12_one cX12_one 1 (some .int)) { frames := 0, cells := 0, slots := 0, locals := 0 } [.int x] Y 0 0 0 (fun (q : Int32) (_ : Unit) => q = hr_one x) (fun _ => Y) := by
  refine hs_Ki_of (by decide) (Nat.le_of_ble_eq_true rfl) ?_
  intro p e s m args below meth c ls A hAe C0 hKT hp hl
  obtain ⟨hx, hb, hr9, hml, hown, hts, hK, hlk, hA, hN, hnm9⟩ := id C0
  have hl : lv_has ls 1 [(0, .int x)] := hl
  refine lv_iload_n hx hb dX12_one_0 rfl (lv_at hl 0 rfl) ?_
  refine lv_if_eq (tgt := 8) hx hb dX12_one_1 (by decide) (fun c1 => ?_) (fun c1 => ?_)
  · refine lv_iconst (v := 0) hx hb dX12_one_8 (by decide) ?_
    exact hs_iret () C0 hp hp.2.2.1 rfl ⟨Nat.le_refl _, Nat.le_refl _⟩ dX12_one_9 (if_pos c1).symm
  · refine lv_iconst (v := 1) hx hb dX12_one_4 (by decide) ?_
    refine lv_goto (tgt := 9) hx hb dX12_one_5 (by decide) ?_
    exact hs_iret () C0 hp hp.2.2.1 rfl ⟨Nat.le_refl _, Nat.le_refl _⟩ dX12_one_9 (if_neg c1).symm
set_option maxHeartbeats 4000000 in
set_option maxRecDepth 100000 in
/-- add -/
theorem hs_X12_add (l : Launch) (D : va_G) (z : Nat) (tys : List (ClassId × FieldType)) (Y : va_W) (d9 v9 : Int64) : hs_Kl l D z tys yX12_add (hr_wm yX12_add cX12_add 4 (some .long)) { frames := 0, cells := 0, slots := 0, locals := 0 } [.long d9, .long v9] Y 0 0 0 (fun (_ : Int64) (_ : Unit) => True) (fun _ => Y) := by
  refine hs_Kl_of (by decide) (Nat.le_of_ble_eq_true rfl) ?_
  intro p e s m args below meth c ls A hAe C0 hKT hp hl
  obtain ⟨hx, hb, hr9, hml, hown, hts, hK, hlk, hA, hN, hnm9⟩ := id C0
  have hl : lv_has ls 4 [(0, .long d9), (2, .long v9)] := hl
  refine lv_lload_n hx hb dX12_add_0 rfl (lv_at hl 0 rfl) ?_
  refine lv_ldc2 (v := 31) hx hb hown (hts _ hw_232) dX12_add_1 ?_
  refine lv_lmul hx hb dX12_add_4 ?_
  refine lv_lload_n hx hb dX12_add_5 rfl (lv_at hl 1 rfl) ?_
  refine lv_ladd hx hb dX12_add_6 ?_
  exact hs_lret () C0 hp hp.2.2.1 rfl ⟨Nat.le_of_ble_eq_true rfl, Nat.le_of_ble_eq_true rfl⟩ dX12_add_7 trivial
set_option maxHeartbeats 4000000 in
set_option maxRecDepth 100000 in
/-- an index is looked at -/
theorem hs_ci3_0 (l : Launch) (D : va_G) (z : Nat) (tys : List (ClassId × FieldType)) (Y : va_W) : hs_Ki l D z tys yJ3_checkIndex_8e157 (hr_wm yJ3_checkIndex_8e157 cJ3_checkIndex_8e157 3 (some .int)) { frames := 0, cells := 0, slots := 0, locals := 0 } [.int 0, .int 2, .null] Y 0 0 0 (fun (q : Int32) (_ : Unit) => q = 0) (fun _ => Y) := by
  refine hs_Ki_of (by decide) (Nat.le_of_ble_eq_true rfl) ?_
  intro p e s m args below meth c ls A hAe C0 hKT hp hl
  obtain ⟨hx, hb, hr9, hml, hown, hts, hK, hlk, hA, hN, hnm9⟩ := id C0
  have hl : lv_has ls 3 [(0, .int 0), (1, .int 2), (2, .null)] := hl
  refine lv_iload_n hx hb dJ3_checkIndex_8e157_0 rfl (lv_at hl 0 rfl) ?_
  refine lv_if_lt (tgt := 9) hx hb dJ3_checkIndex_8e157_1 (by decide) (fun c9 => absurd c9 (by decide)) (fun _ => ?_)
  refine lv_iload_n hx hb dJ3_checkIndex_8e157_4 rfl (lv_at hl 0 rfl) ?_
  refine lv_iload_n hx hb dJ3_checkIndex_8e157_5 rfl (lv_at hl 1 rfl) ?_
  refine lv_icmp_lt (tgt := 16) hx hb dJ3_checkIndex_8e157_6 (by decide) (fun _ => ?_) (fun c9 => absurd c9 (by decide))
  refine lv_iload_n hx hb dJ3_checkIndex_8e157_16 rfl (lv_at hl 0 rfl) ?_
  exact hs_iret () C0 hp hp.2.2.1 rfl ⟨Nat.le_of_ble_eq_true rfl, Nat.le_of_ble_eq_true rfl⟩ dJ3_checkIndex_8e157_17 rfl
set_option maxHeartbeats 4000000 in
set_option maxRecDepth 100000 in
/-- an index is looked at -/
theorem hs_ci3_1 (l : Launch) (D : va_G) (z : Nat) (tys : List (ClassId × FieldType)) (Y : va_W) : hs_Ki l D z tys yJ3_checkIndex_8e157 (hr_wm yJ3_checkIndex_8e157 cJ3_checkIndex_8e157 3 (some .int)) { frames := 0, cells := 0, slots := 0, locals := 0 } [.int 1, .int 2, .null] Y 0 0 0 (fun (q : Int32) (_ : Unit) => q = 1) (fun _ => Y) := by
  refine hs_Ki_of (by decide) (Nat.le_of_ble_eq_true rfl) ?_
  intro p e s m args below meth c ls A hAe C0 hKT hp hl
  obtain ⟨hx, hb, hr9, hml, hown, hts, hK, hlk, hA, hN, hnm9⟩ := id C0
  have hl : lv_has ls 3 [(0, .int 1), (1, .int 2), (2, .null)] := hl
  refine lv_iload_n hx hb dJ3_checkIndex_8e157_0 rfl (lv_at hl 0 rfl) ?_
  refine lv_if_lt (tgt := 9) hx hb dJ3_checkIndex_8e157_1 (by decide) (fun c9 => absurd c9 (by decide)) (fun _ => ?_)
  refine lv_iload_n hx hb dJ3_checkIndex_8e157_4 rfl (lv_at hl 0 rfl) ?_
  refine lv_iload_n hx hb dJ3_checkIndex_8e157_5 rfl (lv_at hl 1 rfl) ?_
  refine lv_icmp_lt (tgt := 16) hx hb dJ3_checkIndex_8e157_6 (by decide) (fun _ => ?_) (fun c9 => absurd c9 (by decide))
  refine lv_iload_n hx hb dJ3_checkIndex_8e157_16 rfl (lv_at hl 0 rfl) ?_
  exact hs_iret () C0 hp hp.2.2.1 rfl ⟨Nat.le_of_ble_eq_true rfl, Nat.le_of_ble_eq_true rfl⟩ dJ3_checkIndex_8e157_17 rfl
set_option maxHeartbeats 4000000 in
set_option maxRecDepth 100000 in
/-- an index is looked at -/
theorem hs_ci15_0 (l : Launch) (D : va_G) (z : Nat) (tys : List (ClassId × FieldType)) (Y : va_W) : hs_Ki l D z tys yJ15_checkIndex_7cf53 (hr_wm yJ15_checkIndex_7cf53 cJ15_checkIndex_7cf53 2 (some .int)) { frames := 1, cells := 0, slots := 0, locals := 22 } [.int 0, .int 2] Y 0 0 0 (fun (q : Int32) (_ : Unit) => q = 0) (fun _ => Y) := by
  refine hs_Ki_of (by decide) (Nat.le_of_ble_eq_true rfl) ?_
  intro p e s m args below meth c ls A hAe C0 hKT hp hl
  obtain ⟨hx, hb, hr9, hml, hown, hts, hK, hlk, hA, hN, hnm9⟩ := id C0
  have hl : lv_has ls 2 [(0, .int 0), (1, .int 2)] := hl
  refine lv_iload_n hx hb dJ15_checkIndex_7cf53_0 rfl (lv_at hl 0 rfl) ?_
  refine lv_iload_n hx hb dJ15_checkIndex_7cf53_1 rfl (lv_at hl 1 rfl) ?_
  refine lv_null hx hb dJ15_checkIndex_7cf53_2 ?_
  refine hs_cTi C0 hKT hp (rest := []) (n := 3) [] (hs_ci3_0 l D z _ Y) (List.append_nil _).symm hw_60 hw_59 hw_57 hw_58 ⟨rfl, rfl⟩ (by decide +kernel) ⟨Nat.le_of_ble_eq_true rfl, Nat.le_of_ble_eq_true rfl⟩ ⟨Nat.le_of_ble_eq_true rfl, Nat.le_of_ble_eq_true rfl⟩ hl.1 rfl rfl (Nat.le_of_ble_eq_true rfl) dJ15_checkIndex_7cf53_3 (fun q_3 u_3 H locs hv_3 hz9 hp => ?_)
  subst hv_3
  rw [List.append_nil] at hp
  have hp : hr_H D A s.heap Y H _ := hp
  exact hs_iret () C0 hp hp.2.2.1 rfl ⟨Nat.le_of_ble_eq_true rfl, Nat.le_of_ble_eq_true rfl⟩ dJ15_checkIndex_7cf53_6 rfl
set_option maxHeartbeats 4000000 in
set_option maxRecDepth 100000 in
/-- an index is looked at -/
theorem hs_ci15_1 (l : Launch) (D : va_G) (z : Nat) (tys : List (ClassId × FieldType)) (Y : va_W) : hs_Ki l D z tys yJ15_checkIndex_7cf53 (hr_wm yJ15_checkIndex_7cf53 cJ15_checkIndex_7cf53 2 (some .int)) { frames := 1, cells := 0, slots := 0, locals := 22 } [.int 1, .int 2] Y 0 0 0 (fun (q : Int32) (_ : Unit) => q = 1) (fun _ => Y) := by
  refine hs_Ki_of (by decide) (Nat.le_of_ble_eq_true rfl) ?_
  intro p e s m args below meth c ls A hAe C0 hKT hp hl
  obtain ⟨hx, hb, hr9, hml, hown, hts, hK, hlk, hA, hN, hnm9⟩ := id C0
  have hl : lv_has ls 2 [(0, .int 1), (1, .int 2)] := hl
  refine lv_iload_n hx hb dJ15_checkIndex_7cf53_0 rfl (lv_at hl 0 rfl) ?_
  refine lv_iload_n hx hb dJ15_checkIndex_7cf53_1 rfl (lv_at hl 1 rfl) ?_
  refine lv_null hx hb dJ15_checkIndex_7cf53_2 ?_
  refine hs_cTi C0 hKT hp (rest := []) (n := 3) [] (hs_ci3_1 l D z _ Y) (List.append_nil _).symm hw_60 hw_59 hw_57 hw_58 ⟨rfl, rfl⟩ (by decide +kernel) ⟨Nat.le_of_ble_eq_true rfl, Nat.le_of_ble_eq_true rfl⟩ ⟨Nat.le_of_ble_eq_true rfl, Nat.le_of_ble_eq_true rfl⟩ hl.1 rfl rfl (Nat.le_of_ble_eq_true rfl) dJ15_checkIndex_7cf53_3 (fun q_3 u_3 H locs hv_3 hz9 hp => ?_)
  subst hv_3
  rw [List.append_nil] at hp
  have hp : hr_H D A s.heap Y H _ := hp
  exact hs_iret () C0 hp hp.2.2.1 rfl ⟨Nat.le_of_ble_eq_true rfl, Nat.le_of_ble_eq_true rfl⟩ dJ15_checkIndex_7cf53_6 rfl
set_option maxHeartbeats 4000000 in
set_option maxRecDepth 100000 in
/-- size of list 2 -/
theorem hs_size_2 (l : Launch) (D : va_G) (a : Nat → Nat) (z : Nat) (cO : ClassId) (pp : Nat → Int32) (th : Int32) : hs_Ki l D z (hs_t cO) yJx4a65c_size_8abf5 (hr_wm yJx4a65c_size_8abf5 cJx4a65c_size_8abf5 1 (some .int)) { frames := 0, cells := 0, slots := 0, locals := 0 } [.ref (a 2)] (hs_Y a z cO pp th) 0 0 0 (fun (q : Int32) (_ : Unit) => q = 2) (fun _ => hs_Y a z cO pp th) := by
  refine hs_Ki_of (by decide) (Nat.le_of_ble_eq_true rfl) ?_
  intro p e s m args below meth c ls A hAe C0 hKT hp hl
  obtain ⟨hx, hb, hr9, hml, hown, hts, hK, hlk, hA, hN, hnm9⟩ := id C0
  have hl : lv_has ls 1 [(0, .ref (a 2))] := hl
  refine lv_aload_n hx hb dJx4a65c_size_8abf5_0 rfl (lv_at hl 0 rfl) ?_
  refine hr_get C0 hp (q0 := 2) (C := RJx4a65c) (T := TJx4a65c) (N := 3) (ci := 0) rfl rfl hr_uJx4a65c 2 (by decide) hw_52 (fun _ h9 => h9) rfl dJx4a65c_size_8abf5_1 ?_
  exact hs_iret () C0 hp hp.2.2.1 rfl ⟨Nat.le_of_ble_eq_true rfl, Nat.le_of_ble_eq_true rfl⟩ dJx4a65c_size_8abf5_4 rfl
set_option maxHeartbeats 4000000 in
set_option maxRecDepth 100000 in
/-- size of list 3 -/
theorem hs_size_3 (l : Launch) (D : va_G) (a : Nat → Nat) (z : Nat) (cO : ClassId) (pp : Nat → Int32) (th : Int32) : hs_Ki l D z (hs_t cO) yJx4a65c_size_8abf5 (hr_wm yJx4a65c_size_8abf5 cJx4a65c_size_8abf5 1 (some .int)) { frames := 0, cells := 0, slots := 0, locals := 0 } [.ref (a 3)] (hs_Y a z cO pp th) 0 0 0 (fun (q : Int32) (_ : Unit) => q = 0) (fun _ => hs_Y a z cO pp th) := by
  refine hs_Ki_of (by decide) (Nat.le_of_ble_eq_true rfl) ?_
  intro p e s m args below meth c ls A hAe C0 hKT hp hl
  obtain ⟨hx, hb, hr9, hml, hown, hts, hK, hlk, hA, hN, hnm9⟩ := id C0
  have hl : lv_has ls 1 [(0, .ref (a 3))] := hl
  refine lv_aload_n hx hb dJx4a65c_size_8abf5_0 rfl (lv_at hl 0 rfl) ?_
  refine hr_get C0 hp (q0 := 3) (C := RJx4a65c) (T := TJx4a65c) (N := 3) (ci := 0) rfl rfl hr_uJx4a65c 2 (by decide) hw_52 (fun _ h9 => h9) rfl dJx4a65c_size_8abf5_1 ?_
  exact hs_iret () C0 hp hp.2.2.1 rfl ⟨Nat.le_of_ble_eq_true rfl, Nat.le_of_ble_eq_true rfl⟩ dJx4a65c_size_8abf5_4 rfl
set_option maxHeartbeats 4000000 in
set_option maxRecDepth 100000 in
/-- size of list 4 -/
theorem hs_size_4 (l : Launch) (D : va_G) (a : Nat → Nat) (z : Nat) (cO : ClassId) (pp : Nat → Int32) (th : Int32) : hs_Ki l D z (hs_t cO) yJx4a65c_size_8abf5 (hr_wm yJx4a65c_size_8abf5 cJx4a65c_size_8abf5 1 (some .int)) { frames := 0, cells := 0, slots := 0, locals := 0 } [.ref (a 4)] (hs_Y a z cO pp th) 0 0 0 (fun (q : Int32) (_ : Unit) => q = 0) (fun _ => hs_Y a z cO pp th) := by
  refine hs_Ki_of (by decide) (Nat.le_of_ble_eq_true rfl) ?_
  intro p e s m args below meth c ls A hAe C0 hKT hp hl
  obtain ⟨hx, hb, hr9, hml, hown, hts, hK, hlk, hA, hN, hnm9⟩ := id C0
  have hl : lv_has ls 1 [(0, .ref (a 4))] := hl
  refine lv_aload_n hx hb dJx4a65c_size_8abf5_0 rfl (lv_at hl 0 rfl) ?_
  refine hr_get C0 hp (q0 := 4) (C := RJx4a65c) (T := TJx4a65c) (N := 3) (ci := 0) rfl rfl hr_uJx4a65c 2 (by decide) hw_52 (fun _ h9 => h9) rfl dJx4a65c_size_8abf5_1 ?_
  exact hs_iret () C0 hp hp.2.2.1 rfl ⟨Nat.le_of_ble_eq_true rfl, Nat.le_of_ble_eq_true rfl⟩ dJx4a65c_size_8abf5_4 rfl
set_option maxHeartbeats 4000000 in
set_option maxRecDepth 100000 in
/-- size of list 5 -/
theorem hs_size_5 (l : Launch) (D : va_G) (a : Nat → Nat) (z : Nat) (cO : ClassId) (pp : Nat → Int32) (th : Int32) : hs_Ki l D z (hs_t cO) yJx4a65c_size_8abf5 (hr_wm yJx4a65c_size_8abf5 cJx4a65c_size_8abf5 1 (some .int)) { frames := 0, cells := 0, slots := 0, locals := 0 } [.ref (a 5)] (hs_Y a z cO pp th) 0 0 0 (fun (q : Int32) (_ : Unit) => q = 0) (fun _ => hs_Y a z cO pp th) := by
  refine hs_Ki_of (by decide) (Nat.le_of_ble_eq_true rfl) ?_
  intro p e s m args below meth c ls A hAe C0 hKT hp hl
  obtain ⟨hx, hb, hr9, hml, hown, hts, hK, hlk, hA, hN, hnm9⟩ := id C0
  have hl : lv_has ls 1 [(0, .ref (a 5))] := hl
  refine lv_aload_n hx hb dJx4a65c_size_8abf5_0 rfl (lv_at hl 0 rfl) ?_
  refine hr_get C0 hp (q0 := 5) (C := RJx4a65c) (T := TJx4a65c) (N := 3) (ci := 0) rfl rfl hr_uJx4a65c 2 (by decide) hw_52 (fun _ h9 => h9) rfl dJx4a65c_size_8abf5_1 ?_
  exact hs_iret () C0 hp hp.2.2.1 rfl ⟨Nat.le_of_ble_eq_true rfl, Nat.le_of_ble_eq_true rfl⟩ dJx4a65c_size_8abf5_4 rfl
set_option maxHeartbeats 4000000 in
set_option maxRecDepth 100000 in
/-- mast 0 of the list -/
theorem hs_ed_0 (l : Launch) (D : va_G) (a : Nat → Nat) (z : Nat) (cO : ClassId) (pp : Nat → Int32) (th : Int32) : hs_Kr l D z (hs_t cO) yJx4a65c_elementData_915e3 (hr_wm yJx4a65c_elementData_915e3 cJx4a65c_elementData_915e3 2 (some (.object "java/lang/Object"))) { frames := 0, cells := 0, slots := 0, locals := 0 } [.ref (a 2), .int 0] (hs_Y a z cO pp th) 0 0 0 (fun (_ : Unit) (q : Nat) => q = (a 7)) (fun _ _ => hs_Y a z cO pp th) (fun _ => hs_t cO) := by
  refine hs_Kr_of (by decide) (Nat.le_of_ble_eq_true rfl) ?_
  intro p e s m args below meth c ls A hAe C0 hKT hp hl
  obtain ⟨hx, hb, hr9, hml, hown, hts, hK, hlk, hA, hN, hnm9⟩ := id C0
  have hl : lv_has ls 2 [(0, .ref (a 2)), (1, .int 0)] := hl
  refine lv_aload_n hx hb dJx4a65c_elementData_915e3_0 rfl (lv_at hl 0 rfl) ?_
  refine hr_get C0 hp (q0 := 2) (C := RJx4a65c) (T := TJx4a65c) (N := 3) (ci := 0) rfl rfl hr_uJx4a65c 1 (by decide) hw_29 (fun _ h9 => h9) rfl dJx4a65c_elementData_915e3_1 ?_
  refine lv_iload_n hx hb dJx4a65c_elementData_915e3_4 rfl (lv_at hl 1 rfl) ?_
  refine hs_aal C0 hKT 0 rfl hp (q0 := 6) (n := 10) (k' := 0) (r := (a 7)) rfl (by unfold vp_in; decide) (by decide) rfl dJx4a65c_elementData_915e3_5 ?_
  exact hs_aret () C0 hp hp.2.2.1 rfl (Or.inl ⟨_, rfl⟩) ⟨Nat.le_of_ble_eq_true rfl, Nat.le_of_ble_eq_true rfl⟩ dJx4a65c_elementData_915e3_6 rfl hKT
set_option maxHeartbeats 4000000 in
set_option maxRecDepth 100000 in
/-- mast 1 of the list -/
theorem hs_ed_1 (l : Launch) (D : va_G) (a : Nat → Nat) (z : Nat) (cO : ClassId) (pp : Nat → Int32) (th : Int32) : hs_Kr l D z (hs_t cO) yJx4a65c_elementData_915e3 (hr_wm yJx4a65c_elementData_915e3 cJx4a65c_elementData_915e3 2 (some (.object "java/lang/Object"))) { frames := 0, cells := 0, slots := 0, locals := 0 } [.ref (a 2), .int 1] (hs_Y a z cO pp th) 0 0 0 (fun (_ : Unit) (q : Nat) => q = (a 8)) (fun _ _ => hs_Y a z cO pp th) (fun _ => hs_t cO) := by
  refine hs_Kr_of (by decide) (Nat.le_of_ble_eq_true rfl) ?_
  intro p e s m args below meth c ls A hAe C0 hKT hp hl
  obtain ⟨hx, hb, hr9, hml, hown, hts, hK, hlk, hA, hN, hnm9⟩ := id C0
  have hl : lv_has ls 2 [(0, .ref (a 2)), (1, .int 1)] := hl
  refine lv_aload_n hx hb dJx4a65c_elementData_915e3_0 rfl (lv_at hl 0 rfl) ?_
  refine hr_get C0 hp (q0 := 2) (C := RJx4a65c) (T := TJx4a65c) (N := 3) (ci := 0) rfl rfl hr_uJx4a65c 1 (by decide) hw_29 (fun _ h9 => h9) rfl dJx4a65c_elementData_915e3_1 ?_
  refine lv_iload_n hx hb dJx4a65c_elementData_915e3_4 rfl (lv_at hl 1 rfl) ?_
  refine hs_aal C0 hKT 0 rfl hp (q0 := 6) (n := 10) (k' := 1) (r := (a 8)) rfl (by unfold vp_in; decide) (by decide) rfl dJx4a65c_elementData_915e3_5 ?_
  exact hs_aret () C0 hp hp.2.2.1 rfl (Or.inl ⟨_, rfl⟩) ⟨Nat.le_of_ble_eq_true rfl, Nat.le_of_ble_eq_true rfl⟩ dJx4a65c_elementData_915e3_6 rfl hKT
set_option maxHeartbeats 4000000 in
set_option maxRecDepth 100000 in
/-- mast 0 of the list -/
theorem hs_get_0 (l : Launch) (D : va_G) (a : Nat → Nat) (z : Nat) (cO : ClassId) (pp : Nat → Int32) (th : Int32) : hs_Kr l D z (hs_t cO) yJx4a65c_get_915e3 (hr_wm yJx4a65c_get_915e3 cJx4a65c_get_915e3 2 (some (.object "java/lang/Object"))) { frames := 2, cells := 0, slots := 0, locals := 43 } [.ref (a 2), .int 0] (hs_Y a z cO pp th) 0 0 0 (fun (_ : Unit) (q : Nat) => q = (a 7)) (fun _ _ => hs_Y a z cO pp th) (fun _ => hs_t cO) := by
  refine hs_Kr_of (by decide) (Nat.le_of_ble_eq_true rfl) ?_
  intro p e s m args below meth c ls A hAe C0 hKT hp hl
  obtain ⟨hx, hb, hr9, hml, hown, hts, hK, hlk, hA, hN, hnm9⟩ := id C0
  have hl : lv_has ls 2 [(0, .ref (a 2)), (1, .int 0)] := hl
  refine lv_iload_n hx hb dJx4a65c_get_915e3_0 rfl (lv_at hl 1 rfl) ?_
  refine lv_aload_n hx hb dJx4a65c_get_915e3_1 rfl (lv_at hl 0 rfl) ?_
  refine hr_get C0 hp (q0 := 2) (C := RJx4a65c) (T := TJx4a65c) (N := 3) (ci := 0) rfl rfl hr_uJx4a65c 2 (by decide) hw_52 (fun _ h9 => h9) rfl dJx4a65c_get_915e3_2 ?_
  refine hs_cTi C0 hKT hp (rest := []) (n := 2) [] (hs_ci15_0 l D z _ (hs_Y a z cO pp th)) rfl hw_56 hw_55 hw_53 hw_54 ⟨rfl, rfl⟩ (by decide +kernel) ⟨Nat.le_of_ble_eq_true rfl, Nat.le_of_ble_eq_true rfl⟩ ⟨Nat.le_of_ble_eq_true rfl, Nat.le_of_ble_eq_true rfl⟩ hl.1 rfl rfl (Nat.le_of_ble_eq_true rfl) dJx4a65c_get_915e3_5 (fun q_5 u_5 H locs hv_5 hz9 hp => ?_)
  subst hv_5
  have hp : hr_H D A s.heap (hs_Y a z cO pp th) H _ := hp
  refine lv_pop hx hb dJx4a65c_get_915e3_8 rfl ?_
  refine lv_aload_n hx hb dJx4a65c_get_915e3_9 rfl (lv_at hl 0 rfl) ?_
  refine lv_iload_n hx hb dJx4a65c_get_915e3_10 rfl (lv_at hl 1 rfl) ?_
  refine hs_cVr C0 hKT hp (q0 := 2) (ci := 0) (Cn := RJx4a65c) (T := TJx4a65c) (N := 3) (rest := []) (n := 1) [] (hs_ed_0 l D a z cO pp th) rfl rfl rfl (hr_gV hw_61 hw_62 hw_63 hw_20 hw_64) ⟨rfl, rfl⟩ (by decide +kernel) ⟨Nat.le_of_ble_eq_true rfl, Nat.le_of_ble_eq_true rfl⟩ ⟨Nat.le_of_ble_eq_true rfl, Nat.le_of_ble_eq_true rfl⟩ hl.1 rfl rfl (Nat.le_of_ble_eq_true rfl) dJx4a65c_get_915e3_11 (fun u_11 q_11 H locs hv_11 hk_11 hz9 hp => ?_)
  subst hv_11
  have hp : hr_H D A s.heap (hs_Y a z cO pp th) H _ := hp
  exact hs_aret () C0 hp hp.2.2.1 rfl (Or.inl ⟨_, rfl⟩) ⟨Nat.le_of_ble_eq_true rfl, Nat.le_of_ble_eq_true rfl⟩ dJx4a65c_get_915e3_14 rfl hKT
set_option maxHeartbeats 4000000 in
set_option maxRecDepth 100000 in
/-- mast 1 of the list -/
theorem hs_get_1 (l : Launch) (D : va_G) (a : Nat → Nat) (z : Nat) (cO : ClassId) (pp : Nat → Int32) (th : Int32) : hs_Kr l D z (hs_t cO) yJx4a65c_get_915e3 (hr_wm yJx4a65c_get_915e3 cJx4a65c_get_915e3 2 (some (.object "java/lang/Object"))) { frames := 2, cells := 0, slots := 0, locals := 43 } [.ref (a 2), .int 1] (hs_Y a z cO pp th) 0 0 0 (fun (_ : Unit) (q : Nat) => q = (a 8)) (fun _ _ => hs_Y a z cO pp th) (fun _ => hs_t cO) := by
  refine hs_Kr_of (by decide) (Nat.le_of_ble_eq_true rfl) ?_
  intro p e s m args below meth c ls A hAe C0 hKT hp hl
  obtain ⟨hx, hb, hr9, hml, hown, hts, hK, hlk, hA, hN, hnm9⟩ := id C0
  have hl : lv_has ls 2 [(0, .ref (a 2)), (1, .int 1)] := hl
  refine lv_iload_n hx hb dJx4a65c_get_915e3_0 rfl (lv_at hl 1 rfl) ?_
  refine lv_aload_n hx hb dJx4a65c_get_915e3_1 rfl (lv_at hl 0 rfl) ?_
  refine hr_get C0 hp (q0 := 2) (C := RJx4a65c) (T := TJx4a65c) (N := 3) (ci := 0) rfl rfl hr_uJx4a65c 2 (by decide) hw_52 (fun _ h9 => h9) rfl dJx4a65c_get_915e3_2 ?_
  refine hs_cTi C0 hKT hp (rest := []) (n := 2) [] (hs_ci15_1 l D z _ (hs_Y a z cO pp th)) rfl hw_56 hw_55 hw_53 hw_54 ⟨rfl, rfl⟩ (by decide +kernel) ⟨Nat.le_of_ble_eq_true rfl, Nat.le_of_ble_eq_true rfl⟩ ⟨Nat.le_of_ble_eq_true rfl, Nat.le_of_ble_eq_true rfl⟩ hl.1 rfl rfl (Nat.le_of_ble_eq_true rfl) dJx4a65c_get_915e3_5 (fun q_5 u_5 H locs hv_5 hz9 hp => ?_)
  subst hv_5
  have hp : hr_H D A s.heap (hs_Y a z cO pp th) H _ := hp
  refine lv_pop hx hb dJx4a65c_get_915e3_8 rfl ?_
  refine lv_aload_n hx hb dJx4a65c_get_915e3_9 rfl (lv_at hl 0 rfl) ?_
  refine lv_iload_n hx hb dJx4a65c_get_915e3_10 rfl (lv_at hl 1 rfl) ?_
  refine hs_cVr C0 hKT hp (q0 := 2) (ci := 0) (Cn := RJx4a65c) (T := TJx4a65c) (N := 3) (rest := []) (n := 1) [] (hs_ed_1 l D a z cO pp th) rfl rfl rfl (hr_gV hw_61 hw_62 hw_63 hw_20 hw_64) ⟨rfl, rfl⟩ (by decide +kernel) ⟨Nat.le_of_ble_eq_true rfl, Nat.le_of_ble_eq_true rfl⟩ ⟨Nat.le_of_ble_eq_true rfl, Nat.le_of_ble_eq_true rfl⟩ hl.1 rfl rfl (Nat.le_of_ble_eq_true rfl) dJx4a65c_get_915e3_11 (fun u_11 q_11 H locs hv_11 hk_11 hz9 hp => ?_)
  subst hv_11
  have hp : hr_H D A s.heap (hs_Y a z cO pp th) H _ := hp
  exact hs_aret () C0 hp hp.2.2.1 rfl (Or.inl ⟨_, rfl⟩) ⟨Nat.le_of_ble_eq_true rfl, Nat.le_of_ble_eq_true rfl⟩ dJx4a65c_get_915e3_14 rfl hKT
set_option maxHeartbeats 4000000 in
set_option maxRecDepth 100000 in
/-- a new iterator of list 2 -/
theorem hs_itr_2 (l : Launch) (D : va_G) (a : Nat → Nat) (z : Nat) (cO : ClassId) (pp : Nat → Int32) (th : Int32) (b : Nat) : hs_Kv l D z (hs_t cO) yJx35411_init_45d68 (hr_wm yJx35411_init_45d68 cJx35411_init_45d68 2 none) { frames := 1, cells := 0, slots := 0, locals := 13 } [.ref b, .ref (a 2)] (hs_Y a z cO pp th ++ [(b, .inr (5, [.int 0, .int 0, .int 0, .null]))]) 0 0 0 (fun (_ : Unit) => True) (fun _ => (hs_Y a z cO pp th ++ [(b, .inr (5, [.int 0, .int (-1), .int 2, .ref (a 2)]))])) := by
  refine hs_Kv_of (by decide) (Nat.le_of_ble_eq_true rfl) ?_
  intro p e s m args below meth c ls A hAe C0 hKT hp hl
  obtain ⟨hx, hb, hr9, hml, hown, hts, hK, hlk, hA, hN, hnm9⟩ := id C0
  have hl : lv_has ls 2 [(0, .ref b), (1, .ref (a 2))] := hl
  refine lv_aload_n hx hb dJx35411_init_45d68_0 rfl (lv_at hl 0 rfl) ?_
  refine lv_aload_n hx hb dJx35411_init_45d68_1 rfl (lv_at hl 1 rfl) ?_
  refine hr_putF C0 hp (q0 := 9) (C := RJx35411) (T := TJx35411) (N := 4) (ci := 5) (ty0 := tyJx35411) (ty := (.object "java/util/ArrayList")) (Y' := (hs_Y a z cO pp th ++ [(b, .inr (5, [.int 0, .int 0, .int 0, .ref (a 2)]))])) rfl rfl hr_uJx35411 tyJx35411_ok nmJx35411 3 (by decide) hw_75 (fun _ h9 => h9) rfl rfl rfl (by decide +kernel) rfl rfl (Nat.le_of_ble_eq_true rfl) rfl dJx35411_init_45d68_2 (fun H locs hp => ?_)
  refine lv_aload_n hx hb dJx35411_init_45d68_5 rfl (lv_at hl 0 rfl) ?_
  refine hr_obj C0 hw_76 hw_2 hw_3 hl.1 dJx35411_init_45d68_6 (Nat.le_of_ble_eq_true rfl) (Nat.le_of_ble_eq_true rfl) ?_
  refine lv_aload_n hx hb dJx35411_init_45d68_9 rfl (lv_at hl 0 rfl) ?_
  refine lv_iconst (v := (-1)) hx hb dJx35411_init_45d68_10 (by decide) ?_
  refine hr_put C0 hp (q0 := 9) (C := RJx35411) (T := TJx35411) (N := 4) (ci := 5) (ty0 := tyJx35411) (ty := .int) (Y' := (hs_Y a z cO pp th ++ [(b, .inr (5, [.int 0, .int (-1), .int 0, .ref (a 2)]))])) rfl rfl hr_uJx35411 tyJx35411_ok nmJx35411 1 (by decide) hw_77 (fun _ h9 => h9) rfl (by decide +kernel) rfl rfl (Nat.le_of_ble_eq_true rfl) rfl dJx35411_init_45d68_11 (fun H locs hp => ?_)
  refine lv_aload_n hx hb dJx35411_init_45d68_14 rfl (lv_at hl 0 rfl) ?_
  refine lv_aload_n hx hb dJx35411_init_45d68_15 rfl (lv_at hl 0 rfl) ?_
  refine hr_get C0 hp (q0 := 9) (C := RJx35411) (T := TJx35411) (N := 4) (ci := 5) rfl rfl hr_uJx35411 3 (by decide) hw_75 (fun _ h9 => h9) rfl dJx35411_init_45d68_16 ?_
  refine hr_get C0 hp (q0 := 2) (C := RJx4a65c) (T := TJx4a65c) (N := 3) (ci := 0) rfl rfl hr_uJx4a65c 0 (by decide) hw_78 (u_same (hts _ hw_79)) rfl dJx35411_init_45d68_19 ?_
  refine hr_put C0 hp (q0 := 9) (C := RJx35411) (T := TJx35411) (N := 4) (ci := 5) (ty0 := tyJx35411) (ty := .int) (Y' := (hs_Y a z cO pp th ++ [(b, .inr (5, [.int 0, .int (-1), .int 2, .ref (a 2)]))])) rfl rfl hr_uJx35411 tyJx35411_ok nmJx35411 2 (by decide) hw_80 (fun _ h9 => h9) rfl (by decide +kernel) rfl rfl (Nat.le_of_ble_eq_true rfl) rfl dJx35411_init_45d68_22 (fun H locs hp => ?_)
  exact hs_vret () C0 hp hp.2.2.1 rfl ⟨Nat.le_of_ble_eq_true rfl, Nat.le_of_ble_eq_true rfl⟩ dJx35411_init_45d68_25 trivial
set_option maxHeartbeats 4000000 in
set_option maxRecDepth 100000 in
/-- iterator() of list 2 -/
theorem hs_iter_2 (l : Launch) (D : va_G) (a : Nat → Nat) (z : Nat) (cO : ClassId) (pp : Nat → Int32) (th : Int32) : hs_Kr l D z (hs_t cO) yJx4a65c_iterator_32c93 (hr_wm yJx4a65c_iterator_32c93 cJx4a65c_iterator_32c93 1 (some (.object "java/util/Iterator"))) { frames := 2, cells := 1, slots := 4, locals := 34 } [.ref (a 2)] (hs_Y a z cO pp th) 1 1 4 (fun (_ : Unit) (_ : Nat) => True) (fun _ q9 => (hs_Y a z cO pp th ++ [(q9, .inr (5, [.int 0, .int (-1), .int 2, .ref (a 2)]))])) (fun _ => hs_t cO) := by
  refine hs_Kr_of (by decide) (Nat.le_of_ble_eq_true rfl) ?_
  intro p e s m args below meth c ls A hAe C0 hKT hp hl
  obtain ⟨hx, hb, hr9, hml, hown, hts, hK, hlk, hA, hN, hnm9⟩ := id C0
  have hl : lv_has ls 1 [(0, .ref (a 2))] := hl
  refine hr_new C0 hp (ci := 5) (fs := [.int 0, .int 0, .int 0, .null]) (C := RJx35411) (T := TJx35411) (N := 4) (ty0 := tyJx35411) rfl hr_uJx35411 tyJx35411_ok hw_69 hw_70 hw_71 (fun j hj => by rcases (show j = 0 ∨ j = 1 ∨ j = 2 ∨ j = 3 by omega) with rfl | rfl | rfl | rfl <;> rfl) (Nat.le_of_ble_eq_true rfl) (Nat.le_of_ble_eq_true rfl) dJx4a65c_iterator_32c93_0 (fun q_0 H hp => ?_)
  have hp : hr_H D A s.heap (hs_Y a z cO pp th ++ [(q_0, .inr (5, [.int 0, .int 0, .int 0, .null]))]) H _ := hp
  refine W.widen (k := 1) (n := 4) (by decide) (by decide) ?_
  refine lv_dup hx hb dJx4a65c_iterator_32c93_3 rfl ?_
  refine lv_aload_n hx hb dJx4a65c_iterator_32c93_4 rfl (lv_at hl 0 rfl) ?_
  refine hs_cIv C0 hKT hp (rest := [.ref q_0]) (n := 1) [] (hs_itr_2 l D a z cO pp th q_0) rfl hw_74 hw_71 hw_72 hw_73 rfl ⟨rfl, rfl⟩ (by decide +kernel) ⟨Nat.le_of_ble_eq_true rfl, Nat.le_of_ble_eq_true rfl⟩ ⟨Nat.le_of_ble_eq_true rfl, Nat.le_of_ble_eq_true rfl⟩ hl.1 rfl rfl (Nat.le_of_ble_eq_true rfl) dJx4a65c_iterator_32c93_5 (fun u_5 H locs hv_5 hz9 hp => ?_)
  have hp : hr_H D A s.heap (hs_Y a z cO pp th ++ [(q_0, .inr (5, [.int 0, .int (-1), .int 2, .ref (a 2)]))]) H _ := hp
  exact hs_aret () C0 hp (hs_fresh hAe hp) rfl (Or.inl ⟨_, rfl⟩) ⟨Nat.le_of_ble_eq_true rfl, Nat.le_of_ble_eq_true rfl⟩ dJx4a65c_iterator_32c93_8 trivial hKT
set_option maxHeartbeats 4000000 in
set_option maxRecDepth 100000 in
/-- a new iterator of list 3 -/
theorem hs_itr_3 (l : Launch) (D : va_G) (a : Nat → Nat) (z : Nat) (cO : ClassId) (pp : Nat → Int32) (th : Int32) (b : Nat) : hs_Kv l D z (hs_t cO) yJx35411_init_45d68 (hr_wm yJx35411_init_45d68 cJx35411_init_45d68 2 none) { frames := 1, cells := 0, slots := 0, locals := 13 } [.ref b, .ref (a 3)] (hs_Y a z cO pp th ++ [(b, .inr (5, [.int 0, .int 0, .int 0, .null]))]) 0 0 0 (fun (_ : Unit) => True) (fun _ => (hs_Y a z cO pp th ++ [(b, .inr (5, [.int 0, .int (-1), .int 0, .ref (a 3)]))])) := by
  refine hs_Kv_of (by decide) (Nat.le_of_ble_eq_true rfl) ?_
  intro p e s m args below meth c ls A hAe C0 hKT hp hl
  obtain ⟨hx, hb, hr9, hml, hown, hts, hK, hlk, hA, hN, hnm9⟩ := id C0
  have hl : lv_has ls 2 [(0, .ref b), (1, .ref (a 3))] := hl
  refine lv_aload_n hx hb dJx35411_init_45d68_0 rfl (lv_at hl 0 rfl) ?_
  refine lv_aload_n hx hb dJx35411_init_45d68_1 rfl (lv_at hl 1 rfl) ?_
  refine hr_putF C0 hp (q0 := 9) (C := RJx35411) (T := TJx35411) (N := 4) (ci := 5) (ty0 := tyJx35411) (ty := (.object "java/util/ArrayList")) (Y' := (hs_Y a z cO pp th ++ [(b, .inr (5, [.int 0, .int 0, .int 0, .ref (a 3)]))])) rfl rfl hr_uJx35411 tyJx35411_ok nmJx35411 3 (by decide) hw_75 (fun _ h9 => h9) rfl rfl rfl (by decide +kernel) rfl rfl (Nat.le_of_ble_eq_true rfl) rfl dJx35411_init_45d68_2 (fun H locs hp => ?_)
  refine lv_aload_n hx hb dJx35411_init_45d68_5 rfl (lv_at hl 0 rfl) ?_
  refine hr_obj C0 hw_76 hw_2 hw_3 hl.1 dJx35411_init_45d68_6 (Nat.le_of_ble_eq_true rfl) (Nat.le_of_ble_eq_true rfl) ?_
  refine lv_aload_n hx hb dJx35411_init_45d68_9 rfl (lv_at hl 0 rfl) ?_
  refine lv_iconst (v := (-1)) hx hb dJx35411_init_45d68_10 (by decide) ?_
  refine hr_put C0 hp (q0 := 9) (C := RJx35411) (T := TJx35411) (N := 4) (ci := 5) (ty0 := tyJx35411) (ty := .int) (Y' := (hs_Y a z cO pp th ++ [(b, .inr (5, [.int 0, .int (-1), .int 0, .ref (a 3)]))])) rfl rfl hr_uJx35411 tyJx35411_ok nmJx35411 1 (by decide) hw_77 (fun _ h9 => h9) rfl (by decide +kernel) rfl rfl (Nat.le_of_ble_eq_true rfl) rfl dJx35411_init_45d68_11 (fun H locs hp => ?_)
  refine lv_aload_n hx hb dJx35411_init_45d68_14 rfl (lv_at hl 0 rfl) ?_
  refine lv_aload_n hx hb dJx35411_init_45d68_15 rfl (lv_at hl 0 rfl) ?_
  refine hr_get C0 hp (q0 := 9) (C := RJx35411) (T := TJx35411) (N := 4) (ci := 5) rfl rfl hr_uJx35411 3 (by decide) hw_75 (fun _ h9 => h9) rfl dJx35411_init_45d68_16 ?_
  refine hr_get C0 hp (q0 := 3) (C := RJx4a65c) (T := TJx4a65c) (N := 3) (ci := 0) rfl rfl hr_uJx4a65c 0 (by decide) hw_78 (u_same (hts _ hw_79)) rfl dJx35411_init_45d68_19 ?_
  refine hr_put C0 hp (q0 := 9) (C := RJx35411) (T := TJx35411) (N := 4) (ci := 5) (ty0 := tyJx35411) (ty := .int) (Y' := (hs_Y a z cO pp th ++ [(b, .inr (5, [.int 0, .int (-1), .int 0, .ref (a 3)]))])) rfl rfl hr_uJx35411 tyJx35411_ok nmJx35411 2 (by decide) hw_80 (fun _ h9 => h9) rfl (by decide +kernel) rfl rfl (Nat.le_of_ble_eq_true rfl) rfl dJx35411_init_45d68_22 (fun H locs hp => ?_)
  exact hs_vret () C0 hp hp.2.2.1 rfl ⟨Nat.le_of_ble_eq_true rfl, Nat.le_of_ble_eq_true rfl⟩ dJx35411_init_45d68_25 trivial
set_option maxHeartbeats 4000000 in
set_option maxRecDepth 100000 in
/-- iterator() of list 3 -/
theorem hs_iter_3 (l : Launch) (D : va_G) (a : Nat → Nat) (z : Nat) (cO : ClassId) (pp : Nat → Int32) (th : Int32) : hs_Kr l D z (hs_t cO) yJx4a65c_iterator_32c93 (hr_wm yJx4a65c_iterator_32c93 cJx4a65c_iterator_32c93 1 (some (.object "java/util/Iterator"))) { frames := 2, cells := 1, slots := 4, locals := 34 } [.ref (a 3)] (hs_Y a z cO pp th) 1 1 4 (fun (_ : Unit) (_ : Nat) => True) (fun _ q9 => (hs_Y a z cO pp th ++ [(q9, .inr (5, [.int 0, .int (-1), .int 0, .ref (a 3)]))])) (fun _ => hs_t cO) := by
  refine hs_Kr_of (by decide) (Nat.le_of_ble_eq_true rfl) ?_
  intro p e s m args below meth c ls A hAe C0 hKT hp hl
  obtain ⟨hx, hb, hr9, hml, hown, hts, hK, hlk, hA, hN, hnm9⟩ := id C0
  have hl : lv_has ls 1 [(0, .ref (a 3))] := hl
  refine hr_new C0 hp (ci := 5) (fs := [.int 0, .int 0, .int 0, .null]) (C := RJx35411) (T := TJx35411) (N := 4) (ty0 := tyJx35411) rfl hr_uJx35411 tyJx35411_ok hw_69 hw_70 hw_71 (fun j hj => by rcases (show j = 0 ∨ j = 1 ∨ j = 2 ∨ j = 3 by omega) with rfl | rfl | rfl | rfl <;> rfl) (Nat.le_of_ble_eq_true rfl) (Nat.le_of_ble_eq_true rfl) dJx4a65c_iterator_32c93_0 (fun q_0 H hp => ?_)
  have hp : hr_H D A s.heap (hs_Y a z cO pp th ++ [(q_0, .inr (5, [.int 0, .int 0, .int 0, .null]))]) H _ := hp
  refine W.widen (k := 1) (n := 4) (by decide) (by decide) ?_
  refine lv_dup hx hb dJx4a65c_iterator_32c93_3 rfl ?_
  refine lv_aload_n hx hb dJx4a65c_iterator_32c93_4 rfl (lv_at hl 0 rfl) ?_
  refine hs_cIv C0 hKT hp (rest := [.ref q_0]) (n := 1) [] (hs_itr_3 l D a z cO pp th q_0) rfl hw_74 hw_71 hw_72 hw_73 rfl ⟨rfl, rfl⟩ (by decide +kernel) ⟨Nat.le_of_ble_eq_true rfl, Nat.le_of_ble_eq_true rfl⟩ ⟨Nat.le_of_ble_eq_true rfl, Nat.le_of_ble_eq_true rfl⟩ hl.1 rfl rfl (Nat.le_of_ble_eq_true rfl) dJx4a65c_iterator_32c93_5 (fun u_5 H locs hv_5 hz9 hp => ?_)
  have hp : hr_H D A s.heap (hs_Y a z cO pp th ++ [(q_0, .inr (5, [.int 0, .int (-1), .int 0, .ref (a 3)]))]) H _ := hp
  exact hs_aret () C0 hp (hs_fresh hAe hp) rfl (Or.inl ⟨_, rfl⟩) ⟨Nat.le_of_ble_eq_true rfl, Nat.le_of_ble_eq_true rfl⟩ dJx4a65c_iterator_32c93_8 trivial hKT
set_option maxHeartbeats 4000000 in
set_option maxRecDepth 100000 in
/-- a new iterator of list 4 -/
theorem hs_itr_4 (l : Launch) (D : va_G) (a : Nat → Nat) (z : Nat) (cO : ClassId) (pp : Nat → Int32) (th : Int32) (b : Nat) : hs_Kv l D z (hs_t cO) yJx35411_init_45d68 (hr_wm yJx35411_init_45d68 cJx35411_init_45d68 2 none) { frames := 1, cells := 0, slots := 0, locals := 13 } [.ref b, .ref (a 4)] (hs_Y a z cO pp th ++ [(b, .inr (5, [.int 0, .int 0, .int 0, .null]))]) 0 0 0 (fun (_ : Unit) => True) (fun _ => (hs_Y a z cO pp th ++ [(b, .inr (5, [.int 0, .int (-1), .int 0, .ref (a 4)]))])) := by
  refine hs_Kv_of (by decide) (Nat.le_of_ble_eq_true rfl) ?_
  intro p e s m args below meth c ls A hAe C0 hKT hp hl
  obtain ⟨hx, hb, hr9, hml, hown, hts, hK, hlk, hA, hN, hnm9⟩ := id C0
  have hl : lv_has ls 2 [(0, .ref b), (1, .ref (a 4))] := hl
  refine lv_aload_n hx hb dJx35411_init_45d68_0 rfl (lv_at hl 0 rfl) ?_
  refine lv_aload_n hx hb dJx35411_init_45d68_1 rfl (lv_at hl 1 rfl) ?_
  refine hr_putF C0 hp (q0 := 9) (C := RJx35411) (T := TJx35411) (N := 4) (ci := 5) (ty0 := tyJx35411) (ty := (.object "java/util/ArrayList")) (Y' := (hs_Y a z cO pp th ++ [(b, .inr (5, [.int 0, .int 0, .int 0, .ref (a 4)]))])) rfl rfl hr_uJx35411 tyJx35411_ok nmJx35411 3 (by decide) hw_75 (fun _ h9 => h9) rfl rfl rfl (by decide +kernel) rfl rfl (Nat.le_of_ble_eq_true rfl) rfl dJx35411_init_45d68_2 (fun H locs hp => ?_)
  refine lv_aload_n hx hb dJx35411_init_45d68_5 rfl (lv_at hl 0 rfl) ?_
  refine hr_obj C0 hw_76 hw_2 hw_3 hl.1 dJx35411_init_45d68_6 (Nat.le_of_ble_eq_true rfl) (Nat.le_of_ble_eq_true rfl) ?_
  refine lv_aload_n hx hb dJx35411_init_45d68_9 rfl (lv_at hl 0 rfl) ?_
  refine lv_iconst (v := (-1)) hx hb dJx35411_init_45d68_10 (by decide) ?_
  refine hr_put C0 hp (q0 := 9) (C := RJx35411) (T := TJx35411) (N := 4) (ci := 5) (ty0 := tyJx35411) (ty := .int) (Y' := (hs_Y a z cO pp th ++ [(b, .inr (5, [.int 0, .int (-1), .int 0, .ref (a 4)]))])) rfl rfl hr_uJx35411 tyJx35411_ok nmJx35411 1 (by decide) hw_77 (fun _ h9 => h9) rfl (by decide +kernel) rfl rfl (Nat.le_of_ble_eq_true rfl) rfl dJx35411_init_45d68_11 (fun H locs hp => ?_)
  refine lv_aload_n hx hb dJx35411_init_45d68_14 rfl (lv_at hl 0 rfl) ?_
  refine lv_aload_n hx hb dJx35411_init_45d68_15 rfl (lv_at hl 0 rfl) ?_
  refine hr_get C0 hp (q0 := 9) (C := RJx35411) (T := TJx35411) (N := 4) (ci := 5) rfl rfl hr_uJx35411 3 (by decide) hw_75 (fun _ h9 => h9) rfl dJx35411_init_45d68_16 ?_
  refine hr_get C0 hp (q0 := 4) (C := RJx4a65c) (T := TJx4a65c) (N := 3) (ci := 0) rfl rfl hr_uJx4a65c 0 (by decide) hw_78 (u_same (hts _ hw_79)) rfl dJx35411_init_45d68_19 ?_
  refine hr_put C0 hp (q0 := 9) (C := RJx35411) (T := TJx35411) (N := 4) (ci := 5) (ty0 := tyJx35411) (ty := .int) (Y' := (hs_Y a z cO pp th ++ [(b, .inr (5, [.int 0, .int (-1), .int 0, .ref (a 4)]))])) rfl rfl hr_uJx35411 tyJx35411_ok nmJx35411 2 (by decide) hw_80 (fun _ h9 => h9) rfl (by decide +kernel) rfl rfl (Nat.le_of_ble_eq_true rfl) rfl dJx35411_init_45d68_22 (fun H locs hp => ?_)
  exact hs_vret () C0 hp hp.2.2.1 rfl ⟨Nat.le_of_ble_eq_true rfl, Nat.le_of_ble_eq_true rfl⟩ dJx35411_init_45d68_25 trivial
set_option maxHeartbeats 4000000 in
set_option maxRecDepth 100000 in
/-- iterator() of list 4 -/
theorem hs_iter_4 (l : Launch) (D : va_G) (a : Nat → Nat) (z : Nat) (cO : ClassId) (pp : Nat → Int32) (th : Int32) : hs_Kr l D z (hs_t cO) yJx4a65c_iterator_32c93 (hr_wm yJx4a65c_iterator_32c93 cJx4a65c_iterator_32c93 1 (some (.object "java/util/Iterator"))) { frames := 2, cells := 1, slots := 4, locals := 34 } [.ref (a 4)] (hs_Y a z cO pp th) 1 1 4 (fun (_ : Unit) (_ : Nat) => True) (fun _ q9 => (hs_Y a z cO pp th ++ [(q9, .inr (5, [.int 0, .int (-1), .int 0, .ref (a 4)]))])) (fun _ => hs_t cO) := by
  refine hs_Kr_of (by decide) (Nat.le_of_ble_eq_true rfl) ?_
  intro p e s m args below meth c ls A hAe C0 hKT hp hl
  obtain ⟨hx, hb, hr9, hml, hown, hts, hK, hlk, hA, hN, hnm9⟩ := id C0
  have hl : lv_has ls 1 [(0, .ref (a 4))] := hl
  refine hr_new C0 hp (ci := 5) (fs := [.int 0, .int 0, .int 0, .null]) (C := RJx35411) (T := TJx35411) (N := 4) (ty0 := tyJx35411) rfl hr_uJx35411 tyJx35411_ok hw_69 hw_70 hw_71 (fun j hj => by rcases (show j = 0 ∨ j = 1 ∨ j = 2 ∨ j = 3 by omega) with rfl | rfl | rfl | rfl <;> rfl) (Nat.le_of_ble_eq_true rfl) (Nat.le_of_ble_eq_true rfl) dJx4a65c_iterator_32c93_0 (fun q_0 H hp => ?_)
  have hp : hr_H D A s.heap (hs_Y a z cO pp th ++ [(q_0, .inr (5, [.int 0, .int 0, .int 0, .null]))]) H _ := hp
  refine W.widen (k := 1) (n := 4) (by decide) (by decide) ?_
  refine lv_dup hx hb dJx4a65c_iterator_32c93_3 rfl ?_
  refine lv_aload_n hx hb dJx4a65c_iterator_32c93_4 rfl (lv_at hl 0 rfl) ?_
  refine hs_cIv C0 hKT hp (rest := [.ref q_0]) (n := 1) [] (hs_itr_4 l D a z cO pp th q_0) rfl hw_74 hw_71 hw_72 hw_73 rfl ⟨rfl, rfl⟩ (by decide +kernel) ⟨Nat.le_of_ble_eq_true rfl, Nat.le_of_ble_eq_true rfl⟩ ⟨Nat.le_of_ble_eq_true rfl, Nat.le_of_ble_eq_true rfl⟩ hl.1 rfl rfl (Nat.le_of_ble_eq_true rfl) dJx4a65c_iterator_32c93_5 (fun u_5 H locs hv_5 hz9 hp => ?_)
  have hp : hr_H D A s.heap (hs_Y a z cO pp th ++ [(q_0, .inr (5, [.int 0, .int (-1), .int 0, .ref (a 4)]))]) H _ := hp
  exact hs_aret () C0 hp (hs_fresh hAe hp) rfl (Or.inl ⟨_, rfl⟩) ⟨Nat.le_of_ble_eq_true rfl, Nat.le_of_ble_eq_true rfl⟩ dJx4a65c_iterator_32c93_8 trivial hKT
set_option maxHeartbeats 4000000 in
set_option maxRecDepth 100000 in
/-- hasNext() over list 3 at 0 -/
theorem hs_has_3_0 (l : Launch) (D : va_G) (a : Nat → Nat) (z : Nat) (cO : ClassId) (pp : Nat → Int32) (th : Int32) (b : Nat) : hs_Ki l D z (hs_t cO) yJx35411_hasNext_aae02 (hr_wm yJx35411_hasNext_aae02 cJx35411_hasNext_aae02 1 (some .boolean)) { frames := 0, cells := 0, slots := 0, locals := 0 } [.ref b] (hs_Y a z cO pp th ++ [(b, .inr (5, [.int 0, .int (-1), .int 0, .ref (a 3)]))]) 0 0 0 (fun (q : Int32) (_ : Unit) => q = 0) (fun _ => (hs_Y a z cO pp th ++ [(b, .inr (5, [.int 0, .int (-1), .int 0, .ref (a 3)]))])) := by
  refine hs_Ki_of (by decide) (Nat.le_of_ble_eq_true rfl) ?_
  intro p e s m args below meth c ls A hAe C0 hKT hp hl
  obtain ⟨hx, hb, hr9, hml, hown, hts, hK, hlk, hA, hN, hnm9⟩ := id C0
  have hl : lv_has ls 1 [(0, .ref b)] := hl
  refine lv_aload_n hx hb dJx35411_hasNext_aae02_0 rfl (lv_at hl 0 rfl) ?_
  refine hr_get C0 hp (q0 := 9) (C := RJx35411) (T := TJx35411) (N := 4) (ci := 5) rfl rfl hr_uJx35411 0 (by decide) hw_85 (fun _ h9 => h9) rfl dJx35411_hasNext_aae02_1 ?_
  refine lv_aload_n hx hb dJx35411_hasNext_aae02_4 rfl (lv_at hl 0 rfl) ?_
  refine hr_get C0 hp (q0 := 9) (C := RJx35411) (T := TJx35411) (N := 4) (ci := 5) rfl rfl hr_uJx35411 3 (by decide) hw_75 (fun _ h9 => h9) rfl dJx35411_hasNext_aae02_5 ?_
  refine va_getN (D := D) (cl := hr_cl) (ws := (hs_Y a z cO pp th ++ [(b, .inr (5, [.int 0, .int (-1), .int 0, .ref (a 3)]))])) (ci := 0) (C := RJx4a65c) (T := TJx4a65c) (N := 3) hx hb hts hr_uJx4a65c hown hK hp.1 3 rfl rfl 2 (by decide) (va_Nw.use rfl hN.1.2.2.1) (fun _ h9 => h9) rfl dJx35411_hasNext_aae02_8 ?_
  refine lv_icmp_eq (tgt := 18) hx hb dJx35411_hasNext_aae02_11 (by decide) (fun _ => ?_) (fun c9 => absurd c9 (by decide))
  refine lv_iconst (v := 0) hx hb dJx35411_hasNext_aae02_18 (by decide) ?_
  exact hs_zret () C0 hp hp.2.2.1 rfl (by decide) ⟨Nat.le_of_ble_eq_true rfl, Nat.le_of_ble_eq_true rfl⟩ dJx35411_hasNext_aae02_19 rfl
set_option maxHeartbeats 4000000 in
set_option maxRecDepth 100000 in
/-- hasNext() over list 4 at 0 -/
theorem hs_has_4_0 (l : Launch) (D : va_G) (a : Nat → Nat) (z : Nat) (cO : ClassId) (pp : Nat → Int32) (th : Int32) (b : Nat) : hs_Ki l D z (hs_t cO) yJx35411_hasNext_aae02 (hr_wm yJx35411_hasNext_aae02 cJx35411_hasNext_aae02 1 (some .boolean)) { frames := 0, cells := 0, slots := 0, locals := 0 } [.ref b] (hs_Y a z cO pp th ++ [(b, .inr (5, [.int 0, .int (-1), .int 0, .ref (a 4)]))]) 0 0 0 (fun (q : Int32) (_ : Unit) => q = 0) (fun _ => (hs_Y a z cO pp th ++ [(b, .inr (5, [.int 0, .int (-1), .int 0, .ref (a 4)]))])) := by
  refine hs_Ki_of (by decide) (Nat.le_of_ble_eq_true rfl) ?_
  intro p e s m args below meth c ls A hAe C0 hKT hp hl
  obtain ⟨hx, hb, hr9, hml, hown, hts, hK, hlk, hA, hN, hnm9⟩ := id C0
  have hl : lv_has ls 1 [(0, .ref b)] := hl
  refine lv_aload_n hx hb dJx35411_hasNext_aae02_0 rfl (lv_at hl 0 rfl) ?_
  refine hr_get C0 hp (q0 := 9) (C := RJx35411) (T := TJx35411) (N := 4) (ci := 5) rfl rfl hr_uJx35411 0 (by decide) hw_85 (fun _ h9 => h9) rfl dJx35411_hasNext_aae02_1 ?_
  refine lv_aload_n hx hb dJx35411_hasNext_aae02_4 rfl (lv_at hl 0 rfl) ?_
  refine hr_get C0 hp (q0 := 9) (C := RJx35411) (T := TJx35411) (N := 4) (ci := 5) rfl rfl hr_uJx35411 3 (by decide) hw_75 (fun _ h9 => h9) rfl dJx35411_hasNext_aae02_5 ?_
  refine va_getN (D := D) (cl := hr_cl) (ws := (hs_Y a z cO pp th ++ [(b, .inr (5, [.int 0, .int (-1), .int 0, .ref (a 4)]))])) (ci := 0) (C := RJx4a65c) (T := TJx4a65c) (N := 3) hx hb hts hr_uJx4a65c hown hK hp.1 4 rfl rfl 2 (by decide) (va_Nw.use rfl hN.1.2.2.1) (fun _ h9 => h9) rfl dJx35411_hasNext_aae02_8 ?_
  refine lv_icmp_eq (tgt := 18) hx hb dJx35411_hasNext_aae02_11 (by decide) (fun _ => ?_) (fun c9 => absurd c9 (by decide))
  refine lv_iconst (v := 0) hx hb dJx35411_hasNext_aae02_18 (by decide) ?_
  exact hs_zret () C0 hp hp.2.2.1 rfl (by decide) ⟨Nat.le_of_ble_eq_true rfl, Nat.le_of_ble_eq_true rfl⟩ dJx35411_hasNext_aae02_19 rfl
set_option maxHeartbeats 4000000 in
set_option maxRecDepth 100000 in
/-- hasNext() over list 2 at 0 -/
theorem hs_has_2_0 (l : Launch) (D : va_G) (a : Nat → Nat) (z : Nat) (cO : ClassId) (pp : Nat → Int32) (th : Int32) (b : Nat) : hs_Ki l D z (hs_t cO) yJx35411_hasNext_aae02 (hr_wm yJx35411_hasNext_aae02 cJx35411_hasNext_aae02 1 (some .boolean)) { frames := 0, cells := 0, slots := 0, locals := 0 } [.ref b] (hs_Y a z cO pp th ++ [(b, .inr (5, [.int 0, .int (-1), .int 2, .ref (a 2)]))]) 0 0 0 (fun (q : Int32) (_ : Unit) => q = 1) (fun _ => (hs_Y a z cO pp th ++ [(b, .inr (5, [.int 0, .int (-1), .int 2, .ref (a 2)]))])) := by
  refine hs_Ki_of (by decide) (Nat.le_of_ble_eq_true rfl) ?_
  intro p e s m args below meth c ls A hAe C0 hKT hp hl
  obtain ⟨hx, hb, hr9, hml, hown, hts, hK, hlk, hA, hN, hnm9⟩ := id C0
  have hl : lv_has ls 1 [(0, .ref b)] := hl
  refine lv_aload_n hx hb dJx35411_hasNext_aae02_0 rfl (lv_at hl 0 rfl) ?_
  refine hr_get C0 hp (q0 := 9) (C := RJx35411) (T := TJx35411) (N := 4) (ci := 5) rfl rfl hr_uJx35411 0 (by decide) hw_85 (fun _ h9 => h9) rfl dJx35411_hasNext_aae02_1 ?_
  refine lv_aload_n hx hb dJx35411_hasNext_aae02_4 rfl (lv_at hl 0 rfl) ?_
  refine hr_get C0 hp (q0 := 9) (C := RJx35411) (T := TJx35411) (N := 4) (ci := 5) rfl rfl hr_uJx35411 3 (by decide) hw_75 (fun _ h9 => h9) rfl dJx35411_hasNext_aae02_5 ?_
  refine va_getN (D := D) (cl := hr_cl) (ws := (hs_Y a z cO pp th ++ [(b, .inr (5, [.int 0, .int (-1), .int 2, .ref (a 2)]))])) (ci := 0) (C := RJx4a65c) (T := TJx4a65c) (N := 3) hx hb hts hr_uJx4a65c hown hK hp.1 2 rfl rfl 2 (by decide) (va_Nw.use rfl hN.1.2.2.1) (fun _ h9 => h9) rfl dJx35411_hasNext_aae02_8 ?_
  refine lv_icmp_eq (tgt := 18) hx hb dJx35411_hasNext_aae02_11 (by decide) (fun c9 => absurd c9 (by decide)) (fun _ => ?_)
  refine lv_iconst (v := 1) hx hb dJx35411_hasNext_aae02_14 (by decide) ?_
  refine lv_goto (tgt := 19) hx hb dJx35411_hasNext_aae02_15 (by decide) ?_
  exact hs_zret () C0 hp hp.2.2.1 rfl (by decide) ⟨Nat.le_of_ble_eq_true rfl, Nat.le_of_ble_eq_true rfl⟩ dJx35411_hasNext_aae02_19 rfl
set_option maxHeartbeats 4000000 in
set_option maxRecDepth 100000 in
/-- hasNext() over list 2 at 1 -/
theorem hs_has_2_1 (l : Launch) (D : va_G) (a : Nat → Nat) (z : Nat) (cO : ClassId) (pp : Nat → Int32) (th : Int32) (b : Nat) : hs_Ki l D z (hs_t cO) yJx35411_hasNext_aae02 (hr_wm yJx35411_hasNext_aae02 cJx35411_hasNext_aae02 1 (some .boolean)) { frames := 0, cells := 0, slots := 0, locals := 0 } [.ref b] (hs_Y a z cO pp th ++ [(b, .inr (5, [.int 1, .int 0, .int 2, .ref (a 2)]))]) 0 0 0 (fun (q : Int32) (_ : Unit) => q = 1) (fun _ => (hs_Y a z cO pp th ++ [(b, .inr (5, [.int 1, .int 0, .int 2, .ref (a 2)]))])) := by
  refine hs_Ki_of (by decide) (Nat.le_of_ble_eq_true rfl) ?_
  intro p e s m args below meth c ls A hAe C0 hKT hp hl
  obtain ⟨hx, hb, hr9, hml, hown, hts, hK, hlk, hA, hN, hnm9⟩ := id C0
  have hl : lv_has ls 1 [(0, .ref b)] := hl
  refine lv_aload_n hx hb dJx35411_hasNext_aae02_0 rfl (lv_at hl 0 rfl) ?_
  refine hr_get C0 hp (q0 := 9) (C := RJx35411) (T := TJx35411) (N := 4) (ci := 5) rfl rfl hr_uJx35411 0 (by decide) hw_85 (fun _ h9 => h9) rfl dJx35411_hasNext_aae02_1 ?_
  refine lv_aload_n hx hb dJx35411_hasNext_aae02_4 rfl (lv_at hl 0 rfl) ?_
  refine hr_get C0 hp (q0 := 9) (C := RJx35411) (T := TJx35411) (N := 4) (ci := 5) rfl rfl hr_uJx35411 3 (by decide) hw_75 (fun _ h9 => h9) rfl dJx35411_hasNext_aae02_5 ?_
  refine va_getN (D := D) (cl := hr_cl) (ws := (hs_Y a z cO pp th ++ [(b, .inr (5, [.int 1, .int 0, .int 2, .ref (a 2)]))])) (ci := 0) (C := RJx4a65c) (T := TJx4a65c) (N := 3) hx hb hts hr_uJx4a65c hown hK hp.1 2 rfl rfl 2 (by decide) (va_Nw.use rfl hN.1.2.2.1) (fun _ h9 => h9) rfl dJx35411_hasNext_aae02_8 ?_
  refine lv_icmp_eq (tgt := 18) hx hb dJx35411_hasNext_aae02_11 (by decide) (fun c9 => absurd c9 (by decide)) (fun _ => ?_)
  refine lv_iconst (v := 1) hx hb dJx35411_hasNext_aae02_14 (by decide) ?_
  refine lv_goto (tgt := 19) hx hb dJx35411_hasNext_aae02_15 (by decide) ?_
  exact hs_zret () C0 hp hp.2.2.1 rfl (by decide) ⟨Nat.le_of_ble_eq_true rfl, Nat.le_of_ble_eq_true rfl⟩ dJx35411_hasNext_aae02_19 rfl
set_option maxHeartbeats 4000000 in
set_option maxRecDepth 100000 in
/-- hasNext() over list 2 at 2 -/
theorem hs_has_2_2 (l : Launch) (D : va_G) (a : Nat → Nat) (z : Nat) (cO : ClassId) (pp : Nat → Int32) (th : Int32) (b : Nat) : hs_Ki l D z (hs_t cO) yJx35411_hasNext_aae02 (hr_wm yJx35411_hasNext_aae02 cJx35411_hasNext_aae02 1 (some .boolean)) { frames := 0, cells := 0, slots := 0, locals := 0 } [.ref b] (hs_Y a z cO pp th ++ [(b, .inr (5, [.int 2, .int 1, .int 2, .ref (a 2)]))]) 0 0 0 (fun (q : Int32) (_ : Unit) => q = 0) (fun _ => (hs_Y a z cO pp th ++ [(b, .inr (5, [.int 2, .int 1, .int 2, .ref (a 2)]))])) := by
  refine hs_Ki_of (by decide) (Nat.le_of_ble_eq_true rfl) ?_
  intro p e s m args below meth c ls A hAe C0 hKT hp hl
  obtain ⟨hx, hb, hr9, hml, hown, hts, hK, hlk, hA, hN, hnm9⟩ := id C0
  have hl : lv_has ls 1 [(0, .ref b)] := hl
  refine lv_aload_n hx hb dJx35411_hasNext_aae02_0 rfl (lv_at hl 0 rfl) ?_
  refine hr_get C0 hp (q0 := 9) (C := RJx35411) (T := TJx35411) (N := 4) (ci := 5) rfl rfl hr_uJx35411 0 (by decide) hw_85 (fun _ h9 => h9) rfl dJx35411_hasNext_aae02_1 ?_
  refine lv_aload_n hx hb dJx35411_hasNext_aae02_4 rfl (lv_at hl 0 rfl) ?_
  refine hr_get C0 hp (q0 := 9) (C := RJx35411) (T := TJx35411) (N := 4) (ci := 5) rfl rfl hr_uJx35411 3 (by decide) hw_75 (fun _ h9 => h9) rfl dJx35411_hasNext_aae02_5 ?_
  refine va_getN (D := D) (cl := hr_cl) (ws := (hs_Y a z cO pp th ++ [(b, .inr (5, [.int 2, .int 1, .int 2, .ref (a 2)]))])) (ci := 0) (C := RJx4a65c) (T := TJx4a65c) (N := 3) hx hb hts hr_uJx4a65c hown hK hp.1 2 rfl rfl 2 (by decide) (va_Nw.use rfl hN.1.2.2.1) (fun _ h9 => h9) rfl dJx35411_hasNext_aae02_8 ?_
  refine lv_icmp_eq (tgt := 18) hx hb dJx35411_hasNext_aae02_11 (by decide) (fun _ => ?_) (fun c9 => absurd c9 (by decide))
  refine lv_iconst (v := 0) hx hb dJx35411_hasNext_aae02_18 (by decide) ?_
  exact hs_zret () C0 hp hp.2.2.1 rfl (by decide) ⟨Nat.le_of_ble_eq_true rfl, Nat.le_of_ble_eq_true rfl⟩ dJx35411_hasNext_aae02_19 rfl
set_option maxHeartbeats 4000000 in
set_option maxRecDepth 100000 in
/-- no change meanwhile -/
theorem hs_cfc_0 (l : Launch) (D : va_G) (a : Nat → Nat) (z : Nat) (cO : ClassId) (pp : Nat → Int32) (th : Int32) (b : Nat) : hs_Kv l D z (hs_t cO) yJx35411_checkForComodification_da8c8 (hr_wm yJx35411_checkForComodification_da8c8 cJx35411_checkForComodification_da8c8 1 none) { frames := 0, cells := 0, slots := 0, locals := 0 } [.ref b] (hs_Y a z cO pp th ++ [(b, .inr (5, [.int 0, .int (-1), .int 2, .ref (a 2)]))]) 0 0 0 (fun (_ : Unit) => True) (fun _ => (hs_Y a z cO pp th ++ [(b, .inr (5, [.int 0, .int (-1), .int 2, .ref (a 2)]))])) := by
  refine hs_Kv_of (by decide) (Nat.le_of_ble_eq_true rfl) ?_
  intro p e s m args below meth c ls A hAe C0 hKT hp hl
  obtain ⟨hx, hb, hr9, hml, hown, hts, hK, hlk, hA, hN, hnm9⟩ := id C0
  have hl : lv_has ls 1 [(0, .ref b)] := hl
  refine lv_aload_n hx hb dJx35411_checkForComodification_da8c8_0 rfl (lv_at hl 0 rfl) ?_
  refine hr_get C0 hp (q0 := 9) (C := RJx35411) (T := TJx35411) (N := 4) (ci := 5) rfl rfl hr_uJx35411 3 (by decide) hw_75 (fun _ h9 => h9) rfl dJx35411_checkForComodification_da8c8_1 ?_
  refine hr_get C0 hp (q0 := 2) (C := RJx4a65c) (T := TJx4a65c) (N := 3) (ci := 0) rfl rfl hr_uJx4a65c 0 (by decide) hw_78 (u_same (hts _ hw_79)) rfl dJx35411_checkForComodification_da8c8_4 ?_
  refine lv_aload_n hx hb dJx35411_checkForComodification_da8c8_7 rfl (lv_at hl 0 rfl) ?_
  refine hr_get C0 hp (q0 := 9) (C := RJx35411) (T := TJx35411) (N := 4) (ci := 5) rfl rfl hr_uJx35411 2 (by decide) hw_80 (fun _ h9 => h9) rfl dJx35411_checkForComodification_da8c8_8 ?_
  refine lv_icmp_eq (tgt := 22) hx hb dJx35411_checkForComodification_da8c8_11 (by decide) (fun _ => ?_) (fun c9 => absurd c9 (by decide))
  exact hs_vret () C0 hp hp.2.2.1 rfl ⟨Nat.le_of_ble_eq_true rfl, Nat.le_of_ble_eq_true rfl⟩ dJx35411_checkForComodification_da8c8_22 trivial
set_option maxHeartbeats 4000000 in
set_option maxRecDepth 100000 in
/-- no change meanwhile -/
theorem hs_cfc_1 (l : Launch) (D : va_G) (a : Nat → Nat) (z : Nat) (cO : ClassId) (pp : Nat → Int32) (th : Int32) (b : Nat) : hs_Kv l D z (hs_t cO) yJx35411_checkForComodification_da8c8 (hr_wm yJx35411_checkForComodification_da8c8 cJx35411_checkForComodification_da8c8 1 none) { frames := 0, cells := 0, slots := 0, locals := 0 } [.ref b] (hs_Y a z cO pp th ++ [(b, .inr (5, [.int 1, .int 0, .int 2, .ref (a 2)]))]) 0 0 0 (fun (_ : Unit) => True) (fun _ => (hs_Y a z cO pp th ++ [(b, .inr (5, [.int 1, .int 0, .int 2, .ref (a 2)]))])) := by
  refine hs_Kv_of (by decide) (Nat.le_of_ble_eq_true rfl) ?_
  intro p e s m args below meth c ls A hAe C0 hKT hp hl
  obtain ⟨hx, hb, hr9, hml, hown, hts, hK, hlk, hA, hN, hnm9⟩ := id C0
  have hl : lv_has ls 1 [(0, .ref b)] := hl
  refine lv_aload_n hx hb dJx35411_checkForComodification_da8c8_0 rfl (lv_at hl 0 rfl) ?_
  refine hr_get C0 hp (q0 := 9) (C := RJx35411) (T := TJx35411) (N := 4) (ci := 5) rfl rfl hr_uJx35411 3 (by decide) hw_75 (fun _ h9 => h9) rfl dJx35411_checkForComodification_da8c8_1 ?_
  refine hr_get C0 hp (q0 := 2) (C := RJx4a65c) (T := TJx4a65c) (N := 3) (ci := 0) rfl rfl hr_uJx4a65c 0 (by decide) hw_78 (u_same (hts _ hw_79)) rfl dJx35411_checkForComodification_da8c8_4 ?_
  refine lv_aload_n hx hb dJx35411_checkForComodification_da8c8_7 rfl (lv_at hl 0 rfl) ?_
  refine hr_get C0 hp (q0 := 9) (C := RJx35411) (T := TJx35411) (N := 4) (ci := 5) rfl rfl hr_uJx35411 2 (by decide) hw_80 (fun _ h9 => h9) rfl dJx35411_checkForComodification_da8c8_8 ?_
  refine lv_icmp_eq (tgt := 22) hx hb dJx35411_checkForComodification_da8c8_11 (by decide) (fun _ => ?_) (fun c9 => absurd c9 (by decide))
  exact hs_vret () C0 hp hp.2.2.1 rfl ⟨Nat.le_of_ble_eq_true rfl, Nat.le_of_ble_eq_true rfl⟩ dJx35411_checkForComodification_da8c8_22 trivial
set_option maxHeartbeats 4000000 in
set_option maxRecDepth 100000 in
/-- next() at 0 -/
theorem hs_next_0 (l : Launch) (D : va_G) (a : Nat → Nat) (z : Nat) (cO : ClassId) (pp : Nat → Int32) (th : Int32) (b : Nat) : hs_Kr l D z (hs_t cO) yJx35411_next_0502b (hr_wm yJx35411_next_0502b cJx35411_next_0502b 3 (some (.object "java/lang/Object"))) { frames := 1, cells := 0, slots := 0, locals := 20 } [.ref b] (hs_Y a z cO pp th ++ [(b, .inr (5, [.int 0, .int (-1), .int 2, .ref (a 2)]))]) 0 0 0 (fun (_ : Unit) (q : Nat) => q = (a 7)) (fun _ _ => (hs_Y a z cO pp th ++ [(b, .inr (5, [.int 1, .int 0, .int 2, .ref (a 2)]))])) (fun _ => hs_t cO) := by
  refine hs_Kr_of (by decide) (Nat.le_of_ble_eq_true rfl) ?_
  intro p e s m args below meth c ls A hAe C0 hKT hp hl
  obtain ⟨hx, hb, hr9, hml, hown, hts, hK, hlk, hA, hN, hnm9⟩ := id C0
  have hl : lv_has ls 3 [(0, .ref b)] := hl
  refine lv_aload_n hx hb dJx35411_next_0502b_0 rfl (lv_at hl 0 rfl) ?_
  refine hs_cVv C0 hKT hp (q0 := 9) (ci := 5) (Cn := RJx35411) (T := TJx35411) (N := 4) (rest := []) (n := 0) [] (hs_cfc_0 l D a z cO pp th b) rfl rfl rfl (hr_gV hw_91 hw_92 hw_93 hw_71 hw_94) ⟨rfl, rfl⟩ (by decide +kernel) ⟨Nat.le_of_ble_eq_true rfl, Nat.le_of_ble_eq_true rfl⟩ ⟨Nat.le_of_ble_eq_true rfl, Nat.le_of_ble_eq_true rfl⟩ hl.1 rfl rfl (Nat.le_of_ble_eq_true rfl) dJx35411_next_0502b_1 (fun u_1 H locs hv_1 hz9 hp => ?_)
  have hp : hr_H D A s.heap (hs_Y a z cO pp th ++ [(b, .inr (5, [.int 0, .int (-1), .int 2, .ref (a 2)]))]) H _ := hp
  refine lv_aload_n hx hb dJx35411_next_0502b_4 rfl (lv_at hl 0 rfl) ?_
  refine hr_get C0 hp (q0 := 9) (C := RJx35411) (T := TJx35411) (N := 4) (ci := 5) rfl rfl hr_uJx35411 0 (by decide) hw_85 (fun _ h9 => h9) rfl dJx35411_next_0502b_5 ?_
  refine lv_istore_n (lv' := [(1, .int 0), (0, .ref b)]) hx hb dJx35411_next_0502b_8 rfl hl (by decide) rfl (fun ls hl => ?_)
  refine lv_iload_n hx hb dJx35411_next_0502b_9 rfl (lv_at hl 0 rfl) ?_
  refine lv_aload_n hx hb dJx35411_next_0502b_10 rfl (lv_at hl 1 rfl) ?_
  refine hr_get C0 hp (q0 := 9) (C := RJx35411) (T := TJx35411) (N := 4) (ci := 5) rfl rfl hr_uJx35411 3 (by decide) hw_75 (fun _ h9 => h9) rfl dJx35411_next_0502b_11 ?_
  refine va_getN (D := D) (cl := hr_cl) (ws := (hs_Y a z cO pp th ++ [(b, .inr (5, [.int 0, .int (-1), .int 2, .ref (a 2)]))])) (ci := 0) (C := RJx4a65c) (T := TJx4a65c) (N := 3) hx hb hts hr_uJx4a65c hown hK hp.1 2 rfl rfl 2 (by decide) (va_Nw.use rfl hN.1.2.2.1) (fun _ h9 => h9) rfl dJx35411_next_0502b_14 ?_
  refine lv_icmp_lt (tgt := 28) hx hb dJx35411_next_0502b_17 (by decide) (fun _ => ?_) (fun c9 => absurd c9 (by decide))
  refine lv_aload_n hx hb dJx35411_next_0502b_28 rfl (lv_at hl 1 rfl) ?_
  refine hr_get C0 hp (q0 := 9) (C := RJx35411) (T := TJx35411) (N := 4) (ci := 5) rfl rfl hr_uJx35411 3 (by decide) hw_75 (fun _ h9 => h9) rfl dJx35411_next_0502b_29 ?_
  refine hr_get C0 hp (q0 := 2) (C := RJx4a65c) (T := TJx4a65c) (N := 3) (ci := 0) rfl rfl hr_uJx4a65c 1 (by decide) hw_90 (fun _ h9 => h9) rfl dJx35411_next_0502b_32 ?_
  refine lv_astore_n (lv' := [(2, .ref (a 6)), (1, .int 0), (0, .ref b)]) hx hb dJx35411_next_0502b_35 rfl hl (by decide) rfl (fun ls hl => ?_)
  refine lv_iload_n hx hb dJx35411_next_0502b_36 rfl (lv_at hl 1 rfl) ?_
  refine lv_aload_n hx hb dJx35411_next_0502b_37 rfl (lv_at hl 0 rfl) ?_
  refine hs_alen C0 hKT 0 rfl hp (q0 := 6) (n := 10) (x := 10) rfl rfl dJx35411_next_0502b_38 ?_
  refine lv_icmp_lt (tgt := 50) hx hb dJx35411_next_0502b_39 (by decide) (fun _ => ?_) (fun c9 => absurd c9 (by decide))
  refine lv_aload_n hx hb dJx35411_next_0502b_50 rfl (lv_at hl 2 rfl) ?_
  refine lv_iload_n hx hb dJx35411_next_0502b_51 rfl (lv_at hl 1 rfl) ?_
  refine lv_iconst (v := 1) hx hb dJx35411_next_0502b_52 (by decide) ?_
  refine lv_iadd hx hb dJx35411_next_0502b_53 ?_
  rw [show (0 : Int32) + 1 = 1 from by decide]
  refine hr_put C0 hp (q0 := 9) (C := RJx35411) (T := TJx35411) (N := 4) (ci := 5) (ty0 := tyJx35411) (ty := .int) (Y' := (hs_Y a z cO pp th ++ [(b, .inr (5, [.int 1, .int (-1), .int 2, .ref (a 2)]))])) rfl rfl hr_uJx35411 tyJx35411_ok nmJx35411 0 (by decide) hw_85 (fun _ h9 => h9) rfl (by decide +kernel) rfl rfl (Nat.le_of_ble_eq_true rfl) rfl dJx35411_next_0502b_54 (fun H locs hp => ?_)
  refine lv_aload_n hx hb dJx35411_next_0502b_57 rfl (lv_at hl 0 rfl) ?_
  refine lv_aload_n hx hb dJx35411_next_0502b_58 rfl (lv_at hl 2 rfl) ?_
  refine lv_iload_n hx hb dJx35411_next_0502b_59 rfl (lv_at hl 1 rfl) ?_
  refine lv_dup_x1 hx hb dJx35411_next_0502b_60 rfl rfl ?_
  refine hr_put C0 hp (q0 := 9) (C := RJx35411) (T := TJx35411) (N := 4) (ci := 5) (ty0 := tyJx35411) (ty := .int) (Y' := (hs_Y a z cO pp th ++ [(b, .inr (5, [.int 1, .int 0, .int 2, .ref (a 2)]))])) rfl rfl hr_uJx35411 tyJx35411_ok nmJx35411 1 (by decide) hw_77 (fun _ h9 => h9) rfl (by decide +kernel) rfl rfl (Nat.le_of_ble_eq_true rfl) rfl dJx35411_next_0502b_61 (fun H locs hp => ?_)
  refine hs_aal C0 hKT 0 rfl hp (q0 := 6) (n := 10) (k' := 0) (r := (a 7)) rfl (by unfold vp_in; decide) (by decide) rfl dJx35411_next_0502b_64 ?_
  exact hs_aret () C0 hp hp.2.2.1 rfl (Or.inl ⟨_, rfl⟩) ⟨Nat.le_of_ble_eq_true rfl, Nat.le_of_ble_eq_true rfl⟩ dJx35411_next_0502b_65 rfl hKT
set_option maxHeartbeats 4000000 in
set_option maxRecDepth 100000 in
/-- next() at 1 -/
theorem hs_next_1 (l : Launch) (D : va_G) (a : Nat → Nat) (z : Nat) (cO : ClassId) (pp : Nat → Int32) (th : Int32) (b : Nat) : hs_Kr l D z (hs_t cO) yJx35411_next_0502b (hr_wm yJx35411_next_0502b cJx35411_next_0502b 3 (some (.object "java/lang/Object"))) { frames := 1, cells := 0, slots := 0, locals := 20 } [.ref b] (hs_Y a z cO pp th ++ [(b, .inr (5, [.int 1, .int 0, .int 2, .ref (a 2)]))]) 0 0 0 (fun (_ : Unit) (q : Nat) => q = (a 8)) (fun _ _ => (hs_Y a z cO pp th ++ [(b, .inr (5, [.int 2, .int 1, .int 2, .ref (a 2)]))])) (fun _ => hs_t cO) := by
  refine hs_Kr_of (by decide) (Nat.le_of_ble_eq_true rfl) ?_
  intro p e s m args below meth c ls A hAe C0 hKT hp hl
  obtain ⟨hx, hb, hr9, hml, hown, hts, hK, hlk, hA, hN, hnm9⟩ := id C0
  have hl : lv_has ls 3 [(0, .ref b)] := hl
  refine lv_aload_n hx hb dJx35411_next_0502b_0 rfl (lv_at hl 0 rfl) ?_
  refine hs_cVv C0 hKT hp (q0 := 9) (ci := 5) (Cn := RJx35411) (T := TJx35411) (N := 4) (rest := []) (n := 0) [] (hs_cfc_1 l D a z cO pp th b) rfl rfl rfl (hr_gV hw_91 hw_92 hw_93 hw_71 hw_94) ⟨rfl, rfl⟩ (by decide +kernel) ⟨Nat.le_of_ble_eq_true rfl, Nat.le_of_ble_eq_true rfl⟩ ⟨Nat.le_of_ble_eq_true rfl, Nat.le_of_ble_eq_true rfl⟩ hl.1 rfl rfl (Nat.le_of_ble_eq_true rfl) dJx35411_next_0502b_1 (fun u_1 H locs hv_1 hz9 hp => ?_)
  have hp : hr_H D A s.heap (hs_Y a z cO pp th ++ [(b, .inr (5, [.int 1, .int 0, .int 2, .ref (a 2)]))]) H _ := hp
  refine lv_aload_n hx hb dJx35411_next_0502b_4 rfl (lv_at hl 0 rfl) ?_
  refine hr_get C0 hp (q0 := 9) (C := RJx35411) (T := TJx35411) (N := 4) (ci := 5) rfl rfl hr_uJx35411 0 (by decide) hw_85 (fun _ h9 => h9) rfl dJx35411_next_0502b_5 ?_
  refine lv_istore_n (lv' := [(1, .int 1), (0, .ref b)]) hx hb dJx35411_next_0502b_8 rfl hl (by decide) rfl (fun ls hl => ?_)
  refine lv_iload_n hx hb dJx35411_next_0502b_9 rfl (lv_at hl 0 rfl) ?_
  refine lv_aload_n hx hb dJx35411_next_0502b_10 rfl (lv_at hl 1 rfl) ?_
  refine hr_get C0 hp (q0 := 9) (C := RJx35411) (T := TJx35411) (N := 4) (ci := 5) rfl rfl hr_uJx35411 3 (by decide) hw_75 (fun _ h9 => h9) rfl dJx35411_next_0502b_11 ?_
  refine va_getN (D := D) (cl := hr_cl) (ws := (hs_Y a z cO pp th ++ [(b, .inr (5, [.int 1, .int 0, .int 2, .ref (a 2)]))])) (ci := 0) (C := RJx4a65c) (T := TJx4a65c) (N := 3) hx hb hts hr_uJx4a65c hown hK hp.1 2 rfl rfl 2 (by decide) (va_Nw.use rfl hN.1.2.2.1) (fun _ h9 => h9) rfl dJx35411_next_0502b_14 ?_
  refine lv_icmp_lt (tgt := 28) hx hb dJx35411_next_0502b_17 (by decide) (fun _ => ?_) (fun c9 => absurd c9 (by decide))
  refine lv_aload_n hx hb dJx35411_next_0502b_28 rfl (lv_at hl 1 rfl) ?_
  refine hr_get C0 hp (q0 := 9) (C := RJx35411) (T := TJx35411) (N := 4) (ci := 5) rfl rfl hr_uJx35411 3 (by decide) hw_75 (fun _ h9 => h9) rfl dJx35411_next_0502b_29 ?_
  refine hr_get C0 hp (q0 := 2) (C := RJx4a65c) (T := TJx4a65c) (N := 3) (ci := 0) rfl rfl hr_uJx4a65c 1 (by decide) hw_90 (fun _ h9 => h9) rfl dJx35411_next_0502b_32 ?_
  refine lv_astore_n (lv' := [(2, .ref (a 6)), (1, .int 1), (0, .ref b)]) hx hb dJx35411_next_0502b_35 rfl hl (by decide) rfl (fun ls hl => ?_)
  refine lv_iload_n hx hb dJx35411_next_0502b_36 rfl (lv_at hl 1 rfl) ?_
  refine lv_aload_n hx hb dJx35411_next_0502b_37 rfl (lv_at hl 0 rfl) ?_
  refine hs_alen C0 hKT 0 rfl hp (q0 := 6) (n := 10) (x := 10) rfl rfl dJx35411_next_0502b_38 ?_
  refine lv_icmp_lt (tgt := 50) hx hb dJx35411_next_0502b_39 (by decide) (fun _ => ?_) (fun c9 => absurd c9 (by decide))
  refine lv_aload_n hx hb dJx35411_next_0502b_50 rfl (lv_at hl 2 rfl) ?_
  refine lv_iload_n hx hb dJx35411_next_0502b_51 rfl (lv_at hl 1 rfl) ?_
  refine lv_iconst (v := 1) hx hb dJx35411_next_0502b_52 (by decide) ?_
  refine lv_iadd hx hb dJx35411_next_0502b_53 ?_
  rw [show (1 : Int32) + 1 = 2 from by decide]
  refine hr_put C0 hp (q0 := 9) (C := RJx35411) (T := TJx35411) (N := 4) (ci := 5) (ty0 := tyJx35411) (ty := .int) (Y' := (hs_Y a z cO pp th ++ [(b, .inr (5, [.int 2, .int 0, .int 2, .ref (a 2)]))])) rfl rfl hr_uJx35411 tyJx35411_ok nmJx35411 0 (by decide) hw_85 (fun _ h9 => h9) rfl (by decide +kernel) rfl rfl (Nat.le_of_ble_eq_true rfl) rfl dJx35411_next_0502b_54 (fun H locs hp => ?_)
  refine lv_aload_n hx hb dJx35411_next_0502b_57 rfl (lv_at hl 0 rfl) ?_
  refine lv_aload_n hx hb dJx35411_next_0502b_58 rfl (lv_at hl 2 rfl) ?_
  refine lv_iload_n hx hb dJx35411_next_0502b_59 rfl (lv_at hl 1 rfl) ?_
  refine lv_dup_x1 hx hb dJx35411_next_0502b_60 rfl rfl ?_
  refine hr_put C0 hp (q0 := 9) (C := RJx35411) (T := TJx35411) (N := 4) (ci := 5) (ty0 := tyJx35411) (ty := .int) (Y' := (hs_Y a z cO pp th ++ [(b, .inr (5, [.int 2, .int 1, .int 2, .ref (a 2)]))])) rfl rfl hr_uJx35411 tyJx35411_ok nmJx35411 1 (by decide) hw_77 (fun _ h9 => h9) rfl (by decide +kernel) rfl rfl (Nat.le_of_ble_eq_true rfl) rfl dJx35411_next_0502b_61 (fun H locs hp => ?_)
  refine hs_aal C0 hKT 0 rfl hp (q0 := 6) (n := 10) (k' := 1) (r := (a 8)) rfl (by unfold vp_in; decide) (by decide) rfl dJx35411_next_0502b_64 ?_
  exact hs_aret () C0 hp hp.2.2.1 rfl (Or.inl ⟨_, rfl⟩) ⟨Nat.le_of_ble_eq_true rfl, Nat.le_of_ble_eq_true rfl⟩ dJx35411_next_0502b_65 rfl hKT
set_option maxHeartbeats 4000000 in
set_option maxRecDepth 100000 in
/-- how far mast 0 reaches -/
theorem hs_reach_0 (l : Launch) (D : va_G) (a : Nat → Nat) (z : Nat) (cO : ClassId) (pp : Nat → Int32) (th : Int32) (x : Int32) : hs_Ki l D z (hs_t cO) yX9_reach (hr_wm yX9_reach cX9_reach 2 (some .int)) { frames := 1, cells := 0, slots := 0, locals := 14 } [.ref (a 7), .int x] (hs_Y a z cO pp th) 0 0 0 (fun (_ : Int32) (_ : Unit) => True) (fun _ => hs_Y a z cO pp th) := by
  refine hs_Ki_of (by decide) (Nat.le_of_ble_eq_true rfl) ?_
  intro p e s m args below meth c ls A hAe C0 hKT hp hl
  obtain ⟨hx, hb, hr9, hml, hown, hts, hK, hlk, hA, hN, hnm9⟩ := id C0
  have hl : lv_has ls 2 [(0, .ref (a 7)), (1, .int x)] := hl
  refine lv_aload_n hx hb dX9_reach_0 rfl (lv_at hl 0 rfl) ?_
  refine hr_get C0 hp (q0 := 7) (C := RX9) (T := TX9) (N := 9) (ci := 3) rfl rfl hr_uX9 1 (by decide) hw_6 (fun _ h9 => h9) rfl dX9_reach_1 ?_
  refine lv_aload_n hx hb dX9_reach_4 rfl (lv_at hl 0 rfl) ?_
  refine hr_get C0 hp (q0 := 7) (C := RX9) (T := TX9) (N := 9) (ci := 3) rfl rfl hr_uX9 0 (by decide) hw_5 (fun _ h9 => h9) rfl dX9_reach_5 ?_
  refine lv_iload_n hx hb dX9_reach_8 rfl (lv_at hl 1 rfl) ?_
  refine lv_isub hx hb dX9_reach_9 ?_
  refine va_mabs hx hb (hml.trans hl.1.symm) hown (hts _ hw_12) (hts _ hw_13) (hts _ hw_14) (hts _ hw_15) (Nat.le_of_ble_eq_true rfl) (Nat.le_of_ble_eq_true rfl) (Nat.le_of_ble_eq_true rfl) (Nat.le_of_ble_eq_true rfl) dX9_reach_10 ?_
  rw [show (if 0 ≤ ((pp 0) - x) then ((pp 0) - x) else 0 - ((pp 0) - x)) = hr_abs ((pp 0) - x) from rfl]
  refine lv_isub hx hb dX9_reach_13 ?_
  exact hs_iret () C0 hp hp.2.2.1 rfl ⟨Nat.le_of_ble_eq_true rfl, Nat.le_of_ble_eq_true rfl⟩ dX9_reach_14 trivial
set_option maxHeartbeats 4000000 in
set_option maxRecDepth 100000 in
/-- how far mast 1 reaches -/
theorem hs_reach_1 (l : Launch) (D : va_G) (a : Nat → Nat) (z : Nat) (cO : ClassId) (pp : Nat → Int32) (th : Int32) (x : Int32) : hs_Ki l D z (hs_t cO) yX9_reach (hr_wm yX9_reach cX9_reach 2 (some .int)) { frames := 1, cells := 0, slots := 0, locals := 14 } [.ref (a 8), .int x] (hs_Y a z cO pp th) 0 0 0 (fun (_ : Int32) (_ : Unit) => True) (fun _ => hs_Y a z cO pp th) := by
  refine hs_Ki_of (by decide) (Nat.le_of_ble_eq_true rfl) ?_
  intro p e s m args below meth c ls A hAe C0 hKT hp hl
  obtain ⟨hx, hb, hr9, hml, hown, hts, hK, hlk, hA, hN, hnm9⟩ := id C0
  have hl : lv_has ls 2 [(0, .ref (a 8)), (1, .int x)] := hl
  refine lv_aload_n hx hb dX9_reach_0 rfl (lv_at hl 0 rfl) ?_
  refine hr_get C0 hp (q0 := 8) (C := RX9) (T := TX9) (N := 9) (ci := 3) rfl rfl hr_uX9 1 (by decide) hw_6 (fun _ h9 => h9) rfl dX9_reach_1 ?_
  refine lv_aload_n hx hb dX9_reach_4 rfl (lv_at hl 0 rfl) ?_
  refine hr_get C0 hp (q0 := 8) (C := RX9) (T := TX9) (N := 9) (ci := 3) rfl rfl hr_uX9 0 (by decide) hw_5 (fun _ h9 => h9) rfl dX9_reach_5 ?_
  refine lv_iload_n hx hb dX9_reach_8 rfl (lv_at hl 1 rfl) ?_
  refine lv_isub hx hb dX9_reach_9 ?_
  refine va_mabs hx hb (hml.trans hl.1.symm) hown (hts _ hw_12) (hts _ hw_13) (hts _ hw_14) (hts _ hw_15) (Nat.le_of_ble_eq_true rfl) (Nat.le_of_ble_eq_true rfl) (Nat.le_of_ble_eq_true rfl) (Nat.le_of_ble_eq_true rfl) dX9_reach_10 ?_
  rw [show (if 0 ≤ ((pp 5) - x) then ((pp 5) - x) else 0 - ((pp 5) - x)) = hr_abs ((pp 5) - x) from rfl]
  refine lv_isub hx hb dX9_reach_13 ?_
  exact hs_iret () C0 hp hp.2.2.1 rfl ⟨Nat.le_of_ble_eq_true rfl, Nat.le_of_ble_eq_true rfl⟩ dX9_reach_14 trivial
set_option maxHeartbeats 4000000 in
set_option maxRecDepth 100000 in
/-- THE QUALITY OF MAST 0: one new cell at least -/
theorem hs_quality_0 (l : Launch) (D : va_G) (a : Nat → Nat) (z : Nat) (cO : ClassId) (pp : Nat → Int32) (th : Int32) (x : Int32) : hs_Ki l D z (hs_t cO) yX11_quality (hr_wm yX11_quality cX11_quality 7 (some .int)) { frames := 3, cells := 1, slots := 4, locals := 64 } [.ref (a 1), .int 0, .int x] (hs_Y a z cO pp th) 1 1 4 (fun (_ : Int32) (_ : Unit) => True) (fun _ => hs_Y a z cO pp th) := by
  refine hs_Ki_of (by decide) (Nat.le_of_ble_eq_true rfl) ?_
  intro p e s m args below meth c ls A hAe C0 hKT hp hl
  obtain ⟨hx, hb, hr9, hml, hown, hts, hK, hlk, hA, hN, hnm9⟩ := id C0
  have hl : lv_has ls 7 [(0, .ref (a 1)), (1, .int 0), (2, .int x)] := hl
  refine lv_aload_n hx hb dX11_quality_0 rfl (lv_at hl 0 rfl) ?_
  refine hr_get C0 hp (q0 := 1) (C := RX11) (T := TX11) (N := 5) (ci := 1) rfl rfl hr_uX11 0 (by decide) hw_21 (fun _ h9 => h9) rfl dX11_quality_1 ?_
  refine lv_iload_n hx hb dX11_quality_4 rfl (lv_at hl 1 rfl) ?_
  refine hs_cVr C0 hKT hp (q0 := 2) (ci := 0) (Cn := RJx4a65c) (T := TJx4a65c) (N := 3) (rest := []) (n := 1) [] (hs_get_0 l D a z cO pp th) rfl rfl rfl (hr_gV hw_48 hw_49 hw_50 hw_20 hw_51) ⟨rfl, rfl⟩ (by decide +kernel) ⟨Nat.le_of_ble_eq_true rfl, Nat.le_of_ble_eq_true rfl⟩ ⟨Nat.le_of_ble_eq_true rfl, Nat.le_of_ble_eq_true rfl⟩ hl.1 rfl rfl (Nat.le_of_ble_eq_true rfl) dX11_quality_5 (fun u_5 q_5 H locs hv_5 hk_5 hz9 hp => ?_)
  subst hv_5
  have hp : hr_H D A s.heap (hs_Y a z cO pp th) H _ := hp
  refine hs_cast C0 hp (q0 := 7) (ci := 3) (Cn := RX9) (T := TX9) (N := 9) rfl rfl hw_41 dX11_quality_8 ?_
  refine lv_astore_n (lv' := [(3, .ref (a 7)), (0, .ref (a 1)), (1, .int 0), (2, .int x)]) hx hb dX11_quality_11 rfl hl (by decide) rfl (fun ls hl => ?_)
  refine lv_aload_n hx hb dX11_quality_12 rfl (lv_at hl 0 rfl) ?_
  refine hr_get C0 hp (q0 := 7) (C := RX9) (T := TX9) (N := 9) (ci := 3) rfl rfl hr_uX9 6 (by decide) hw_42 (fun _ h9 => h9) rfl dX11_quality_13 ?_
  refine lv_if_ne (tgt := 22) hx hb dX11_quality_16 (by decide) (fun _ => ?_) (fun c9 => absurd c9 (by decide))
  refine lv_iconst (v := 0) hx hb dX11_quality_22 (by decide) ?_
  refine lv_istore (lv' := [(4, .int 0), (3, .ref (a 7)), (0, .ref (a 1)), (1, .int 0), (2, .int x)]) hx hb dX11_quality_23 hl (by decide) rfl (fun ls hl => ?_)
  refine lv_aload_n hx hb dX11_quality_25 rfl (lv_at hl 2 rfl) ?_
  refine hr_get C0 hp (q0 := 1) (C := RX11) (T := TX11) (N := 5) (ci := 1) rfl rfl hr_uX11 0 (by decide) hw_21 (fun _ h9 => h9) rfl dX11_quality_26 ?_
  have hz := hp.2.2.1
  refine hs_cVr C0 hKT hp (q0 := 2) (ci := 0) (Cn := RJx4a65c) (T := TJx4a65c) (N := 3) (rest := []) (n := 0) [] (hs_iter_2 l D a z cO pp th) rfl rfl rfl (hr_gV hw_65 hw_66 hw_67 hw_20 hw_68) ⟨rfl, rfl⟩ (by decide +kernel) ⟨Nat.le_of_ble_eq_true rfl, Nat.le_of_ble_eq_true rfl⟩ ⟨Nat.le_of_ble_eq_true rfl, Nat.le_of_ble_eq_true rfl⟩ hl.1 rfl rfl (Nat.le_of_ble_eq_true rfl) dX11_quality_29 (fun u_29 q_29 H locs hv_29 hk_29 hz9 hp => ?_)
  have hz := hs_zz hz hz9
  have hp : hr_H D A s.heap (hs_Y a z cO pp th ++ [(q_29, .inr (5, [.int 0, .int (-1), .int 2, .ref (a 2)]))]) H _ := hp
  refine W.widen (k := 1) (n := 4) (by decide) (by decide) ?_
  refine lv_astore (lv' := [(5, .ref q_29), (4, .int 0), (3, .ref (a 7)), (0, .ref (a 1)), (1, .int 0), (2, .int x)]) hx hb dX11_quality_32 hl (by decide) rfl (fun ls hl => ?_)
  refine lv_aload hx hb dX11_quality_34 (lv_at hl 0 rfl) ?_
  refine hs_cFi C0 hKT hp (q0 := 9) (ci := 5) (Cn := RJx35411) (T := TJx35411) (N := 4) (rest := []) (n := 0) [] (hs_has_2_0 l D a z cO pp th q_29) rfl rfl rfl (hr_gF hw_81 hw_82 hw_83 hw_71 hw_84) hN.1.2.2.2.1 ⟨rfl, rfl⟩ (by decide +kernel) ⟨Nat.le_of_ble_eq_true rfl, Nat.le_of_ble_eq_true rfl⟩ ⟨Nat.le_of_ble_eq_true rfl, Nat.le_of_ble_eq_true rfl⟩ hl.1 rfl rfl (Nat.le_of_ble_eq_true rfl) dX11_quality_36 (fun q_36 u_36 H locs hv_36 hz9 hp => ?_)
  have hz := hs_zz hz hz9
  subst hv_36
  have hp : hr_H D A s.heap (hs_Y a z cO pp th ++ [(q_29, .inr (5, [.int 0, .int (-1), .int 2, .ref (a 2)]))]) H _ := hp
  refine lv_if_eq (tgt := 102) hx hb dX11_quality_41 (by decide) (fun c9 => absurd c9 (by decide)) (fun _ => ?_)
  refine lv_aload hx hb dX11_quality_44 (lv_at hl 0 rfl) ?_
  refine hs_cFr C0 hKT hp (q0 := 9) (ci := 5) (Cn := RJx35411) (T := TJx35411) (N := 4) (rest := []) (n := 0) [] (hs_next_0 l D a z cO pp th q_29) rfl rfl rfl (hr_gF hw_86 hw_87 hw_88 hw_71 hw_89) hN.1.2.2.2.2.2.2.2.2 ⟨rfl, rfl⟩ (by decide +kernel) ⟨Nat.le_of_ble_eq_true rfl, Nat.le_of_ble_eq_true rfl⟩ ⟨Nat.le_of_ble_eq_true rfl, Nat.le_of_ble_eq_true rfl⟩ hl.1 rfl rfl (Nat.le_of_ble_eq_true rfl) dX11_quality_46 (fun u_46 q_46 H locs hv_46 hk_46 hz9 hp => ?_)
  have hz := hs_zz hz hz9
  subst hv_46
  have hp : hr_H D A s.heap (hs_Y a z cO pp th ++ [(q_29, .inr (5, [.int 1, .int 0, .int 2, .ref (a 2)]))]) H _ := hp
  refine hs_cast C0 hp (q0 := 7) (ci := 3) (Cn := RX9) (T := TX9) (N := 9) rfl rfl hw_41 dX11_quality_51 ?_
  refine lv_astore (lv' := [(6, .ref (a 7)), (5, .ref q_29), (4, .int 0), (3, .ref (a 7)), (0, .ref (a 1)), (1, .int 0), (2, .int x)]) hx hb dX11_quality_54 hl (by decide) rfl (fun ls hl => ?_)
  refine lv_aload hx hb dX11_quality_56 (lv_at hl 0 rfl) ?_
  refine lv_aload_n hx hb dX11_quality_58 rfl (lv_at hl 3 rfl) ?_
  refine lv_acmp_eq (rx := some (a 7)) (ry := some (a 7)) (tgt := 99) hx hb dX11_quality_59 (by decide) (fun _ => ?_) (fun c9 => absurd rfl c9)
  refine lv_goto (tgt := 34) hx hb dX11_quality_99 (by decide) ?_
  refine lv_aload hx hb dX11_quality_34 (lv_at hl 1 rfl) ?_
  refine hs_cFi C0 hKT hp (q0 := 9) (ci := 5) (Cn := RJx35411) (T := TJx35411) (N := 4) (rest := []) (n := 0) [] (hs_has_2_1 l D a z cO pp th q_29) rfl rfl rfl (hr_gF hw_81 hw_82 hw_83 hw_71 hw_84) hN.1.2.2.2.1 ⟨rfl, rfl⟩ (by decide +kernel) ⟨Nat.le_of_ble_eq_true rfl, Nat.le_of_ble_eq_true rfl⟩ ⟨Nat.le_of_ble_eq_true rfl, Nat.le_of_ble_eq_true rfl⟩ hl.1 rfl rfl (Nat.le_of_ble_eq_true rfl) dX11_quality_36 (fun q_36 u_36 H locs hv_36 hz9 hp => ?_)
  have hz := hs_zz hz hz9
  subst hv_36
  have hp : hr_H D A s.heap (hs_Y a z cO pp th ++ [(q_29, .inr (5, [.int 1, .int 0, .int 2, .ref (a 2)]))]) H _ := hp
  refine lv_if_eq (tgt := 102) hx hb dX11_quality_41 (by decide) (fun c9 => absurd c9 (by decide)) (fun _ => ?_)
  refine lv_aload hx hb dX11_quality_44 (lv_at hl 1 rfl) ?_
  refine hs_cFr C0 hKT hp (q0 := 9) (ci := 5) (Cn := RJx35411) (T := TJx35411) (N := 4) (rest := []) (n := 0) [] (hs_next_1 l D a z cO pp th q_29) rfl rfl rfl (hr_gF hw_86 hw_87 hw_88 hw_71 hw_89) hN.1.2.2.2.2.2.2.2.2 ⟨rfl, rfl⟩ (by decide +kernel) ⟨Nat.le_of_ble_eq_true rfl, Nat.le_of_ble_eq_true rfl⟩ ⟨Nat.le_of_ble_eq_true rfl, Nat.le_of_ble_eq_true rfl⟩ hl.1 rfl rfl (Nat.le_of_ble_eq_true rfl) dX11_quality_46 (fun u_46 q_46 H locs hv_46 hk_46 hz9 hp => ?_)
  have hz := hs_zz hz hz9
  subst hv_46
  have hp : hr_H D A s.heap (hs_Y a z cO pp th ++ [(q_29, .inr (5, [.int 2, .int 1, .int 2, .ref (a 2)]))]) H _ := hp
  refine hs_cast C0 hp (q0 := 8) (ci := 3) (Cn := RX9) (T := TX9) (N := 9) rfl rfl hw_41 dX11_quality_51 ?_
  refine lv_astore (lv' := [(6, .ref (a 8)), (5, .ref q_29), (4, .int 0), (3, .ref (a 7)), (0, .ref (a 1)), (1, .int 0), (2, .int x)]) hx hb dX11_quality_54 hl (by decide) rfl (fun ls hl => ?_)
  refine lv_aload hx hb dX11_quality_56 (lv_at hl 0 rfl) ?_
  refine lv_aload_n hx hb dX11_quality_58 rfl (lv_at hl 3 rfl) ?_
  have hne := hs_ne hp
  refine lv_acmp_eq (rx := some (a 8)) (ry := some (a 7)) (tgt := 99) hx hb dX11_quality_59 (by decide) (fun c9 => absurd (Option.some.inj c9) hne.symm) (fun _ => ?_)
  refine lv_aload hx hb dX11_quality_62 (lv_at hl 0 rfl) ?_
  refine hr_get C0 hp (q0 := 8) (C := RX9) (T := TX9) (N := 9) (ci := 3) rfl rfl hr_uX9 6 (by decide) hw_42 (fun _ h9 => h9) rfl dX11_quality_64 ?_
  refine lv_if_eq (tgt := 99) hx hb dX11_quality_67 (by decide) (fun c9 => absurd c9 (by decide)) (fun _ => ?_)
  refine lv_aload hx hb dX11_quality_70 (lv_at hl 0 rfl) ?_
  refine hr_get C0 hp (q0 := 8) (C := RX9) (T := TX9) (N := 9) (ci := 3) rfl rfl hr_uX9 2 (by decide) hw_43 (fun _ h9 => h9) rfl dX11_quality_72 ?_
  refine lv_aload_n hx hb dX11_quality_75 rfl (lv_at hl 3 rfl) ?_
  refine hr_get C0 hp (q0 := 7) (C := RX9) (T := TX9) (N := 9) (ci := 3) rfl rfl hr_uX9 2 (by decide) hw_43 (fun _ h9 => h9) rfl dX11_quality_76 ?_
  refine lv_icmp_ne (tgt := 99) hx hb dX11_quality_79 (by decide) (fun _ => ?_) (fun c9 => absurd c9 (by decide))
  refine lv_goto (tgt := 34) hx hb dX11_quality_99 (by decide) ?_
  refine lv_aload hx hb dX11_quality_34 (lv_at hl 1 rfl) ?_
  refine hs_cFi C0 hKT hp (q0 := 9) (ci := 5) (Cn := RJx35411) (T := TJx35411) (N := 4) (rest := []) (n := 0) [] (hs_has_2_2 l D a z cO pp th q_29) rfl rfl rfl (hr_gF hw_81 hw_82 hw_83 hw_71 hw_84) hN.1.2.2.2.1 ⟨rfl, rfl⟩ (by decide +kernel) ⟨Nat.le_of_ble_eq_true rfl, Nat.le_of_ble_eq_true rfl⟩ ⟨Nat.le_of_ble_eq_true rfl, Nat.le_of_ble_eq_true rfl⟩ hl.1 rfl rfl (Nat.le_of_ble_eq_true rfl) dX11_quality_36 (fun q_36 u_36 H locs hv_36 hz9 hp => ?_)
  have hz := hs_zz hz hz9
  subst hv_36
  have hp : hr_H D A s.heap (hs_Y a z cO pp th ++ [(q_29, .inr (5, [.int 2, .int 1, .int 2, .ref (a 2)]))]) H _ := hp
  refine lv_if_eq (tgt := 102) hx hb dX11_quality_41 (by decide) (fun _ => ?_) (fun c9 => absurd c9 (by decide))
  have hp := hr_drop (Y := (hs_Y a z cO pp th)) (X := [(q_29, .inr (5, [.int 2, .int 1, .int 2, .ref (a 2)]))]) hp
  refine lv_aload_n hx hb dX11_quality_102 rfl (lv_at hl 3 rfl) ?_
  refine lv_iload_n hx hb dX11_quality_103 rfl (lv_at hl 6 rfl) ?_
  refine hs_cVi C0 hKT hp (q0 := 7) (ci := 3) (Cn := RX9) (T := TX9) (N := 9) (rest := []) (n := 1) [] (hs_reach_0 l D a z cO pp th x) rfl rfl rfl (hr_gV hw_95 hw_96 hw_97 hw_98 hw_11) ⟨rfl, rfl⟩ (by decide +kernel) ⟨Nat.le_of_ble_eq_true rfl, Nat.le_of_ble_eq_true rfl⟩ ⟨Nat.le_of_ble_eq_true rfl, Nat.le_of_ble_eq_true rfl⟩ hl.1 rfl rfl (Nat.le_of_ble_eq_true rfl) dX11_quality_104 (fun q_104 u_104 H locs hv_104 hz9 hp => ?_)
  have hz := hs_zz hz hz9
  have hp : hr_H D A s.heap (hs_Y a z cO pp th) H _ := hp
  refine lv_iconst (v := 2) hx hb dX11_quality_107 (by decide) ?_
  refine lv_aload_n hx hb dX11_quality_108 rfl (lv_at hl 3 rfl) ?_
  refine hr_get C0 hp (q0 := 7) (C := RX9) (T := TX9) (N := 9) (ci := 3) rfl rfl hr_uX9 7 (by decide) hw_47 (fun _ h9 => h9) rfl dX11_quality_109 ?_
  refine lv_imul hx hb dX11_quality_112 ?_
  refine lv_isub hx hb dX11_quality_113 ?_
  refine lv_iload hx hb dX11_quality_114 (lv_at hl 2 rfl) ?_
  refine lv_isub hx hb dX11_quality_116 ?_
  exact hs_iret () C0 hp (by omega) rfl ⟨Nat.le_of_ble_eq_true rfl, Nat.le_of_ble_eq_true rfl⟩ dX11_quality_117 trivial
set_option maxHeartbeats 4000000 in
set_option maxRecDepth 100000 in
/-- THE QUALITY OF MAST 1: one new cell at least -/
theorem hs_quality_1 (l : Launch) (D : va_G) (a : Nat → Nat) (z : Nat) (cO : ClassId) (pp : Nat → Int32) (th : Int32) (x : Int32) : hs_Ki l D z (hs_t cO) yX11_quality (hr_wm yX11_quality cX11_quality 7 (some .int)) { frames := 3, cells := 1, slots := 4, locals := 64 } [.ref (a 1), .int 1, .int x] (hs_Y a z cO pp th) 1 1 4 (fun (_ : Int32) (_ : Unit) => True) (fun _ => hs_Y a z cO pp th) := by
  refine hs_Ki_of (by decide) (Nat.le_of_ble_eq_true rfl) ?_
  intro p e s m args below meth c ls A hAe C0 hKT hp hl
  obtain ⟨hx, hb, hr9, hml, hown, hts, hK, hlk, hA, hN, hnm9⟩ := id C0
  have hl : lv_has ls 7 [(0, .ref (a 1)), (1, .int 1), (2, .int x)] := hl
  refine lv_aload_n hx hb dX11_quality_0 rfl (lv_at hl 0 rfl) ?_
  refine hr_get C0 hp (q0 := 1) (C := RX11) (T := TX11) (N := 5) (ci := 1) rfl rfl hr_uX11 0 (by decide) hw_21 (fun _ h9 => h9) rfl dX11_quality_1 ?_
  refine lv_iload_n hx hb dX11_quality_4 rfl (lv_at hl 1 rfl) ?_
  refine hs_cVr C0 hKT hp (q0 := 2) (ci := 0) (Cn := RJx4a65c) (T := TJx4a65c) (N := 3) (rest := []) (n := 1) [] (hs_get_1 l D a z cO pp th) rfl rfl rfl (hr_gV hw_48 hw_49 hw_50 hw_20 hw_51) ⟨rfl, rfl⟩ (by decide +kernel) ⟨Nat.le_of_ble_eq_true rfl, Nat.le_of_ble_eq_true rfl⟩ ⟨Nat.le_of_ble_eq_true rfl, Nat.le_of_ble_eq_true rfl⟩ hl.1 rfl rfl (Nat.le_of_ble_eq_true rfl) dX11_quality_5 (fun u_5 q_5 H locs hv_5 hk_5 hz9 hp => ?_)
  subst hv_5
  have hp : hr_H D A s.heap (hs_Y a z cO pp th) H _ := hp
  refine hs_cast C0 hp (q0 := 8) (ci := 3) (Cn := RX9) (T := TX9) (N := 9) rfl rfl hw_41 dX11_quality_8 ?_
  refine lv_astore_n (lv' := [(3, .ref (a 8)), (0, .ref (a 1)), (1, .int 1), (2, .int x)]) hx hb dX11_quality_11 rfl hl (by decide) rfl (fun ls hl => ?_)
  refine lv_aload_n hx hb dX11_quality_12 rfl (lv_at hl 0 rfl) ?_
  refine hr_get C0 hp (q0 := 8) (C := RX9) (T := TX9) (N := 9) (ci := 3) rfl rfl hr_uX9 6 (by decide) hw_42 (fun _ h9 => h9) rfl dX11_quality_13 ?_
  refine lv_if_ne (tgt := 22) hx hb dX11_quality_16 (by decide) (fun _ => ?_) (fun c9 => absurd c9 (by decide))
  refine lv_iconst (v := 0) hx hb dX11_quality_22 (by decide) ?_
  refine lv_istore (lv' := [(4, .int 0), (3, .ref (a 8)), (0, .ref (a 1)), (1, .int 1), (2, .int x)]) hx hb dX11_quality_23 hl (by decide) rfl (fun ls hl => ?_)
  refine lv_aload_n hx hb dX11_quality_25 rfl (lv_at hl 2 rfl) ?_
  refine hr_get C0 hp (q0 := 1) (C := RX11) (T := TX11) (N := 5) (ci := 1) rfl rfl hr_uX11 0 (by decide) hw_21 (fun _ h9 => h9) rfl dX11_quality_26 ?_
  have hz := hp.2.2.1
  refine hs_cVr C0 hKT hp (q0 := 2) (ci := 0) (Cn := RJx4a65c) (T := TJx4a65c) (N := 3) (rest := []) (n := 0) [] (hs_iter_2 l D a z cO pp th) rfl rfl rfl (hr_gV hw_65 hw_66 hw_67 hw_20 hw_68) ⟨rfl, rfl⟩ (by decide +kernel) ⟨Nat.le_of_ble_eq_true rfl, Nat.le_of_ble_eq_true rfl⟩ ⟨Nat.le_of_ble_eq_true rfl, Nat.le_of_ble_eq_true rfl⟩ hl.1 rfl rfl (Nat.le_of_ble_eq_true rfl) dX11_quality_29 (fun u_29 q_29 H locs hv_29 hk_29 hz9 hp => ?_)
  have hz := hs_zz hz hz9
  have hp : hr_H D A s.heap (hs_Y a z cO pp th ++ [(q_29, .inr (5, [.int 0, .int (-1), .int 2, .ref (a 2)]))]) H _ := hp
  refine W.widen (k := 1) (n := 4) (by decide) (by decide) ?_
  refine lv_astore (lv' := [(5, .ref q_29), (4, .int 0), (3, .ref (a 8)), (0, .ref (a 1)), (1, .int 1), (2, .int x)]) hx hb dX11_quality_32 hl (by decide) rfl (fun ls hl => ?_)
  refine lv_aload hx hb dX11_quality_34 (lv_at hl 0 rfl) ?_
  refine hs_cFi C0 hKT hp (q0 := 9) (ci := 5) (Cn := RJx35411) (T := TJx35411) (N := 4) (rest := []) (n := 0) [] (hs_has_2_0 l D a z cO pp th q_29) rfl rfl rfl (hr_gF hw_81 hw_82 hw_83 hw_71 hw_84) hN.1.2.2.2.1 ⟨rfl, rfl⟩ (by decide +kernel) ⟨Nat.le_of_ble_eq_true rfl, Nat.le_of_ble_eq_true rfl⟩ ⟨Nat.le_of_ble_eq_true rfl, Nat.le_of_ble_eq_true rfl⟩ hl.1 rfl rfl (Nat.le_of_ble_eq_true rfl) dX11_quality_36 (fun q_36 u_36 H locs hv_36 hz9 hp => ?_)
  have hz := hs_zz hz hz9
  subst hv_36
  have hp : hr_H D A s.heap (hs_Y a z cO pp th ++ [(q_29, .inr (5, [.int 0, .int (-1), .int 2, .ref (a 2)]))]) H _ := hp
  refine lv_if_eq (tgt := 102) hx hb dX11_quality_41 (by decide) (fun c9 => absurd c9 (by decide)) (fun _ => ?_)
  refine lv_aload hx hb dX11_quality_44 (lv_at hl 0 rfl) ?_
  refine hs_cFr C0 hKT hp (q0 := 9) (ci := 5) (Cn := RJx35411) (T := TJx35411) (N := 4) (rest := []) (n := 0) [] (hs_next_0 l D a z cO pp th q_29) rfl rfl rfl (hr_gF hw_86 hw_87 hw_88 hw_71 hw_89) hN.1.2.2.2.2.2.2.2.2 ⟨rfl, rfl⟩ (by decide +kernel) ⟨Nat.le_of_ble_eq_true rfl, Nat.le_of_ble_eq_true rfl⟩ ⟨Nat.le_of_ble_eq_true rfl, Nat.le_of_ble_eq_true rfl⟩ hl.1 rfl rfl (Nat.le_of_ble_eq_true rfl) dX11_quality_46 (fun u_46 q_46 H locs hv_46 hk_46 hz9 hp => ?_)
  have hz := hs_zz hz hz9
  subst hv_46
  have hp : hr_H D A s.heap (hs_Y a z cO pp th ++ [(q_29, .inr (5, [.int 1, .int 0, .int 2, .ref (a 2)]))]) H _ := hp
  refine hs_cast C0 hp (q0 := 7) (ci := 3) (Cn := RX9) (T := TX9) (N := 9) rfl rfl hw_41 dX11_quality_51 ?_
  refine lv_astore (lv' := [(6, .ref (a 7)), (5, .ref q_29), (4, .int 0), (3, .ref (a 8)), (0, .ref (a 1)), (1, .int 1), (2, .int x)]) hx hb dX11_quality_54 hl (by decide) rfl (fun ls hl => ?_)
  refine lv_aload hx hb dX11_quality_56 (lv_at hl 0 rfl) ?_
  refine lv_aload_n hx hb dX11_quality_58 rfl (lv_at hl 3 rfl) ?_
  have hne := hs_ne hp
  refine lv_acmp_eq (rx := some (a 7)) (ry := some (a 8)) (tgt := 99) hx hb dX11_quality_59 (by decide) (fun c9 => absurd (Option.some.inj c9) hne) (fun _ => ?_)
  refine lv_aload hx hb dX11_quality_62 (lv_at hl 0 rfl) ?_
  refine hr_get C0 hp (q0 := 7) (C := RX9) (T := TX9) (N := 9) (ci := 3) rfl rfl hr_uX9 6 (by decide) hw_42 (fun _ h9 => h9) rfl dX11_quality_64 ?_
  refine lv_if_eq (tgt := 99) hx hb dX11_quality_67 (by decide) (fun c9 => absurd c9 (by decide)) (fun _ => ?_)
  refine lv_aload hx hb dX11_quality_70 (lv_at hl 0 rfl) ?_
  refine hr_get C0 hp (q0 := 7) (C := RX9) (T := TX9) (N := 9) (ci := 3) rfl rfl hr_uX9 2 (by decide) hw_43 (fun _ h9 => h9) rfl dX11_quality_72 ?_
  refine lv_aload_n hx hb dX11_quality_75 rfl (lv_at hl 3 rfl) ?_
  refine hr_get C0 hp (q0 := 8) (C := RX9) (T := TX9) (N := 9) (ci := 3) rfl rfl hr_uX9 2 (by decide) hw_43 (fun _ h9 => h9) rfl dX11_quality_76 ?_
  refine lv_icmp_ne (tgt := 99) hx hb dX11_quality_79 (by decide) (fun _ => ?_) (fun c9 => absurd c9 (by decide))
  refine lv_goto (tgt := 34) hx hb dX11_quality_99 (by decide) ?_
  refine lv_aload hx hb dX11_quality_34 (lv_at hl 1 rfl) ?_
  refine hs_cFi C0 hKT hp (q0 := 9) (ci := 5) (Cn := RJx35411) (T := TJx35411) (N := 4) (rest := []) (n := 0) [] (hs_has_2_1 l D a z cO pp th q_29) rfl rfl rfl (hr_gF hw_81 hw_82 hw_83 hw_71 hw_84) hN.1.2.2.2.1 ⟨rfl, rfl⟩ (by decide +kernel) ⟨Nat.le_of_ble_eq_true rfl, Nat.le_of_ble_eq_true rfl⟩ ⟨Nat.le_of_ble_eq_true rfl, Nat.le_of_ble_eq_true rfl⟩ hl.1 rfl rfl (Nat.le_of_ble_eq_true rfl) dX11_quality_36 (fun q_36 u_36 H locs hv_36 hz9 hp => ?_)
  have hz := hs_zz hz hz9
  subst hv_36
  have hp : hr_H D A s.heap (hs_Y a z cO pp th ++ [(q_29, .inr (5, [.int 1, .int 0, .int 2, .ref (a 2)]))]) H _ := hp
  refine lv_if_eq (tgt := 102) hx hb dX11_quality_41 (by decide) (fun c9 => absurd c9 (by decide)) (fun _ => ?_)
  refine lv_aload hx hb dX11_quality_44 (lv_at hl 1 rfl) ?_
  refine hs_cFr C0 hKT hp (q0 := 9) (ci := 5) (Cn := RJx35411) (T := TJx35411) (N := 4) (rest := []) (n := 0) [] (hs_next_1 l D a z cO pp th q_29) rfl rfl rfl (hr_gF hw_86 hw_87 hw_88 hw_71 hw_89) hN.1.2.2.2.2.2.2.2.2 ⟨rfl, rfl⟩ (by decide +kernel) ⟨Nat.le_of_ble_eq_true rfl, Nat.le_of_ble_eq_true rfl⟩ ⟨Nat.le_of_ble_eq_true rfl, Nat.le_of_ble_eq_true rfl⟩ hl.1 rfl rfl (Nat.le_of_ble_eq_true rfl) dX11_quality_46 (fun u_46 q_46 H locs hv_46 hk_46 hz9 hp => ?_)
  have hz := hs_zz hz hz9
  subst hv_46
  have hp : hr_H D A s.heap (hs_Y a z cO pp th ++ [(q_29, .inr (5, [.int 2, .int 1, .int 2, .ref (a 2)]))]) H _ := hp
  refine hs_cast C0 hp (q0 := 8) (ci := 3) (Cn := RX9) (T := TX9) (N := 9) rfl rfl hw_41 dX11_quality_51 ?_
  refine lv_astore (lv' := [(6, .ref (a 8)), (5, .ref q_29), (4, .int 0), (3, .ref (a 8)), (0, .ref (a 1)), (1, .int 1), (2, .int x)]) hx hb dX11_quality_54 hl (by decide) rfl (fun ls hl => ?_)
  refine lv_aload hx hb dX11_quality_56 (lv_at hl 0 rfl) ?_
  refine lv_aload_n hx hb dX11_quality_58 rfl (lv_at hl 3 rfl) ?_
  refine lv_acmp_eq (rx := some (a 8)) (ry := some (a 8)) (tgt := 99) hx hb dX11_quality_59 (by decide) (fun _ => ?_) (fun c9 => absurd rfl c9)
  refine lv_goto (tgt := 34) hx hb dX11_quality_99 (by decide) ?_
  refine lv_aload hx hb dX11_quality_34 (lv_at hl 1 rfl) ?_
  refine hs_cFi C0 hKT hp (q0 := 9) (ci := 5) (Cn := RJx35411) (T := TJx35411) (N := 4) (rest := []) (n := 0) [] (hs_has_2_2 l D a z cO pp th q_29) rfl rfl rfl (hr_gF hw_81 hw_82 hw_83 hw_71 hw_84) hN.1.2.2.2.1 ⟨rfl, rfl⟩ (by decide +kernel) ⟨Nat.le_of_ble_eq_true rfl, Nat.le_of_ble_eq_true rfl⟩ ⟨Nat.le_of_ble_eq_true rfl, Nat.le_of_ble_eq_true rfl⟩ hl.1 rfl rfl (Nat.le_of_ble_eq_true rfl) dX11_quality_36 (fun q_36 u_36 H locs hv_36 hz9 hp => ?_)
  have hz := hs_zz hz hz9
  subst hv_36
  have hp : hr_H D A s.heap (hs_Y a z cO pp th ++ [(q_29, .inr (5, [.int 2, .int 1, .int 2, .ref (a 2)]))]) H _ := hp
  refine lv_if_eq (tgt := 102) hx hb dX11_quality_41 (by decide) (fun _ => ?_) (fun c9 => absurd c9 (by decide))
  have hp := hr_drop (Y := (hs_Y a z cO pp th)) (X := [(q_29, .inr (5, [.int 2, .int 1, .int 2, .ref (a 2)]))]) hp
  refine lv_aload_n hx hb dX11_quality_102 rfl (lv_at hl 3 rfl) ?_
  refine lv_iload_n hx hb dX11_quality_103 rfl (lv_at hl 6 rfl) ?_
  refine hs_cVi C0 hKT hp (q0 := 8) (ci := 3) (Cn := RX9) (T := TX9) (N := 9) (rest := []) (n := 1) [] (hs_reach_1 l D a z cO pp th x) rfl rfl rfl (hr_gV hw_95 hw_96 hw_97 hw_98 hw_11) ⟨rfl, rfl⟩ (by decide +kernel) ⟨Nat.le_of_ble_eq_true rfl, Nat.le_of_ble_eq_true rfl⟩ ⟨Nat.le_of_ble_eq_true rfl, Nat.le_of_ble_eq_true rfl⟩ hl.1 rfl rfl (Nat.le_of_ble_eq_true rfl) dX11_quality_104 (fun q_104 u_104 H locs hv_104 hz9 hp => ?_)
  have hz := hs_zz hz hz9
  have hp : hr_H D A s.heap (hs_Y a z cO pp th) H _ := hp
  refine lv_iconst (v := 2) hx hb dX11_quality_107 (by decide) ?_
  refine lv_aload_n hx hb dX11_quality_108 rfl (lv_at hl 3 rfl) ?_
  refine hr_get C0 hp (q0 := 8) (C := RX9) (T := TX9) (N := 9) (ci := 3) rfl rfl hr_uX9 7 (by decide) hw_47 (fun _ h9 => h9) rfl dX11_quality_109 ?_
  refine lv_imul hx hb dX11_quality_112 ?_
  refine lv_isub hx hb dX11_quality_113 ?_
  refine lv_iload hx hb dX11_quality_114 (lv_at hl 2 rfl) ?_
  refine lv_isub hx hb dX11_quality_116 ?_
  exact hs_iret () C0 hp (by omega) rfl ⟨Nat.le_of_ble_eq_true rfl, Nat.le_of_ble_eq_true rfl⟩ dX11_quality_117 trivial
