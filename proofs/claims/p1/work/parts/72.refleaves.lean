/-! the reference on an empty road: what all its calls stand on -/
def hr_in (x lo hi : Int32) : Int32 := if lo ≤ x ∧ x ≤ hi then 1 else 0
theorem hr_in_no (x : Int32) : hr_in x 0 (-1) = 0 := if_neg (fun h => absurd (Int32.le_trans h.1 h.2) (by decide))
theorem hr_in_y {x lo hi : Int32} (h1 : lo ≤ x) (h2 : x ≤ hi) : hr_in x lo hi = 1 := if_pos ⟨h1, h2⟩
theorem hr_in_n {x lo hi : Int32} (h : ¬ (lo ≤ x ∧ x ≤ hi)) : hr_in x lo hi = 0 := if_neg h
def hr_one (x : Int32) : Int32 := if x = 0 then 0 else 1
theorem hr_u0 (k : Nat) : upd (fun _ : Nat => (0 : Int32)) k 0 = fun _ => 0 := by
  funext j
  simp [upd]
set_option maxHeartbeats 4000000 in
set_option maxRecDepth 100000 in
/-- isIn -/
theorem hr_X12_isIn (l : Launch) (D : va_G) (z : Nat) (Y : va_W) (x lo hi : Int32) : hr_Ki l D z yX12_isIn (hr_wm yX12_isIn cX12_isIn 3 (some .boolean)) { frames := 0, cells := 0, slots := 0, locals := 0 } [.int x, .int lo, .int hi] Y 0 0 (fun (q : Int32) (_ : Unit) => q = hr_in x lo hi) (fun _ => Y) := by
  refine hr_Ki_of (by decide) (Nat.le_of_ble_eq_true rfl) ?_
  intro p e s m args below meth c ls A C0 hp hl
  obtain ⟨hx, hb, hr9, hml, hown, hts, hK, hlk, hA, hN, hnm9⟩ := id C0
  have hl : lv_has ls 3 [(0, .int x), (1, .int lo), (2, .int hi)] := hl
  refine lv_iload_n hx hb dX12_isIn_0 rfl (lv_at hl 0 rfl) ?_
  refine lv_iload_n hx hb dX12_isIn_1 rfl (lv_at hl 1 rfl) ?_
  refine lv_icmp_lt (tgt := 14) hx hb dX12_isIn_2 (by decide) (fun c1 => ?_) (fun c1 => ?_)
  · refine lv_iconst (v := 0) hx hb dX12_isIn_14 (by decide) ?_
    exact hr_zret () C0 hp rfl (Or.inl rfl) ⟨Nat.le_refl _, Nat.le_refl _⟩ dX12_isIn_15 (if_neg (fun h => absurd h.1 (Int32.not_le.mpr c1))).symm
  · refine lv_iload_n hx hb dX12_isIn_5 rfl (lv_at hl 0 rfl) ?_
    refine lv_iload_n hx hb dX12_isIn_6 rfl (lv_at hl 2 rfl) ?_
    refine lv_icmp_gt (tgt := 14) hx hb dX12_isIn_7 (by decide) (fun c2 => ?_) (fun c2 => ?_)
    · refine lv_iconst (v := 0) hx hb dX12_isIn_14 (by decide) ?_
      exact hr_zret () C0 hp rfl (Or.inl rfl) ⟨Nat.le_refl _, Nat.le_refl _⟩ dX12_isIn_15 (if_neg (fun h => absurd h.2 (Int32.not_le.mpr c2))).symm
    · refine lv_iconst (v := 1) hx hb dX12_isIn_10 (by decide) ?_
      refine lv_goto (tgt := 15) hx hb dX12_isIn_11 (by decide) ?_
      exact hr_zret () C0 hp rfl (Or.inr rfl) ⟨Nat.le_refl _, Nat.le_refl _⟩ dX12_isIn_15 (if_pos ⟨Int32.not_lt.mp c1, Int32.not_lt.mp c2⟩).symm
set_option maxHeartbeats 4000000 in
set_option maxRecDepth 100000 in
/-- one -/
theorem hr_X12_one (l : Launch) (D : va_G) (z : Nat) (Y : va_W) (x : Int32) : hr_Ki l D z yX12_one (hr_wm yX12_one cX12_one 1 (some .int)) { frames := 0, cells := 0, slots := 0, locals := 0 } [.int x] Y 0 0 (fun (q : Int32) (_ : Unit) => q = hr_one x) (fun _ => Y) := by
  refine hr_Ki_of (by decide) (Nat.le_of_ble_eq_true rfl) ?_
  intro p e s m args below meth c ls A C0 hp hl
  obtain ⟨hx, hb, hr9, hml, hown, hts, hK, hlk, hA, hN, hnm9⟩ := id C0
  have hl : lv_has ls 1 [(0, .int x)] := hl
  refine lv_iload_n hx hb dX12_one_0 rfl (lv_at hl 0 rfl) ?_
  refine lv_if_eq (tgt := 8) hx hb dX12_one_1 (by decide) (fun c1 => ?_) (fun c1 => ?_)
  · refine lv_iconst (v := 0) hx hb dX12_one_8 (by decide) ?_
    exact hr_iret () C0 hp rfl ⟨Nat.le_refl _, Nat.le_refl _⟩ dX12_one_9 (if_pos c1).symm
  · refine lv_iconst (v := 1) hx hb dX12_one_4 (by decide) ?_
    refine lv_goto (tgt := 9) hx hb dX12_one_5 (by decide) ?_
    exact hr_iret () C0 hp rfl ⟨Nat.le_refl _, Nat.le_refl _⟩ dX12_one_9 (if_neg c1).symm
set_option maxHeartbeats 4000000 in
set_option maxRecDepth 100000 in
/-- size of list 2 -/
theorem hr_size_2 (l : Launch) (D : va_G) (a : Nat → Nat) (z : Nat) (th nw : Int32) : hr_Ki l D z yJx4a65c_size_8abf5 (hr_wm yJx4a65c_size_8abf5 cJx4a65c_size_8abf5 1 (some .int)) { frames := 0, cells := 0, slots := 0, locals := 0 } [.ref (a 2)] (hr_Y a z th nw) 0 0 (fun (q : Int32) (_ : Unit) => q = 0) (fun _ => hr_Y a z th nw) := by
  refine hr_Ki_of (by decide) (Nat.le_of_ble_eq_true rfl) ?_
  intro p e s m args below meth c ls A C0 hp hl
  obtain ⟨hx, hb, hr9, hml, hown, hts, hK, hlk, hA, hN, hnm9⟩ := id C0
  have hl : lv_has ls 1 [(0, .ref (a 2))] := hl
  refine lv_aload_n hx hb dJx4a65c_size_8abf5_0 rfl (lv_at hl 0 rfl) ?_
  refine hr_get C0 hp (q0 := 2) (C := RJx4a65c) (T := TJx4a65c) (N := 3) (ci := 0) rfl rfl hr_uJx4a65c 2 (by decide) hw_55 (fun _ h9 => h9) rfl dJx4a65c_size_8abf5_1 ?_
  exact hr_iret () C0 hp rfl ⟨Nat.le_of_ble_eq_true rfl, Nat.le_of_ble_eq_true rfl⟩ dJx4a65c_size_8abf5_4 rfl
set_option maxHeartbeats 4000000 in
set_option maxRecDepth 100000 in
/-- size of list 3 -/
theorem hr_size_3 (l : Launch) (D : va_G) (a : Nat → Nat) (z : Nat) (th nw : Int32) : hr_Ki l D z yJx4a65c_size_8abf5 (hr_wm yJx4a65c_size_8abf5 cJx4a65c_size_8abf5 1 (some .int)) { frames := 0, cells := 0, slots := 0, locals := 0 } [.ref (a 3)] (hr_Y a z th nw) 0 0 (fun (q : Int32) (_ : Unit) => q = 0) (fun _ => hr_Y a z th nw) := by
  refine hr_Ki_of (by decide) (Nat.le_of_ble_eq_true rfl) ?_
  intro p e s m args below meth c ls A C0 hp hl
  obtain ⟨hx, hb, hr9, hml, hown, hts, hK, hlk, hA, hN, hnm9⟩ := id C0
  have hl : lv_has ls 1 [(0, .ref (a 3))] := hl
  refine lv_aload_n hx hb dJx4a65c_size_8abf5_0 rfl (lv_at hl 0 rfl) ?_
  refine hr_get C0 hp (q0 := 3) (C := RJx4a65c) (T := TJx4a65c) (N := 3) (ci := 0) rfl rfl hr_uJx4a65c 2 (by decide) hw_55 (fun _ h9 => h9) rfl dJx4a65c_size_8abf5_1 ?_
  exact hr_iret () C0 hp rfl ⟨Nat.le_of_ble_eq_true rfl, Nat.le_of_ble_eq_true rfl⟩ dJx4a65c_size_8abf5_4 rfl
set_option maxHeartbeats 4000000 in
set_option maxRecDepth 100000 in
/-- size of list 4 -/
theorem hr_size_4 (l : Launch) (D : va_G) (a : Nat → Nat) (z : Nat) (th nw : Int32) : hr_Ki l D z yJx4a65c_size_8abf5 (hr_wm yJx4a65c_size_8abf5 cJx4a65c_size_8abf5 1 (some .int)) { frames := 0, cells := 0, slots := 0, locals := 0 } [.ref (a 4)] (hr_Y a z th nw) 0 0 (fun (q : Int32) (_ : Unit) => q = 0) (fun _ => hr_Y a z th nw) := by
  refine hr_Ki_of (by decide) (Nat.le_of_ble_eq_true rfl) ?_
  intro p e s m args below meth c ls A C0 hp hl
  obtain ⟨hx, hb, hr9, hml, hown, hts, hK, hlk, hA, hN, hnm9⟩ := id C0
  have hl : lv_has ls 1 [(0, .ref (a 4))] := hl
  refine lv_aload_n hx hb dJx4a65c_size_8abf5_0 rfl (lv_at hl 0 rfl) ?_
  refine hr_get C0 hp (q0 := 4) (C := RJx4a65c) (T := TJx4a65c) (N := 3) (ci := 0) rfl rfl hr_uJx4a65c 2 (by decide) hw_55 (fun _ h9 => h9) rfl dJx4a65c_size_8abf5_1 ?_
  exact hr_iret () C0 hp rfl ⟨Nat.le_of_ble_eq_true rfl, Nat.le_of_ble_eq_true rfl⟩ dJx4a65c_size_8abf5_4 rfl
set_option maxHeartbeats 4000000 in
set_option maxRecDepth 100000 in
/-- size of list 5 -/
theorem hr_size_5 (l : Launch) (D : va_G) (a : Nat → Nat) (z : Nat) (th nw : Int32) : hr_Ki l D z yJx4a65c_size_8abf5 (hr_wm yJx4a65c_size_8abf5 cJx4a65c_size_8abf5 1 (some .int)) { frames := 0, cells := 0, slots := 0, locals := 0 } [.ref (a 5)] (hr_Y a z th nw) 0 0 (fun (q : Int32) (_ : Unit) => q = 0) (fun _ => hr_Y a z th nw) := by
  refine hr_Ki_of (by decide) (Nat.le_of_ble_eq_true rfl) ?_
  intro p e s m args below meth c ls A C0 hp hl
  obtain ⟨hx, hb, hr9, hml, hown, hts, hK, hlk, hA, hN, hnm9⟩ := id C0
  have hl : lv_has ls 1 [(0, .ref (a 5))] := hl
  refine lv_aload_n hx hb dJx4a65c_size_8abf5_0 rfl (lv_at hl 0 rfl) ?_
  refine hr_get C0 hp (q0 := 5) (C := RJx4a65c) (T := TJx4a65c) (N := 3) (ci := 0) rfl rfl hr_uJx4a65c 2 (by decide) hw_55 (fun _ h9 => h9) rfl dJx4a65c_size_8abf5_1 ?_
  exact hr_iret () C0 hp rfl ⟨Nat.le_of_ble_eq_true rfl, Nat.le_of_ble_eq_true rfl⟩ dJx4a65c_size_8abf5_4 rfl
set_option maxHeartbeats 4000000 in
set_option maxRecDepth 100000 in
/-- a new iterator of list 3 -/
theorem hr_itr_3 (l : Launch) (D : va_G) (a : Nat → Nat) (z : Nat) (th nw : Int32) (b : Nat) : hr_Kv l D z yJx35411_init_45d68 (hr_wm yJx35411_init_45d68 cJx35411_init_45d68 2 none) { frames := 1, cells := 0, slots := 0, locals := 13 } [.ref b, .ref (a 3)] (hr_Y a z th nw ++ [(b, .inr (5, [.int 0, .int 0, .int 0, .null]))]) 0 0 (fun (_ : Unit) => True) (fun _ => (hr_Y a z th nw ++ [(b, .inr (5, [.int 0, .int (-1), .int 0, .ref (a 3)]))])) := by
  refine hr_Kv_of (by decide) (Nat.le_of_ble_eq_true rfl) ?_
  intro p e s m args below meth c ls A C0 hp hl
  obtain ⟨hx, hb, hr9, hml, hown, hts, hK, hlk, hA, hN, hnm9⟩ := id C0
  have hl : lv_has ls 2 [(0, .ref b), (1, .ref (a 3))] := hl
  refine lv_aload_n hx hb dJx35411_init_45d68_0 rfl (lv_at hl 0 rfl) ?_
  refine lv_aload_n hx hb dJx35411_init_45d68_1 rfl (lv_at hl 1 rfl) ?_
  refine hr_putF C0 hp (q0 := 6) (C := RJx35411) (T := TJx35411) (N := 4) (ci := 5) (ty0 := tyJx35411) (ty := (.object "java/util/ArrayList")) (Y' := (hr_Y a z th nw ++ [(b, .inr (5, [.int 0, .int 0, .int 0, .ref (a 3)]))])) rfl rfl hr_uJx35411 tyJx35411_ok nmJx35411 3 (by decide) hw_74 (fun _ h9 => h9) rfl rfl rfl (by decide +kernel) rfl rfl (Nat.le_of_ble_eq_true rfl) rfl dJx35411_init_45d68_2 (fun H locs hp => ?_)
  refine lv_aload_n hx hb dJx35411_init_45d68_5 rfl (lv_at hl 0 rfl) ?_
  refine hr_obj C0 hw_75 hw_2 hw_3 hl.1 dJx35411_init_45d68_6 (Nat.le_of_ble_eq_true rfl) (Nat.le_of_ble_eq_true rfl) ?_
  refine lv_aload_n hx hb dJx35411_init_45d68_9 rfl (lv_at hl 0 rfl) ?_
  refine lv_iconst (v := (-1)) hx hb dJx35411_init_45d68_10 (by decide) ?_
  refine hr_put C0 hp (q0 := 6) (C := RJx35411) (T := TJx35411) (N := 4) (ci := 5) (ty0 := tyJx35411) (ty := .int) (Y' := (hr_Y a z th nw ++ [(b, .inr (5, [.int 0, .int (-1), .int 0, .ref (a 3)]))])) rfl rfl hr_uJx35411 tyJx35411_ok nmJx35411 1 (by decide) hw_76 (fun _ h9 => h9) rfl (by decide +kernel) rfl rfl (Nat.le_of_ble_eq_true rfl) rfl dJx35411_init_45d68_11 (fun H locs hp => ?_)
  refine lv_aload_n hx hb dJx35411_init_45d68_14 rfl (lv_at hl 0 rfl) ?_
  refine lv_aload_n hx hb dJx35411_init_45d68_15 rfl (lv_at hl 0 rfl) ?_
  refine hr_get C0 hp (q0 := 6) (C := RJx35411) (T := TJx35411) (N := 4) (ci := 5) rfl rfl hr_uJx35411 3 (by decide) hw_74 (fun _ h9 => h9) rfl dJx35411_init_45d68_16 ?_
  refine hr_get C0 hp (q0 := 3) (C := RJx4a65c) (T := TJx4a65c) (N := 3) (ci := 0) rfl rfl hr_uJx4a65c 0 (by decide) hw_77 (u_same (hts _ hw_78)) rfl dJx35411_init_45d68_19 ?_
  refine hr_put C0 hp (q0 := 6) (C := RJx35411) (T := TJx35411) (N := 4) (ci := 5) (ty0 := tyJx35411) (ty := .int) (Y' := (hr_Y a z th nw ++ [(b, .inr (5, [.int 0, .int (-1), .int 0, .ref (a 3)]))])) rfl rfl hr_uJx35411 tyJx35411_ok nmJx35411 2 (by decide) hw_79 (fun _ h9 => h9) rfl (by decide +kernel) rfl rfl (Nat.le_of_ble_eq_true rfl) rfl dJx35411_init_45d68_22 (fun H locs hp => ?_)
  exact hr_vret () C0 hp rfl ⟨Nat.le_of_ble_eq_true rfl, Nat.le_of_ble_eq_true rfl⟩ dJx35411_init_45d68_25 trivial
set_option maxHeartbeats 4000000 in
set_option maxRecDepth 100000 in
/-- iterator() of list 3 -/
theorem hr_iter_3 (l : Launch) (D : va_G) (a : Nat → Nat) (z : Nat) (th nw : Int32) : hr_Kr l D z yJx4a65c_iterator_32c93 (hr_wm yJx4a65c_iterator_32c93 cJx4a65c_iterator_32c93 1 (some (.object "java/util/Iterator"))) { frames := 2, cells := 1, slots := 4, locals := 34 } [.ref (a 3)] (hr_Y a z th nw) 1 4 (fun (_ : Unit) => True) (fun _ q9 => (hr_Y a z th nw ++ [(q9, .inr (5, [.int 0, .int (-1), .int 0, .ref (a 3)]))])) (fun _ => []) := by
  refine hr_Kr_of (by decide) (Nat.le_of_ble_eq_true rfl) ?_
  intro p e s m args below meth c ls A C0 hp hl
  obtain ⟨hx, hb, hr9, hml, hown, hts, hK, hlk, hA, hN, hnm9⟩ := id C0
  have hl : lv_has ls 1 [(0, .ref (a 3))] := hl
  refine hr_new C0 hp (ci := 5) (fs := [.int 0, .int 0, .int 0, .null]) (C := RJx35411) (T := TJx35411) (N := 4) (ty0 := tyJx35411) rfl hr_uJx35411 tyJx35411_ok hw_68 hw_69 hw_70 (fun j hj => by rcases (show j = 0 ∨ j = 1 ∨ j = 2 ∨ j = 3 by omega) with rfl | rfl | rfl | rfl <;> rfl) (Nat.le_of_ble_eq_true rfl) (Nat.le_of_ble_eq_true rfl) dJx4a65c_iterator_32c93_0 (fun q_0 H hp => ?_)
  have hp : hr_H D A s.heap (hr_Y a z th nw ++ [(q_0, .inr (5, [.int 0, .int 0, .int 0, .null]))]) H _ := hp
  refine W.widen (k := 1) (n := 4) (by decide) (by decide) ?_
  refine lv_dup hx hb dJx4a65c_iterator_32c93_3 rfl ?_
  refine lv_aload_n hx hb dJx4a65c_iterator_32c93_4 rfl (lv_at hl 0 rfl) ?_
  refine hr_cIv C0 hp (rest := [.ref q_0]) (n := 1) [] (hr_itr_3 l D a z th nw q_0) rfl hw_73 hw_70 hw_71 hw_72 rfl ⟨rfl, rfl⟩ (by decide +kernel) ⟨Nat.le_of_ble_eq_true rfl, Nat.le_of_ble_eq_true rfl⟩ ⟨Nat.le_of_ble_eq_true rfl, Nat.le_of_ble_eq_true rfl⟩ hl.1 rfl rfl (Nat.le_of_ble_eq_true rfl) dJx4a65c_iterator_32c93_5 (fun u_5 H locs hv_5 hp => ?_)
  have hp : hr_H D A s.heap (hr_Y a z th nw ++ [(q_0, .inr (5, [.int 0, .int (-1), .int 0, .ref (a 3)]))]) H _ := hp
  exact hr_aret () C0 hp rfl (Or.inl ⟨_, rfl⟩) ⟨Nat.le_of_ble_eq_true rfl, Nat.le_of_ble_eq_true rfl⟩ dJx4a65c_iterator_32c93_8 trivial hK
set_option maxHeartbeats 4000000 in
set_option maxRecDepth 100000 in
/-- hasNext() over list 3 -/
theorem hr_has_3 (l : Launch) (D : va_G) (a : Nat → Nat) (z : Nat) (th nw : Int32) (b : Nat) : hr_Ki l D z yJx35411_hasNext_aae02 (hr_wm yJx35411_hasNext_aae02 cJx35411_hasNext_aae02 1 (some .boolean)) { frames := 0, cells := 0, slots := 0, locals := 0 } [.ref b] (hr_Y a z th nw ++ [(b, .inr (5, [.int 0, .int (-1), .int 0, .ref (a 3)]))]) 0 0 (fun (q : Int32) (_ : Unit) => q = 0) (fun _ => (hr_Y a z th nw ++ [(b, .inr (5, [.int 0, .int (-1), .int 0, .ref (a 3)]))])) := by
  refine hr_Ki_of (by decide) (Nat.le_of_ble_eq_true rfl) ?_
  intro p e s m args below meth c ls A C0 hp hl
  obtain ⟨hx, hb, hr9, hml, hown, hts, hK, hlk, hA, hN, hnm9⟩ := id C0
  have hl : lv_has ls 1 [(0, .ref b)] := hl
  refine lv_aload_n hx hb dJx35411_hasNext_aae02_0 rfl (lv_at hl 0 rfl) ?_
  refine hr_get C0 hp (q0 := 6) (C := RJx35411) (T := TJx35411) (N := 4) (ci := 5) rfl rfl hr_uJx35411 0 (by decide) hw_84 (fun _ h9 => h9) rfl dJx35411_hasNext_aae02_1 ?_
  refine lv_aload_n hx hb dJx35411_hasNext_aae02_4 rfl (lv_at hl 0 rfl) ?_
  refine hr_get C0 hp (q0 := 6) (C := RJx35411) (T := TJx35411) (N := 4) (ci := 5) rfl rfl hr_uJx35411 3 (by decide) hw_74 (fun _ h9 => h9) rfl dJx35411_hasNext_aae02_5 ?_
  refine va_getN (D := D) (cl := hr_cl) (ws := (hr_Y a z th nw ++ [(b, .inr (5, [.int 0, .int (-1), .int 0, .ref (a 3)]))])) (ci := 0) (C := RJx4a65c) (T := TJx4a65c) (N := 3) hx hb hts hr_uJx4a65c hown hK hp.1 3 rfl rfl 2 (by decide) (va_Nw.use rfl hN.1.2.2.1) (fun _ h9 => h9) rfl dJx35411_hasNext_aae02_8 ?_
  refine lv_icmp_eq (tgt := 18) hx hb dJx35411_hasNext_aae02_11 (by decide) (fun _ => ?_) (fun c9 => absurd c9 (by decide))
  refine lv_iconst (v := 0) hx hb dJx35411_hasNext_aae02_18 (by decide) ?_
  exact hr_zret () C0 hp rfl (by decide) ⟨Nat.le_of_ble_eq_true rfl, Nat.le_of_ble_eq_true rfl⟩ dJx35411_hasNext_aae02_19 rfl
set_option maxHeartbeats 4000000 in
set_option maxRecDepth 100000 in
/-- a new iterator of list 4 -/
theorem hr_itr_4 (l : Launch) (D : va_G) (a : Nat → Nat) (z : Nat) (th nw : Int32) (b : Nat) : hr_Kv l D z yJx35411_init_45d68 (hr_wm yJx35411_init_45d68 cJx35411_init_45d68 2 none) { frames := 1, cells := 0, slots := 0, locals := 13 } [.ref b, .ref (a 4)] (hr_Y a z th nw ++ [(b, .inr (5, [.int 0, .int 0, .int 0, .null]))]) 0 0 (fun (_ : Unit) => True) (fun _ => (hr_Y a z th nw ++ [(b, .inr (5, [.int 0, .int (-1), .int 0, .ref (a 4)]))])) := by
  refine hr_Kv_of (by decide) (Nat.le_of_ble_eq_true rfl) ?_
  intro p e s m args below meth c ls A C0 hp hl
  obtain ⟨hx, hb, hr9, hml, hown, hts, hK, hlk, hA, hN, hnm9⟩ := id C0
  have hl : lv_has ls 2 [(0, .ref b), (1, .ref (a 4))] := hl
  refine lv_aload_n hx hb dJx35411_init_45d68_0 rfl (lv_at hl 0 rfl) ?_
  refine lv_aload_n hx hb dJx35411_init_45d68_1 rfl (lv_at hl 1 rfl) ?_
  refine hr_putF C0 hp (q0 := 6) (C := RJx35411) (T := TJx35411) (N := 4) (ci := 5) (ty0 := tyJx35411) (ty := (.object "java/util/ArrayList")) (Y' := (hr_Y a z th nw ++ [(b, .inr (5, [.int 0, .int 0, .int 0, .ref (a 4)]))])) rfl rfl hr_uJx35411 tyJx35411_ok nmJx35411 3 (by decide) hw_74 (fun _ h9 => h9) rfl rfl rfl (by decide +kernel) rfl rfl (Nat.le_of_ble_eq_true rfl) rfl dJx35411_init_45d68_2 (fun H locs hp => ?_)
  refine lv_aload_n hx hb dJx35411_init_45d68_5 rfl (lv_at hl 0 rfl) ?_
  refine hr_obj C0 hw_75 hw_2 hw_3 hl.1 dJx35411_init_45d68_6 (Nat.le_of_ble_eq_true rfl) (Nat.le_of_ble_eq_true rfl) ?_
  refine lv_aload_n hx hb dJx35411_init_45d68_9 rfl (lv_at hl 0 rfl) ?_
  refine lv_iconst (v := (-1)) hx hb dJx35411_init_45d68_10 (by decide) ?_
  refine hr_put C0 hp (q0 := 6) (C := RJx35411) (T := TJx35411) (N := 4) (ci := 5) (ty0 := tyJx35411) (ty := .int) (Y' := (hr_Y a z th nw ++ [(b, .inr (5, [.int 0, .int (-1), .int 0, .ref (a 4)]))])) rfl rfl hr_uJx35411 tyJx35411_ok nmJx35411 1 (by decide) hw_76 (fun _ h9 => h9) rfl (by decide +kernel) rfl rfl (Nat.le_of_ble_eq_true rfl) rfl dJx35411_init_45d68_11 (fun H locs hp => ?_)
  refine lv_aload_n hx hb dJx35411_init_45d68_14 rfl (lv_at hl 0 rfl) ?_
  refine lv_aload_n hx hb dJx35411_init_45d68_15 rfl (lv_at hl 0 rfl) ?_
  refine hr_get C0 hp (q0 := 6) (C := RJx35411) (T := TJx35411) (N := 4) (ci := 5) rfl rfl hr_uJx35411 3 (by decide) hw_74 (fun _ h9 => h9) rfl dJx35411_init_45d68_16 ?_
  refine hr_get C0 hp (q0 := 4) (C := RJx4a65c) (T := TJx4a65c) (N := 3) (ci := 0) rfl rfl hr_uJx4a65c 0 (by decide) hw_77 (u_same (hts _ hw_78)) rfl dJx35411_init_45d68_19 ?_
  refine hr_put C0 hp (q0 := 6) (C := RJx35411) (T := TJx35411) (N := 4) (ci := 5) (ty0 := tyJx35411) (ty := .int) (Y' := (hr_Y a z th nw ++ [(b, .inr (5, [.int 0, .int (-1), .int 0, .ref (a 4)]))])) rfl rfl hr_uJx35411 tyJx35411_ok nmJx35411 2 (by decide) hw_79 (fun _ h9 => h9) rfl (by decide +kernel) rfl rfl (Nat.le_of_ble_eq_true rfl) rfl dJx35411_init_45d68_22 (fun H locs hp => ?_)
  exact hr_vret () C0 hp rfl ⟨Nat.le_of_ble_eq_true rfl, Nat.le_of_ble_eq_true rfl⟩ dJx35411_init_45d68_25 trivial
set_option maxHeartbeats 4000000 in
set_option maxRecDepth 100000 in
/-- iterator() of list 4 -/
theorem hr_iter_4 (l : Launch) (D : va_G) (a : Nat → Nat) (z : Nat) (th nw : Int32) : hr_Kr l D z yJx4a65c_iterator_32c93 (hr_wm yJx4a65c_iterator_32c93 cJx4a65c_iterator_32c93 1 (some (.object "java/util/Iterator"))) { frames := 2, cells := 1, slots := 4, locals := 34 } [.ref (a 4)] (hr_Y a z th nw) 1 4 (fun (_ : Unit) => True) (fun _ q9 => (hr_Y a z th nw ++ [(q9, .inr (5, [.int 0, .int (-1), .int 0, .ref (a 4)]))])) (fun _ => []) := by
  refine hr_Kr_of (by decide) (Nat.le_of_ble_eq_true rfl) ?_
  intro p e s m args below meth c ls A C0 hp hl
  obtain ⟨hx, hb, hr9, hml, hown, hts, hK, hlk, hA, hN, hnm9⟩ := id C0
  have hl : lv_has ls 1 [(0, .ref (a 4))] := hl
  refine hr_new C0 hp (ci := 5) (fs := [.int 0, .int 0, .int 0, .null]) (C := RJx35411) (T := TJx35411) (N := 4) (ty0 := tyJx35411) rfl hr_uJx35411 tyJx35411_ok hw_68 hw_69 hw_70 (fun j hj => by rcases (show j = 0 ∨ j = 1 ∨ j = 2 ∨ j = 3 by omega) with rfl | rfl | rfl | rfl <;> rfl) (Nat.le_of_ble_eq_true rfl) (Nat.le_of_ble_eq_true rfl) dJx4a65c_iterator_32c93_0 (fun q_0 H hp => ?_)
  have hp : hr_H D A s.heap (hr_Y a z th nw ++ [(q_0, .inr (5, [.int 0, .int 0, .int 0, .null]))]) H _ := hp
  refine W.widen (k := 1) (n := 4) (by decide) (by decide) ?_
  refine lv_dup hx hb dJx4a65c_iterator_32c93_3 rfl ?_
  refine lv_aload_n hx hb dJx4a65c_iterator_32c93_4 rfl (lv_at hl 0 rfl) ?_
  refine hr_cIv C0 hp (rest := [.ref q_0]) (n := 1) [] (hr_itr_4 l D a z th nw q_0) rfl hw_73 hw_70 hw_71 hw_72 rfl ⟨rfl, rfl⟩ (by decide +kernel) ⟨Nat.le_of_ble_eq_true rfl, Nat.le_of_ble_eq_true rfl⟩ ⟨Nat.le_of_ble_eq_true rfl, Nat.le_of_ble_eq_true rfl⟩ hl.1 rfl rfl (Nat.le_of_ble_eq_true rfl) dJx4a65c_iterator_32c93_5 (fun u_5 H locs hv_5 hp => ?_)
  have hp : hr_H D A s.heap (hr_Y a z th nw ++ [(q_0, .inr (5, [.int 0, .int (-1), .int 0, .ref (a 4)]))]) H _ := hp
  exact hr_aret () C0 hp rfl (Or.inl ⟨_, rfl⟩) ⟨Nat.le_of_ble_eq_true rfl, Nat.le_of_ble_eq_true rfl⟩ dJx4a65c_iterator_32c93_8 trivial hK
set_option maxHeartbeats 4000000 in
set_option maxRecDepth 100000 in
/-- hasNext() over list 4 -/
theorem hr_has_4 (l : Launch) (D : va_G) (a : Nat → Nat) (z : Nat) (th nw : Int32) (b : Nat) : hr_Ki l D z yJx35411_hasNext_aae02 (hr_wm yJx35411_hasNext_aae02 cJx35411_hasNext_aae02 1 (some .boolean)) { frames := 0, cells := 0, slots := 0, locals := 0 } [.ref b] (hr_Y a z th nw ++ [(b, .inr (5, [.int 0, .int (-1), .int 0, .ref (a 4)]))]) 0 0 (fun (q : Int32) (_ : Unit) => q = 0) (fun _ => (hr_Y a z th nw ++ [(b, .inr (5, [.int 0, .int (-1), .int 0, .ref (a 4)]))])) := by
  refine hr_Ki_of (by decide) (Nat.le_of_ble_eq_true rfl) ?_
  intro p e s m args below meth c ls A C0 hp hl
  obtain ⟨hx, hb, hr9, hml, hown, hts, hK, hlk, hA, hN, hnm9⟩ := id C0
  have hl : lv_has ls 1 [(0, .ref b)] := hl
  refine lv_aload_n hx hb dJx35411_hasNext_aae02_0 rfl (lv_at hl 0 rfl) ?_
  refine hr_get C0 hp (q0 := 6) (C := RJx35411) (T := TJx35411) (N := 4) (ci := 5) rfl rfl hr_uJx35411 0 (by decide) hw_84 (fun _ h9 => h9) rfl dJx35411_hasNext_aae02_1 ?_
  refine lv_aload_n hx hb dJx35411_hasNext_aae02_4 rfl (lv_at hl 0 rfl) ?_
  refine hr_get C0 hp (q0 := 6) (C := RJx35411) (T := TJx35411) (N := 4) (ci := 5) rfl rfl hr_uJx35411 3 (by decide) hw_74 (fun _ h9 => h9) rfl dJx35411_hasNext_aae02_5 ?_
  refine va_getN (D := D) (cl := hr_cl) (ws := (hr_Y a z th nw ++ [(b, .inr (5, [.int 0, .int (-1), .int 0, .ref (a 4)]))])) (ci := 0) (C := RJx4a65c) (T := TJx4a65c) (N := 3) hx hb hts hr_uJx4a65c hown hK hp.1 4 rfl rfl 2 (by decide) (va_Nw.use rfl hN.1.2.2.1) (fun _ h9 => h9) rfl dJx35411_hasNext_aae02_8 ?_
  refine lv_icmp_eq (tgt := 18) hx hb dJx35411_hasNext_aae02_11 (by decide) (fun _ => ?_) (fun c9 => absurd c9 (by decide))
  refine lv_iconst (v := 0) hx hb dJx35411_hasNext_aae02_18 (by decide) ?_
  exact hr_zret () C0 hp rfl (by decide) ⟨Nat.le_of_ble_eq_true rfl, Nat.le_of_ble_eq_true rfl⟩ dJx35411_hasNext_aae02_19 rfl
set_option maxHeartbeats 4000000 in
set_option maxRecDepth 100000 in
/-- thrown -/
theorem hr_X12_thrown (l : Launch) (D : va_G) (a : Nat → Nat) (z : Nat) (th nw : Int32) : hr_Ki l D z yX12_thrown (hr_wm yX12_thrown cX12_thrown 1 (some .int)) { frames := 0, cells := 0, slots := 0, locals := 0 } [.ref (a 0)] (hr_Y a z th nw) 0 0 (fun (q : Int32) (_ : Unit) => q = th) (fun _ => hr_Y a z th nw) := by
  refine hr_Ki_of (by decide) (Nat.le_of_ble_eq_true rfl) ?_
  intro p e s m args below meth c ls A C0 hp hl
  obtain ⟨hx, hb, hr9, hml, hown, hts, hK, hlk, hA, hN, hnm9⟩ := id C0
  have hl : lv_has ls 1 [(0, .ref (a 0))] := hl
  refine lv_aload_n hx hb dX12_thrown_0 rfl (lv_at hl 0 rfl) ?_
  refine hr_get C0 hp (q0 := 0) (C := RX12) (T := TX12) (N := 4) (ci := 2) rfl rfl hr_uX12 0 (by decide) hw_142 (fun _ h9 => h9) rfl dX12_thrown_1 ?_
  exact hr_iret () C0 hp rfl ⟨Nat.le_of_ble_eq_true rfl, Nat.le_of_ble_eq_true rfl⟩ dX12_thrown_4 rfl
set_option maxHeartbeats 4000000 in
set_option maxRecDepth 100000 in
/-- refuse -/
theorem hr_refuse_0 (l : Launch) (D : va_G) (a : Nat → Nat) (z : Nat) (nw : Int32) (wh : Int32) : hr_Ki l D z yX12_refuse (hr_wm yX12_refuse cX12_refuse 3 (some .boolean)) { frames := 0, cells := 0, slots := 0, locals := 0 } [.ref (a 0), .int 0, .int wh] (hr_Y a z 0 nw) 0 0 (fun (q : Int32) (_ : Unit) => q = 0) (fun _ => hr_Y a z 0 nw) := by
  refine hr_Ki_of (by decide) (Nat.le_of_ble_eq_true rfl) ?_
  intro p e s m args below meth c ls A C0 hp hl
  obtain ⟨hx, hb, hr9, hml, hown, hts, hK, hlk, hA, hN, hnm9⟩ := id C0
  have hl : lv_has ls 3 [(0, .ref (a 0)), (1, .int 0), (2, .int wh)] := hl
  refine lv_iload_n hx hb dX12_refuse_0 rfl (lv_at hl 1 rfl) ?_
  refine lv_if_eq (tgt := 16) hx hb dX12_refuse_1 (by decide) (fun _ => ?_) (fun c9 => absurd c9 (by decide))
  refine lv_aload_n hx hb dX12_refuse_16 rfl (lv_at hl 0 rfl) ?_
  refine hr_get C0 hp (q0 := 0) (C := RX12) (T := TX12) (N := 4) (ci := 2) rfl rfl hr_uX12 0 (by decide) hw_142 (fun _ h9 => h9) rfl dX12_refuse_17 ?_
  refine lv_if_le (tgt := 27) hx hb dX12_refuse_20 (by decide) (fun _ => ?_) (fun c9 => absurd c9 (by decide))
  refine lv_iconst (v := 0) hx hb dX12_refuse_27 (by decide) ?_
  exact hr_zret () C0 hp rfl (by decide) ⟨Nat.le_of_ble_eq_true rfl, Nat.le_of_ble_eq_true rfl⟩ dX12_refuse_28 rfl
set_option maxHeartbeats 4000000 in
set_option maxRecDepth 100000 in
/-- refuse -/
theorem hr_refuse_1 (l : Launch) (D : va_G) (a : Nat → Nat) (z : Nat) (nw : Int32) : hr_Ki l D z yX12_refuse (hr_wm yX12_refuse cX12_refuse 3 (some .boolean)) { frames := 0, cells := 0, slots := 0, locals := 0 } [.ref (a 0), .int 1, .int 1] (hr_Y a z 0 nw) 0 0 (fun (q : Int32) (_ : Unit) => q = 1) (fun _ => hr_Y a z 1 nw) := by
  refine hr_Ki_of (by decide) (Nat.le_of_ble_eq_true rfl) ?_
  intro p e s m args below meth c ls A C0 hp hl
  obtain ⟨hx, hb, hr9, hml, hown, hts, hK, hlk, hA, hN, hnm9⟩ := id C0
  have hl : lv_has ls 3 [(0, .ref (a 0)), (1, .int 1), (2, .int 1)] := hl
  refine lv_iload_n hx hb dX12_refuse_0 rfl (lv_at hl 1 rfl) ?_
  refine lv_if_eq (tgt := 16) hx hb dX12_refuse_1 (by decide) (fun c9 => absurd c9 (by decide)) (fun _ => ?_)
  refine lv_aload_n hx hb dX12_refuse_4 rfl (lv_at hl 0 rfl) ?_
  refine hr_get C0 hp (q0 := 0) (C := RX12) (T := TX12) (N := 4) (ci := 2) rfl rfl hr_uX12 0 (by decide) hw_142 (fun _ h9 => h9) rfl dX12_refuse_5 ?_
  refine lv_if_ne (tgt := 16) hx hb dX12_refuse_8 (by decide) (fun c9 => absurd c9 (by decide)) (fun _ => ?_)
  refine lv_aload_n hx hb dX12_refuse_11 rfl (lv_at hl 0 rfl) ?_
  refine lv_iload_n hx hb dX12_refuse_12 rfl (lv_at hl 2 rfl) ?_
  refine hr_put C0 hp (q0 := 0) (C := RX12) (T := TX12) (N := 4) (ci := 2) (ty0 := tyX12) (ty := .int) (Y' := (hr_Y a z 1 nw)) rfl rfl hr_uX12 tyX12_ok nmX12 0 (by decide) hw_142 (fun _ h9 => h9) rfl (by decide +kernel) rfl rfl (Nat.le_of_ble_eq_true rfl) rfl dX12_refuse_13 (fun H locs hp => ?_)
  refine lv_aload_n hx hb dX12_refuse_16 rfl (lv_at hl 0 rfl) ?_
  refine hr_get C0 hp (q0 := 0) (C := RX12) (T := TX12) (N := 4) (ci := 2) rfl rfl hr_uX12 0 (by decide) hw_142 (fun _ h9 => h9) rfl dX12_refuse_17 ?_
  refine lv_if_le (tgt := 27) hx hb dX12_refuse_20 (by decide) (fun c9 => absurd c9 (by decide)) (fun _ => ?_)
  refine lv_iconst (v := 1) hx hb dX12_refuse_23 (by decide) ?_
  refine lv_goto (tgt := 28) hx hb dX12_refuse_24 (by decide) ?_
  exact hr_zret () C0 hp rfl (by decide) ⟨Nat.le_of_ble_eq_true rfl, Nat.le_of_ble_eq_true rfl⟩ dX12_refuse_28 rfl
set_option maxHeartbeats 4000000 in
set_option maxRecDepth 100000 in
/-- start -/
theorem hr_start_0 (l : Launch) (D : va_G) (a : Nat → Nat) (z : Nat) (th nw : Int32) : hr_Ki l D z yX12_start (hr_wm yX12_start cX12_start 3 (some .boolean)) { frames := 1, cells := 0, slots := 0, locals := 22 } [.ref (a 0), .int 0, .int 1] (hr_Y a z th nw) 0 0 (fun (q : Int32) (_ : Unit) => q = 0) (fun _ => hr_Y a z 0 nw) := by
  refine hr_Ki_of (by decide) (Nat.le_of_ble_eq_true rfl) ?_
  intro p e s m args below meth c ls A C0 hp hl
  obtain ⟨hx, hb, hr9, hml, hown, hts, hK, hlk, hA, hN, hnm9⟩ := id C0
  have hl : lv_has ls 3 [(0, .ref (a 0)), (1, .int 0), (2, .int 1)] := hl
  refine lv_aload_n hx hb dX12_start_0 rfl (lv_at hl 0 rfl) ?_
  refine lv_iconst (v := 0) hx hb dX12_start_1 (by decide) ?_
  refine hr_put C0 hp (q0 := 0) (C := RX12) (T := TX12) (N := 4) (ci := 2) (ty0 := tyX12) (ty := .int) (Y' := (hr_Y a z 0 nw)) rfl rfl hr_uX12 tyX12_ok nmX12 0 (by decide) hw_142 (fun _ h9 => h9) rfl (by decide +kernel) rfl rfl (Nat.le_of_ble_eq_true rfl) rfl dX12_start_2 (fun H locs hp => ?_)
  refine lv_aload_n hx hb dX12_start_5 rfl (lv_at hl 0 rfl) ?_
  refine lv_iload_n hx hb dX12_start_6 rfl (lv_at hl 1 rfl) ?_
  refine lv_iload_n hx hb dX12_start_7 rfl (lv_at hl 2 rfl) ?_
  refine hr_cVi C0 hp (q0 := 0) (ci := 2) (Cn := RX12) (T := TX12) (N := 4) (rest := []) (n := 2) [] (hr_refuse_0 l D a z nw 1) rfl rfl rfl (hr_gV hw_145 hw_146 hw_147 hw_105 hw_143) ⟨rfl, rfl⟩ (by decide +kernel) ⟨Nat.le_of_ble_eq_true rfl, Nat.le_of_ble_eq_true rfl⟩ ⟨Nat.le_of_ble_eq_true rfl, Nat.le_of_ble_eq_true rfl⟩ hl.1 rfl rfl (Nat.le_of_ble_eq_true rfl) dX12_start_8 (fun q_8 u_8 H locs hv_8 hp => ?_)
  subst hv_8
  have hp : hr_H D A s.heap (hr_Y a z 0 nw) H _ := hp
  exact hr_zret () C0 hp rfl (by decide) ⟨Nat.le_of_ble_eq_true rfl, Nat.le_of_ble_eq_true rfl⟩ dX12_start_11 rfl
set_option maxHeartbeats 4000000 in
set_option maxRecDepth 100000 in
/-- start -/
theorem hr_start_1 (l : Launch) (D : va_G) (a : Nat → Nat) (z : Nat) (th nw : Int32) : hr_Ki l D z yX12_start (hr_wm yX12_start cX12_start 3 (some .boolean)) { frames := 1, cells := 0, slots := 0, locals := 22 } [.ref (a 0), .int 1, .int 1] (hr_Y a z th nw) 0 0 (fun (q : Int32) (_ : Unit) => q = 1) (fun _ => hr_Y a z 1 nw) := by
  refine hr_Ki_of (by decide) (Nat.le_of_ble_eq_true rfl) ?_
  intro p e s m args below meth c ls A C0 hp hl
  obtain ⟨hx, hb, hr9, hml, hown, hts, hK, hlk, hA, hN, hnm9⟩ := id C0
  have hl : lv_has ls 3 [(0, .ref (a 0)), (1, .int 1), (2, .int 1)] := hl
  refine lv_aload_n hx hb dX12_start_0 rfl (lv_at hl 0 rfl) ?_
  refine lv_iconst (v := 0) hx hb dX12_start_1 (by decide) ?_
  refine hr_put C0 hp (q0 := 0) (C := RX12) (T := TX12) (N := 4) (ci := 2) (ty0 := tyX12) (ty := .int) (Y' := (hr_Y a z 0 nw)) rfl rfl hr_uX12 tyX12_ok nmX12 0 (by decide) hw_142 (fun _ h9 => h9) rfl (by decide +kernel) rfl rfl (Nat.le_of_ble_eq_true rfl) rfl dX12_start_2 (fun H locs hp => ?_)
  refine lv_aload_n hx hb dX12_start_5 rfl (lv_at hl 0 rfl) ?_
  refine lv_iload_n hx hb dX12_start_6 rfl (lv_at hl 1 rfl) ?_
  refine lv_iload_n hx hb dX12_start_7 rfl (lv_at hl 2 rfl) ?_
  refine hr_cVi C0 hp (q0 := 0) (ci := 2) (Cn := RX12) (T := TX12) (N := 4) (rest := []) (n := 2) [] (hr_refuse_1 l D a z nw) rfl rfl rfl (hr_gV hw_145 hw_146 hw_147 hw_105 hw_143) ⟨rfl, rfl⟩ (by decide +kernel) ⟨Nat.le_of_ble_eq_true rfl, Nat.le_of_ble_eq_true rfl⟩ ⟨Nat.le_of_ble_eq_true rfl, Nat.le_of_ble_eq_true rfl⟩ hl.1 rfl rfl (Nat.le_of_ble_eq_true rfl) dX12_start_8 (fun q_8 u_8 H locs hv_8 hp => ?_)
  subst hv_8
  have hp : hr_H D A s.heap (hr_Y a z 1 nw) H _ := hp
  exact hr_zret () C0 hp rfl (by decide) ⟨Nat.le_of_ble_eq_true rfl, Nat.le_of_ble_eq_true rfl⟩ dX12_start_11 rfl
set_option maxHeartbeats 4000000 in
set_option maxRecDepth 100000 in
/-- isNoMast -/
theorem hr_X12_isNoMast (l : Launch) (D : va_G) (a : Nat → Nat) (z : Nat) (th nw : Int32) (x : Int32) : hr_Ki l D z yX12_isNoMast (hr_wm yX12_isNoMast cX12_isNoMast 2 (some .boolean)) { frames := 1, cells := 0, slots := 0, locals := 22 } [.ref (a 0), .int x] (hr_Y a z th nw) 0 0 (fun (q : Int32) (_ : Unit) => q = 1) (fun _ => hr_Y a z th nw) := by
  refine hr_Ki_of (by decide) (Nat.le_of_ble_eq_true rfl) ?_
  intro p e s m args below meth c ls A C0 hp hl
  obtain ⟨hx, hb, hr9, hml, hown, hts, hK, hlk, hA, hN, hnm9⟩ := id C0
  have hl : lv_has ls 2 [(0, .ref (a 0)), (1, .int x)] := hl
  refine lv_iload_n hx hb dX12_isNoMast_0 rfl (lv_at hl 1 rfl) ?_
  refine lv_iconst (v := 0) hx hb dX12_isNoMast_1 (by decide) ?_
  refine lv_aload_n hx hb dX12_isNoMast_2 rfl (lv_at hl 0 rfl) ?_
  refine hr_get C0 hp (q0 := 0) (C := RX12) (T := TX12) (N := 4) (ci := 2) rfl rfl hr_uX12 1 (by decide) hw_139 (fun _ h9 => h9) rfl dX12_isNoMast_3 ?_
  refine hr_get C0 hp (q0 := 1) (C := RX11) (T := TX11) (N := 5) (ci := 1) rfl rfl hr_uX11 0 (by decide) hw_149 (fun _ h9 => h9) rfl dX12_isNoMast_6 ?_
  refine hr_cVi C0 hp (q0 := 2) (ci := 0) (Cn := RJx4a65c) (T := TJx4a65c) (N := 3) (rest := [.int 0, .int x]) (n := 0) [] (hr_size_2 l D a z th nw) rfl rfl rfl (hr_gV hw_150 hw_52 hw_53 hw_26 hw_54) ⟨rfl, rfl⟩ (by decide +kernel) ⟨Nat.le_of_ble_eq_true rfl, Nat.le_of_ble_eq_true rfl⟩ ⟨Nat.le_of_ble_eq_true rfl, Nat.le_of_ble_eq_true rfl⟩ hl.1 rfl rfl (Nat.le_of_ble_eq_true rfl) dX12_isNoMast_9 (fun q_9 u_9 H locs hv_9 hp => ?_)
  subst hv_9
  have hp : hr_H D A s.heap (hr_Y a z th nw) H _ := hp
  refine lv_iconst (v := 1) hx hb dX12_isNoMast_12 (by decide) ?_
  refine lv_isub hx hb dX12_isNoMast_13 ?_
  rw [show (0 : Int32) - 1 = (-1) from by decide]
  refine hr_cSi C0 hp (rest := []) (n := 3) [] (hr_X12_isIn l D z (hr_Y a z th nw) (x) (0) ((-1))) rfl (hr_gS hw_151 hw_104 hw_105 hw_106) ⟨rfl, rfl⟩ (by decide +kernel) ⟨Nat.le_of_ble_eq_true rfl, Nat.le_of_ble_eq_true rfl⟩ ⟨Nat.le_of_ble_eq_true rfl, Nat.le_of_ble_eq_true rfl⟩ hl.1 rfl rfl (Nat.le_of_ble_eq_true rfl) dX12_isNoMast_14 (fun q_14 u_14 H locs hv_14 hp => ?_)
  subst hv_14
  have hp : hr_H D A s.heap (hr_Y a z th nw) H _ := hp
  rw [hr_in_no]
  refine lv_if_ne (tgt := 24) hx hb dX12_isNoMast_17 (by decide) (fun c9 => absurd c9 (by decide)) (fun _ => ?_)
  refine lv_iconst (v := 1) hx hb dX12_isNoMast_20 (by decide) ?_
  refine lv_goto (tgt := 25) hx hb dX12_isNoMast_21 (by decide) ?_
  exact hr_zret () C0 hp rfl (by decide) ⟨Nat.le_of_ble_eq_true rfl, Nat.le_of_ble_eq_true rfl⟩ dX12_isNoMast_25 rfl
set_option maxHeartbeats 4000000 in
set_option maxRecDepth 100000 in
/-- isNoPhone -/
theorem hr_X12_isNoPhone (l : Launch) (D : va_G) (a : Nat → Nat) (z : Nat) (th nw : Int32) (x : Int32) : hr_Ki l D z yX12_isNoPhone (hr_wm yX12_isNoPhone cX12_isNoPhone 2 (some .boolean)) { frames := 1, cells := 0, slots := 0, locals := 22 } [.ref (a 0), .int x] (hr_Y a z th nw) 0 0 (fun (q : Int32) (_ : Unit) => q = 1) (fun _ => hr_Y a z th nw) := by
  refine hr_Ki_of (by decide) (Nat.le_of_ble_eq_true rfl) ?_
  intro p e s m args below meth c ls A C0 hp hl
  obtain ⟨hx, hb, hr9, hml, hown, hts, hK, hlk, hA, hN, hnm9⟩ := id C0
  have hl : lv_has ls 2 [(0, .ref (a 0)), (1, .int x)] := hl
  refine lv_iload_n hx hb dX12_isNoPhone_0 rfl (lv_at hl 1 rfl) ?_
  refine lv_iconst (v := 0) hx hb dX12_isNoPhone_1 (by decide) ?_
  refine lv_aload_n hx hb dX12_isNoPhone_2 rfl (lv_at hl 0 rfl) ?_
  refine hr_get C0 hp (q0 := 0) (C := RX12) (T := TX12) (N := 4) (ci := 2) rfl rfl hr_uX12 1 (by decide) hw_139 (fun _ h9 => h9) rfl dX12_isNoPhone_3 ?_
  refine hr_get C0 hp (q0 := 1) (C := RX11) (T := TX11) (N := 5) (ci := 1) rfl rfl hr_uX11 1 (by decide) hw_153 (fun _ h9 => h9) rfl dX12_isNoPhone_6 ?_
  refine hr_cVi C0 hp (q0 := 3) (ci := 0) (Cn := RJx4a65c) (T := TJx4a65c) (N := 3) (rest := [.int 0, .int x]) (n := 0) [] (hr_size_3 l D a z th nw) rfl rfl rfl (hr_gV hw_150 hw_52 hw_53 hw_26 hw_54) ⟨rfl, rfl⟩ (by decide +kernel) ⟨Nat.le_of_ble_eq_true rfl, Nat.le_of_ble_eq_true rfl⟩ ⟨Nat.le_of_ble_eq_true rfl, Nat.le_of_ble_eq_true rfl⟩ hl.1 rfl rfl (Nat.le_of_ble_eq_true rfl) dX12_isNoPhone_9 (fun q_9 u_9 H locs hv_9 hp => ?_)
  subst hv_9
  have hp : hr_H D A s.heap (hr_Y a z th nw) H _ := hp
  refine lv_iconst (v := 1) hx hb dX12_isNoPhone_12 (by decide) ?_
  refine lv_isub hx hb dX12_isNoPhone_13 ?_
  rw [show (0 : Int32) - 1 = (-1) from by decide]
  refine hr_cSi C0 hp (rest := []) (n := 3) [] (hr_X12_isIn l D z (hr_Y a z th nw) (x) (0) ((-1))) rfl (hr_gS hw_151 hw_104 hw_105 hw_106) ⟨rfl, rfl⟩ (by decide +kernel) ⟨Nat.le_of_ble_eq_true rfl, Nat.le_of_ble_eq_true rfl⟩ ⟨Nat.le_of_ble_eq_true rfl, Nat.le_of_ble_eq_true rfl⟩ hl.1 rfl rfl (Nat.le_of_ble_eq_true rfl) dX12_isNoPhone_14 (fun q_14 u_14 H locs hv_14 hp => ?_)
  subst hv_14
  have hp : hr_H D A s.heap (hr_Y a z th nw) H _ := hp
  rw [hr_in_no]
  refine lv_if_ne (tgt := 24) hx hb dX12_isNoPhone_17 (by decide) (fun c9 => absurd c9 (by decide)) (fun _ => ?_)
  refine lv_iconst (v := 1) hx hb dX12_isNoPhone_20 (by decide) ?_
  refine lv_goto (tgt := 25) hx hb dX12_isNoPhone_21 (by decide) ?_
  exact hr_zret () C0 hp rfl (by decide) ⟨Nat.le_of_ble_eq_true rfl, Nat.le_of_ble_eq_true rfl⟩ dX12_isNoPhone_25 rfl
set_option maxHeartbeats 4000000 in
set_option maxRecDepth 100000 in
/-- isNoCall -/
theorem hr_X12_isNoCall (l : Launch) (D : va_G) (a : Nat → Nat) (z : Nat) (th nw : Int32) (x : Int32) : hr_Ki l D z yX12_isNoCall (hr_wm yX12_isNoCall cX12_isNoCall 2 (some .boolean)) { frames := 1, cells := 0, slots := 0, locals := 22 } [.ref (a 0), .int x] (hr_Y a z th nw) 0 0 (fun (q : Int32) (_ : Unit) => q = 1) (fun _ => hr_Y a z th nw) := by
  refine hr_Ki_of (by decide) (Nat.le_of_ble_eq_true rfl) ?_
  intro p e s m args below meth c ls A C0 hp hl
  obtain ⟨hx, hb, hr9, hml, hown, hts, hK, hlk, hA, hN, hnm9⟩ := id C0
  have hl : lv_has ls 2 [(0, .ref (a 0)), (1, .int x)] := hl
  refine lv_iload_n hx hb dX12_isNoCall_0 rfl (lv_at hl 1 rfl) ?_
  refine lv_iconst (v := 0) hx hb dX12_isNoCall_1 (by decide) ?_
  refine lv_aload_n hx hb dX12_isNoCall_2 rfl (lv_at hl 0 rfl) ?_
  refine hr_get C0 hp (q0 := 0) (C := RX12) (T := TX12) (N := 4) (ci := 2) rfl rfl hr_uX12 1 (by decide) hw_139 (fun _ h9 => h9) rfl dX12_isNoCall_3 ?_
  refine hr_get C0 hp (q0 := 1) (C := RX11) (T := TX11) (N := 5) (ci := 1) rfl rfl hr_uX11 2 (by decide) hw_155 (fun _ h9 => h9) rfl dX12_isNoCall_6 ?_
  refine hr_cVi C0 hp (q0 := 4) (ci := 0) (Cn := RJx4a65c) (T := TJx4a65c) (N := 3) (rest := [.int 0, .int x]) (n := 0) [] (hr_size_4 l D a z th nw) rfl rfl rfl (hr_gV hw_150 hw_52 hw_53 hw_26 hw_54) ⟨rfl, rfl⟩ (by decide +kernel) ⟨Nat.le_of_ble_eq_true rfl, Nat.le_of_ble_eq_true rfl⟩ ⟨Nat.le_of_ble_eq_true rfl, Nat.le_of_ble_eq_true rfl⟩ hl.1 rfl rfl (Nat.le_of_ble_eq_true rfl) dX12_isNoCall_9 (fun q_9 u_9 H locs hv_9 hp => ?_)
  subst hv_9
  have hp : hr_H D A s.heap (hr_Y a z th nw) H _ := hp
  refine lv_iconst (v := 1) hx hb dX12_isNoCall_12 (by decide) ?_
  refine lv_isub hx hb dX12_isNoCall_13 ?_
  rw [show (0 : Int32) - 1 = (-1) from by decide]
  refine hr_cSi C0 hp (rest := []) (n := 3) [] (hr_X12_isIn l D z (hr_Y a z th nw) (x) (0) ((-1))) rfl (hr_gS hw_151 hw_104 hw_105 hw_106) ⟨rfl, rfl⟩ (by decide +kernel) ⟨Nat.le_of_ble_eq_true rfl, Nat.le_of_ble_eq_true rfl⟩ ⟨Nat.le_of_ble_eq_true rfl, Nat.le_of_ble_eq_true rfl⟩ hl.1 rfl rfl (Nat.le_of_ble_eq_true rfl) dX12_isNoCall_14 (fun q_14 u_14 H locs hv_14 hp => ?_)
  subst hv_14
  have hp : hr_H D A s.heap (hr_Y a z th nw) H _ := hp
  rw [hr_in_no]
  refine lv_if_ne (tgt := 24) hx hb dX12_isNoCall_17 (by decide) (fun c9 => absurd c9 (by decide)) (fun _ => ?_)
  refine lv_iconst (v := 1) hx hb dX12_isNoCall_20 (by decide) ?_
  refine lv_goto (tgt := 25) hx hb dX12_isNoCall_21 (by decide) ?_
  exact hr_zret () C0 hp rfl (by decide) ⟨Nat.le_of_ble_eq_true rfl, Nat.le_of_ble_eq_true rfl⟩ dX12_isNoCall_25 rfl
set_option maxHeartbeats 4000000 in
set_option maxRecDepth 100000 in
/-- speed: there is none -/
theorem hr_X12_speed (l : Launch) (D : va_G) (a : Nat → Nat) (z : Nat) (th nw : Int32) (x y : Int32) : hr_Ki l D z yX12_speed (hr_wm yX12_speed cX12_speed 4 (some .int)) { frames := 2, cells := 0, slots := 0, locals := 44 } [.ref (a 0), .int x, .int y] (hr_Y a z th nw) 0 0 (fun (q : Int32) (_ : Unit) => q = 0) (fun _ => hr_Y a z 1 nw) := by
  refine hr_Ki_of (by decide) (Nat.le_of_ble_eq_true rfl) ?_
  intro p e s m args below meth c ls A C0 hp hl
  obtain ⟨hx, hb, hr9, hml, hown, hts, hK, hlk, hA, hN, hnm9⟩ := id C0
  have hl : lv_has ls 4 [(0, .ref (a 0)), (1, .int x), (2, .int y)] := hl
  refine lv_aload_n hx hb dX12_speed_0 rfl (lv_at hl 0 rfl) ?_
  refine lv_aload_n hx hb dX12_speed_1 rfl (lv_at hl 0 rfl) ?_
  refine lv_iload_n hx hb dX12_speed_2 rfl (lv_at hl 1 rfl) ?_
  refine hr_cVi C0 hp (q0 := 0) (ci := 2) (Cn := RX12) (T := TX12) (N := 4) (rest := [.ref (a 0)]) (n := 1) [] (hr_X12_isNoPhone l D a z th nw x) rfl rfl rfl (hr_gV hw_199 hw_200 hw_201 hw_105 hw_152) ⟨rfl, rfl⟩ (by decide +kernel) ⟨Nat.le_of_ble_eq_true rfl, Nat.le_of_ble_eq_true rfl⟩ ⟨Nat.le_of_ble_eq_true rfl, Nat.le_of_ble_eq_true rfl⟩ hl.1 rfl rfl (Nat.le_of_ble_eq_true rfl) dX12_speed_3 (fun q_3 u_3 H locs hv_3 hp => ?_)
  subst hv_3
  have hp : hr_H D A s.heap (hr_Y a z th nw) H _ := hp
  refine lv_iconst (v := 1) hx hb dX12_speed_6 (by decide) ?_
  refine hr_cVi C0 hp (q0 := 0) (ci := 2) (Cn := RX12) (T := TX12) (N := 4) (rest := []) (n := 2) [] (hr_start_1 l D a z th nw) rfl rfl rfl (hr_gV hw_159 hw_160 hw_161 hw_105 hw_144) ⟨rfl, rfl⟩ (by decide +kernel) ⟨Nat.le_of_ble_eq_true rfl, Nat.le_of_ble_eq_true rfl⟩ ⟨Nat.le_of_ble_eq_true rfl, Nat.le_of_ble_eq_true rfl⟩ hl.1 rfl rfl (Nat.le_of_ble_eq_true rfl) dX12_speed_7 (fun q_7 u_7 H locs hv_7 hp => ?_)
  subst hv_7
  have hp : hr_H D A s.heap (hr_Y a z 1 nw) H _ := hp
  refine lv_if_ne (tgt := 36) hx hb dX12_speed_10 (by decide) (fun _ => ?_) (fun c9 => absurd c9 (by decide))
  refine lv_iconst (v := 0) hx hb dX12_speed_36 (by decide) ?_
  exact hr_iret () C0 hp rfl ⟨Nat.le_of_ble_eq_true rfl, Nat.le_of_ble_eq_true rfl⟩ dX12_speed_37 rfl
set_option maxHeartbeats 4000000 in
set_option maxRecDepth 100000 in
/-- top: there is none -/
theorem hr_X12_top (l : Launch) (D : va_G) (a : Nat → Nat) (z : Nat) (th nw : Int32) (x y : Int32) : hr_Ki l D z yX12_top (hr_wm yX12_top cX12_top 3 (some .int)) { frames := 2, cells := 0, slots := 0, locals := 44 } [.ref (a 0), .int x, .int y] (hr_Y a z th nw) 0 0 (fun (q : Int32) (_ : Unit) => q = 0) (fun _ => hr_Y a z 1 nw) := by
  refine hr_Ki_of (by decide) (Nat.le_of_ble_eq_true rfl) ?_
  intro p e s m args below meth c ls A C0 hp hl
  obtain ⟨hx, hb, hr9, hml, hown, hts, hK, hlk, hA, hN, hnm9⟩ := id C0
  have hl : lv_has ls 3 [(0, .ref (a 0)), (1, .int x), (2, .int y)] := hl
  refine lv_aload_n hx hb dX12_top_0 rfl (lv_at hl 0 rfl) ?_
  refine lv_aload_n hx hb dX12_top_1 rfl (lv_at hl 0 rfl) ?_
  refine lv_iload_n hx hb dX12_top_2 rfl (lv_at hl 1 rfl) ?_
  refine hr_cVi C0 hp (q0 := 0) (ci := 2) (Cn := RX12) (T := TX12) (N := 4) (rest := [.ref (a 0)]) (n := 1) [] (hr_X12_isNoPhone l D a z th nw x) rfl rfl rfl (hr_gV hw_199 hw_200 hw_201 hw_105 hw_152) ⟨rfl, rfl⟩ (by decide +kernel) ⟨Nat.le_of_ble_eq_true rfl, Nat.le_of_ble_eq_true rfl⟩ ⟨Nat.le_of_ble_eq_true rfl, Nat.le_of_ble_eq_true rfl⟩ hl.1 rfl rfl (Nat.le_of_ble_eq_true rfl) dX12_top_3 (fun q_3 u_3 H locs hv_3 hp => ?_)
  subst hv_3
  have hp : hr_H D A s.heap (hr_Y a z th nw) H _ := hp
  refine lv_iconst (v := 1) hx hb dX12_top_6 (by decide) ?_
  refine hr_cVi C0 hp (q0 := 0) (ci := 2) (Cn := RX12) (T := TX12) (N := 4) (rest := []) (n := 2) [] (hr_start_1 l D a z th nw) rfl rfl rfl (hr_gV hw_159 hw_160 hw_161 hw_105 hw_144) ⟨rfl, rfl⟩ (by decide +kernel) ⟨Nat.le_of_ble_eq_true rfl, Nat.le_of_ble_eq_true rfl⟩ ⟨Nat.le_of_ble_eq_true rfl, Nat.le_of_ble_eq_true rfl⟩ hl.1 rfl rfl (Nat.le_of_ble_eq_true rfl) dX12_top_7 (fun q_7 u_7 H locs hv_7 hp => ?_)
  subst hv_7
  have hp : hr_H D A s.heap (hr_Y a z 1 nw) H _ := hp
  refine lv_if_ne (tgt := 37) hx hb dX12_top_10 (by decide) (fun _ => ?_) (fun c9 => absurd c9 (by decide))
  refine lv_iconst (v := 0) hx hb dX12_top_37 (by decide) ?_
  exact hr_iret () C0 hp rfl ⟨Nat.le_of_ble_eq_true rfl, Nat.le_of_ble_eq_true rfl⟩ dX12_top_38 rfl
set_option maxHeartbeats 4000000 in
set_option maxRecDepth 100000 in
/-- turn: there is none -/
theorem hr_X12_turn (l : Launch) (D : va_G) (a : Nat → Nat) (z : Nat) (th nw : Int32) (x y : Int32) : hr_Ki l D z yX12_turn (hr_wm yX12_turn cX12_turn 5 (some .boolean)) { frames := 2, cells := 0, slots := 0, locals := 44 } [.ref (a 0), .int x, .int y] (hr_Y a z th nw) 0 0 (fun (q : Int32) (_ : Unit) => q = 0) (fun _ => hr_Y a z 1 nw) := by
  refine hr_Ki_of (by decide) (Nat.le_of_ble_eq_true rfl) ?_
  intro p e s m args below meth c ls A C0 hp hl
  obtain ⟨hx, hb, hr9, hml, hown, hts, hK, hlk, hA, hN, hnm9⟩ := id C0
  have hl : lv_has ls 5 [(0, .ref (a 0)), (1, .int x), (2, .int y)] := hl
  refine lv_aload_n hx hb dX12_turn_0 rfl (lv_at hl 0 rfl) ?_
  refine lv_aload_n hx hb dX12_turn_1 rfl (lv_at hl 0 rfl) ?_
  refine lv_iload_n hx hb dX12_turn_2 rfl (lv_at hl 1 rfl) ?_
  refine hr_cVi C0 hp (q0 := 0) (ci := 2) (Cn := RX12) (T := TX12) (N := 4) (rest := [.ref (a 0)]) (n := 1) [] (hr_X12_isNoPhone l D a z th nw x) rfl rfl rfl (hr_gV hw_199 hw_200 hw_201 hw_105 hw_152) ⟨rfl, rfl⟩ (by decide +kernel) ⟨Nat.le_of_ble_eq_true rfl, Nat.le_of_ble_eq_true rfl⟩ ⟨Nat.le_of_ble_eq_true rfl, Nat.le_of_ble_eq_true rfl⟩ hl.1 rfl rfl (Nat.le_of_ble_eq_true rfl) dX12_turn_3 (fun q_3 u_3 H locs hv_3 hp => ?_)
  subst hv_3
  have hp : hr_H D A s.heap (hr_Y a z th nw) H _ := hp
  refine lv_iconst (v := 1) hx hb dX12_turn_6 (by decide) ?_
  refine hr_cVi C0 hp (q0 := 0) (ci := 2) (Cn := RX12) (T := TX12) (N := 4) (rest := []) (n := 2) [] (hr_start_1 l D a z th nw) rfl rfl rfl (hr_gV hw_159 hw_160 hw_161 hw_105 hw_144) ⟨rfl, rfl⟩ (by decide +kernel) ⟨Nat.le_of_ble_eq_true rfl, Nat.le_of_ble_eq_true rfl⟩ ⟨Nat.le_of_ble_eq_true rfl, Nat.le_of_ble_eq_true rfl⟩ hl.1 rfl rfl (Nat.le_of_ble_eq_true rfl) dX12_turn_7 (fun q_7 u_7 H locs hv_7 hp => ?_)
  subst hv_7
  have hp : hr_H D A s.heap (hr_Y a z 1 nw) H _ := hp
  refine lv_if_eq (tgt := 15) hx hb dX12_turn_10 (by decide) (fun c9 => absurd c9 (by decide)) (fun _ => ?_)
  refine lv_iconst (v := 0) hx hb dX12_turn_13 (by decide) ?_
  exact hr_zret () C0 hp rfl (by decide) ⟨Nat.le_of_ble_eq_true rfl, Nat.le_of_ble_eq_true rfl⟩ dX12_turn_14 rfl
set_option maxHeartbeats 4000000 in
set_option maxRecDepth 100000 in
/-- wake: there is none -/
theorem hr_X12_wake (l : Launch) (D : va_G) (a : Nat → Nat) (z : Nat) (th nw : Int32) (x y : Int32) : hr_Ki l D z yX12_wake (hr_wm yX12_wake cX12_wake 6 (some .boolean)) { frames := 2, cells := 0, slots := 0, locals := 44 } [.ref (a 0), .int x, .int y] (hr_Y a z th nw) 0 0 (fun (q : Int32) (_ : Unit) => q = 0) (fun _ => hr_Y a z 1 nw) := by
  refine hr_Ki_of (by decide) (Nat.le_of_ble_eq_true rfl) ?_
  intro p e s m args below meth c ls A C0 hp hl
  obtain ⟨hx, hb, hr9, hml, hown, hts, hK, hlk, hA, hN, hnm9⟩ := id C0
  have hl : lv_has ls 6 [(0, .ref (a 0)), (1, .int x), (2, .int y)] := hl
  refine lv_aload_n hx hb dX12_wake_0 rfl (lv_at hl 0 rfl) ?_
  refine lv_aload_n hx hb dX12_wake_1 rfl (lv_at hl 0 rfl) ?_
  refine lv_iload_n hx hb dX12_wake_2 rfl (lv_at hl 1 rfl) ?_
  refine hr_cVi C0 hp (q0 := 0) (ci := 2) (Cn := RX12) (T := TX12) (N := 4) (rest := [.ref (a 0)]) (n := 1) [] (hr_X12_isNoMast l D a z th nw x) rfl rfl rfl (hr_gV hw_213 hw_214 hw_215 hw_105 hw_148) ⟨rfl, rfl⟩ (by decide +kernel) ⟨Nat.le_of_ble_eq_true rfl, Nat.le_of_ble_eq_true rfl⟩ ⟨Nat.le_of_ble_eq_true rfl, Nat.le_of_ble_eq_true rfl⟩ hl.1 rfl rfl (Nat.le_of_ble_eq_true rfl) dX12_wake_3 (fun q_3 u_3 H locs hv_3 hp => ?_)
  subst hv_3
  have hp : hr_H D A s.heap (hr_Y a z th nw) H _ := hp
  refine lv_iconst (v := 1) hx hb dX12_wake_6 (by decide) ?_
  refine hr_cVi C0 hp (q0 := 0) (ci := 2) (Cn := RX12) (T := TX12) (N := 4) (rest := []) (n := 2) [] (hr_start_1 l D a z th nw) rfl rfl rfl (hr_gV hw_159 hw_160 hw_161 hw_105 hw_144) ⟨rfl, rfl⟩ (by decide +kernel) ⟨Nat.le_of_ble_eq_true rfl, Nat.le_of_ble_eq_true rfl⟩ ⟨Nat.le_of_ble_eq_true rfl, Nat.le_of_ble_eq_true rfl⟩ hl.1 rfl rfl (Nat.le_of_ble_eq_true rfl) dX12_wake_7 (fun q_7 u_7 H locs hv_7 hp => ?_)
  subst hv_7
  have hp : hr_H D A s.heap (hr_Y a z 1 nw) H _ := hp
  refine lv_if_eq (tgt := 15) hx hb dX12_wake_10 (by decide) (fun c9 => absurd c9 (by decide)) (fun _ => ?_)
  refine lv_iconst (v := 0) hx hb dX12_wake_13 (by decide) ?_
  exact hr_zret () C0 hp rfl (by decide) ⟨Nat.le_of_ble_eq_true rfl, Nat.le_of_ble_eq_true rfl⟩ dX12_wake_14 rfl
set_option maxHeartbeats 4000000 in
set_option maxRecDepth 100000 in
/-- call: there is none -/
theorem hr_X12_call (l : Launch) (D : va_G) (a : Nat → Nat) (z : Nat) (th nw : Int32) (x y : Int32) : hr_Ki l D z yX12_call (hr_wm yX12_call cX12_call 6 (some .int)) { frames := 2, cells := 0, slots := 0, locals := 44 } [.ref (a 0), .int x, .int y] (hr_Y a z th nw) 0 0 (fun (q : Int32) (_ : Unit) => q = 0) (fun _ => hr_Y a z 1 nw) := by
  refine hr_Ki_of (by decide) (Nat.le_of_ble_eq_true rfl) ?_
  intro p e s m args below meth c ls A C0 hp hl
  obtain ⟨hx, hb, hr9, hml, hown, hts, hK, hlk, hA, hN, hnm9⟩ := id C0
  have hl : lv_has ls 6 [(0, .ref (a 0)), (1, .int x), (2, .int y)] := hl
  refine lv_aload_n hx hb dX12_call_0 rfl (lv_at hl 0 rfl) ?_
  refine lv_aload_n hx hb dX12_call_1 rfl (lv_at hl 0 rfl) ?_
  refine lv_iload_n hx hb dX12_call_2 rfl (lv_at hl 1 rfl) ?_
  refine hr_cVi C0 hp (q0 := 0) (ci := 2) (Cn := RX12) (T := TX12) (N := 4) (rest := [.ref (a 0)]) (n := 1) [] (hr_X12_isNoPhone l D a z th nw x) rfl rfl rfl (hr_gV hw_199 hw_200 hw_201 hw_105 hw_152) ⟨rfl, rfl⟩ (by decide +kernel) ⟨Nat.le_of_ble_eq_true rfl, Nat.le_of_ble_eq_true rfl⟩ ⟨Nat.le_of_ble_eq_true rfl, Nat.le_of_ble_eq_true rfl⟩ hl.1 rfl rfl (Nat.le_of_ble_eq_true rfl) dX12_call_3 (fun q_3 u_3 H locs hv_3 hp => ?_)
  subst hv_3
  have hp : hr_H D A s.heap (hr_Y a z th nw) H _ := hp
  refine lv_if_ne (tgt := 17) hx hb dX12_call_6 (by decide) (fun _ => ?_) (fun c9 => absurd c9 (by decide))
  refine lv_iconst (v := 1) hx hb dX12_call_17 (by decide) ?_
  refine lv_goto (tgt := 22) hx hb dX12_call_18 (by decide) ?_
  refine lv_iconst (v := 1) hx hb dX12_call_22 (by decide) ?_
  refine hr_cVi C0 hp (q0 := 0) (ci := 2) (Cn := RX12) (T := TX12) (N := 4) (rest := []) (n := 2) [] (hr_start_1 l D a z th nw) rfl rfl rfl (hr_gV hw_159 hw_160 hw_161 hw_105 hw_144) ⟨rfl, rfl⟩ (by decide +kernel) ⟨Nat.le_of_ble_eq_true rfl, Nat.le_of_ble_eq_true rfl⟩ ⟨Nat.le_of_ble_eq_true rfl, Nat.le_of_ble_eq_true rfl⟩ hl.1 rfl rfl (Nat.le_of_ble_eq_true rfl) dX12_call_23 (fun q_23 u_23 H locs hv_23 hp => ?_)
  subst hv_23
  have hp : hr_H D A s.heap (hr_Y a z 1 nw) H _ := hp
  refine lv_if_ne (tgt := 75) hx hb dX12_call_26 (by decide) (fun _ => ?_) (fun c9 => absurd c9 (by decide))
  refine lv_iconst (v := 0) hx hb dX12_call_75 (by decide) ?_
  exact hr_iret () C0 hp rfl ⟨Nat.le_of_ble_eq_true rfl, Nat.le_of_ble_eq_true rfl⟩ dX12_call_76 rfl
set_option maxHeartbeats 4000000 in
set_option maxRecDepth 100000 in
/-- emergency: there is none -/
theorem hr_X12_emergency (l : Launch) (D : va_G) (a : Nat → Nat) (z : Nat) (th nw : Int32) (x : Int32) : hr_Ki l D z yX12_emergency (hr_wm yX12_emergency cX12_emergency 6 (some .int)) { frames := 2, cells := 0, slots := 0, locals := 44 } [.ref (a 0), .int x] (hr_Y a z th nw) 0 0 (fun (q : Int32) (_ : Unit) => q = 0) (fun _ => hr_Y a z 1 nw) := by
  refine hr_Ki_of (by decide) (Nat.le_of_ble_eq_true rfl) ?_
  intro p e s m args below meth c ls A C0 hp hl
  obtain ⟨hx, hb, hr9, hml, hown, hts, hK, hlk, hA, hN, hnm9⟩ := id C0
  have hl : lv_has ls 6 [(0, .ref (a 0)), (1, .int x)] := hl
  refine lv_aload_n hx hb dX12_emergency_0 rfl (lv_at hl 0 rfl) ?_
  refine lv_aload_n hx hb dX12_emergency_1 rfl (lv_at hl 0 rfl) ?_
  refine lv_iload_n hx hb dX12_emergency_2 rfl (lv_at hl 1 rfl) ?_
  refine hr_cVi C0 hp (q0 := 0) (ci := 2) (Cn := RX12) (T := TX12) (N := 4) (rest := [.ref (a 0)]) (n := 1) [] (hr_X12_isNoPhone l D a z th nw x) rfl rfl rfl (hr_gV hw_199 hw_200 hw_201 hw_105 hw_152) ⟨rfl, rfl⟩ (by decide +kernel) ⟨Nat.le_of_ble_eq_true rfl, Nat.le_of_ble_eq_true rfl⟩ ⟨Nat.le_of_ble_eq_true rfl, Nat.le_of_ble_eq_true rfl⟩ hl.1 rfl rfl (Nat.le_of_ble_eq_true rfl) dX12_emergency_3 (fun q_3 u_3 H locs hv_3 hp => ?_)
  subst hv_3
  have hp : hr_H D A s.heap (hr_Y a z th nw) H _ := hp
  refine lv_iconst (v := 1) hx hb dX12_emergency_6 (by decide) ?_
  refine hr_cVi C0 hp (q0 := 0) (ci := 2) (Cn := RX12) (T := TX12) (N := 4) (rest := []) (n := 2) [] (hr_start_1 l D a z th nw) rfl rfl rfl (hr_gV hw_159 hw_160 hw_161 hw_105 hw_144) ⟨rfl, rfl⟩ (by decide +kernel) ⟨Nat.le_of_ble_eq_true rfl, Nat.le_of_ble_eq_true rfl⟩ ⟨Nat.le_of_ble_eq_true rfl, Nat.le_of_ble_eq_true rfl⟩ hl.1 rfl rfl (Nat.le_of_ble_eq_true rfl) dX12_emergency_7 (fun q_7 u_7 H locs hv_7 hp => ?_)
  subst hv_7
  have hp : hr_H D A s.heap (hr_Y a z 1 nw) H _ := hp
  refine lv_if_ne (tgt := 41) hx hb dX12_emergency_10 (by decide) (fun _ => ?_) (fun c9 => absurd c9 (by decide))
  refine lv_iconst (v := 0) hx hb dX12_emergency_41 (by decide) ?_
  exact hr_iret () C0 hp rfl ⟨Nat.le_of_ble_eq_true rfl, Nat.le_of_ble_eq_true rfl⟩ dX12_emergency_42 rfl
set_option maxHeartbeats 4000000 in
set_option maxRecDepth 100000 in
/-- hang: there is none -/
theorem hr_X12_hang (l : Launch) (D : va_G) (a : Nat → Nat) (z : Nat) (th nw : Int32) (x : Int32) : hr_Ki l D z yX12_hang (hr_wm yX12_hang cX12_hang 2 (some .int)) { frames := 2, cells := 0, slots := 0, locals := 44 } [.ref (a 0), .int x] (hr_Y a z th nw) 0 0 (fun (q : Int32) (_ : Unit) => q = 0) (fun _ => hr_Y a z 1 nw) := by
  refine hr_Ki_of (by decide) (Nat.le_of_ble_eq_true rfl) ?_
  intro p e s m args below meth c ls A C0 hp hl
  obtain ⟨hx, hb, hr9, hml, hown, hts, hK, hlk, hA, hN, hnm9⟩ := id C0
  have hl : lv_has ls 2 [(0, .ref (a 0)), (1, .int x)] := hl
  refine lv_aload_n hx hb dX12_hang_0 rfl (lv_at hl 0 rfl) ?_
  refine lv_aload_n hx hb dX12_hang_1 rfl (lv_at hl 0 rfl) ?_
  refine lv_iload_n hx hb dX12_hang_2 rfl (lv_at hl 1 rfl) ?_
  refine hr_cVi C0 hp (q0 := 0) (ci := 2) (Cn := RX12) (T := TX12) (N := 4) (rest := [.ref (a 0)]) (n := 1) [] (hr_X12_isNoCall l D a z th nw x) rfl rfl rfl (hr_gV hw_234 hw_235 hw_236 hw_105 hw_154) ⟨rfl, rfl⟩ (by decide +kernel) ⟨Nat.le_of_ble_eq_true rfl, Nat.le_of_ble_eq_true rfl⟩ ⟨Nat.le_of_ble_eq_true rfl, Nat.le_of_ble_eq_true rfl⟩ hl.1 rfl rfl (Nat.le_of_ble_eq_true rfl) dX12_hang_3 (fun q_3 u_3 H locs hv_3 hp => ?_)
  subst hv_3
  have hp : hr_H D A s.heap (hr_Y a z th nw) H _ := hp
  refine lv_iconst (v := 1) hx hb dX12_hang_6 (by decide) ?_
  refine hr_cVi C0 hp (q0 := 0) (ci := 2) (Cn := RX12) (T := TX12) (N := 4) (rest := []) (n := 2) [] (hr_start_1 l D a z th nw) rfl rfl rfl (hr_gV hw_159 hw_160 hw_161 hw_105 hw_144) ⟨rfl, rfl⟩ (by decide +kernel) ⟨Nat.le_of_ble_eq_true rfl, Nat.le_of_ble_eq_true rfl⟩ ⟨Nat.le_of_ble_eq_true rfl, Nat.le_of_ble_eq_true rfl⟩ hl.1 rfl rfl (Nat.le_of_ble_eq_true rfl) dX12_hang_7 (fun q_7 u_7 H locs hv_7 hp => ?_)
  subst hv_7
  have hp : hr_H D A s.heap (hr_Y a z 1 nw) H _ := hp
  refine lv_if_ne (tgt := 46) hx hb dX12_hang_10 (by decide) (fun _ => ?_) (fun c9 => absurd c9 (by decide))
  refine lv_iconst (v := 0) hx hb dX12_hang_46 (by decide) ?_
  exact hr_iret () C0 hp rfl ⟨Nat.le_of_ble_eq_true rfl, Nat.le_of_ble_eq_true rfl⟩ dX12_hang_47 rfl
set_option maxHeartbeats 4000000 in
set_option maxRecDepth 100000 in
/-- text: there is none -/
theorem hr_X12_text (l : Launch) (D : va_G) (a : Nat → Nat) (z : Nat) (th nw : Int32) (x y : Int32) : hr_Ki l D z yX12_text (hr_wm yX12_text cX12_text 3 (some .int)) { frames := 2, cells := 0, slots := 0, locals := 44 } [.ref (a 0), .int x, .int y] (hr_Y a z th nw) 0 0 (fun (q : Int32) (_ : Unit) => q = 0) (fun _ => hr_Y a z 1 nw) := by
  refine hr_Ki_of (by decide) (Nat.le_of_ble_eq_true rfl) ?_
  intro p e s m args below meth c ls A C0 hp hl
  obtain ⟨hx, hb, hr9, hml, hown, hts, hK, hlk, hA, hN, hnm9⟩ := id C0
  have hl : lv_has ls 3 [(0, .ref (a 0)), (1, .int x), (2, .int y)] := hl
  refine lv_aload_n hx hb dX12_text_0 rfl (lv_at hl 0 rfl) ?_
  refine lv_aload_n hx hb dX12_text_1 rfl (lv_at hl 0 rfl) ?_
  refine lv_iload_n hx hb dX12_text_2 rfl (lv_at hl 1 rfl) ?_
  refine hr_cVi C0 hp (q0 := 0) (ci := 2) (Cn := RX12) (T := TX12) (N := 4) (rest := [.ref (a 0)]) (n := 1) [] (hr_X12_isNoPhone l D a z th nw x) rfl rfl rfl (hr_gV hw_199 hw_200 hw_201 hw_105 hw_152) ⟨rfl, rfl⟩ (by decide +kernel) ⟨Nat.le_of_ble_eq_true rfl, Nat.le_of_ble_eq_true rfl⟩ ⟨Nat.le_of_ble_eq_true rfl, Nat.le_of_ble_eq_true rfl⟩ hl.1 rfl rfl (Nat.le_of_ble_eq_true rfl) dX12_text_3 (fun q_3 u_3 H locs hv_3 hp => ?_)
  subst hv_3
  have hp : hr_H D A s.heap (hr_Y a z th nw) H _ := hp
  refine lv_if_ne (tgt := 17) hx hb dX12_text_6 (by decide) (fun _ => ?_) (fun c9 => absurd c9 (by decide))
  refine lv_iconst (v := 1) hx hb dX12_text_17 (by decide) ?_
  refine lv_goto (tgt := 22) hx hb dX12_text_18 (by decide) ?_
  refine lv_iconst (v := 1) hx hb dX12_text_22 (by decide) ?_
  refine hr_cVi C0 hp (q0 := 0) (ci := 2) (Cn := RX12) (T := TX12) (N := 4) (rest := []) (n := 2) [] (hr_start_1 l D a z th nw) rfl rfl rfl (hr_gV hw_159 hw_160 hw_161 hw_105 hw_144) ⟨rfl, rfl⟩ (by decide +kernel) ⟨Nat.le_of_ble_eq_true rfl, Nat.le_of_ble_eq_true rfl⟩ ⟨Nat.le_of_ble_eq_true rfl, Nat.le_of_ble_eq_true rfl⟩ hl.1 rfl rfl (Nat.le_of_ble_eq_true rfl) dX12_text_23 (fun q_23 u_23 H locs hv_23 hp => ?_)
  subst hv_23
  have hp : hr_H D A s.heap (hr_Y a z 1 nw) H _ := hp
  refine lv_if_ne (tgt := 69) hx hb dX12_text_26 (by decide) (fun _ => ?_) (fun c9 => absurd c9 (by decide))
  refine lv_iconst (v := 0) hx hb dX12_text_69 (by decide) ?_
  exact hr_iret () C0 hp rfl ⟨Nat.le_of_ble_eq_true rfl, Nat.le_of_ble_eq_true rfl⟩ dX12_text_70 rfl
set_option maxHeartbeats 4000000 in
set_option maxRecDepth 100000 in
/-- quality: there is none -/
theorem hr_X12_quality (l : Launch) (D : va_G) (a : Nat → Nat) (z : Nat) (th nw : Int32) (x y : Int32) : hr_Ki l D z yX12_quality (hr_wm yX12_quality cX12_quality 3 (some .int)) { frames := 2, cells := 0, slots := 0, locals := 44 } [.ref (a 0), .int x, .int y] (hr_Y a z th nw) 0 0 (fun (q : Int32) (_ : Unit) => q = 0) (fun _ => hr_Y a z 1 nw) := by
  refine hr_Ki_of (by decide) (Nat.le_of_ble_eq_true rfl) ?_
  intro p e s m args below meth c ls A C0 hp hl
  obtain ⟨hx, hb, hr9, hml, hown, hts, hK, hlk, hA, hN, hnm9⟩ := id C0
  have hl : lv_has ls 3 [(0, .ref (a 0)), (1, .int x), (2, .int y)] := hl
  refine lv_aload_n hx hb dX12_quality_0 rfl (lv_at hl 0 rfl) ?_
  refine lv_aload_n hx hb dX12_quality_1 rfl (lv_at hl 0 rfl) ?_
  refine lv_iload_n hx hb dX12_quality_2 rfl (lv_at hl 1 rfl) ?_
  refine hr_cVi C0 hp (q0 := 0) (ci := 2) (Cn := RX12) (T := TX12) (N := 4) (rest := [.ref (a 0)]) (n := 1) [] (hr_X12_isNoMast l D a z th nw x) rfl rfl rfl (hr_gV hw_213 hw_214 hw_215 hw_105 hw_148) ⟨rfl, rfl⟩ (by decide +kernel) ⟨Nat.le_of_ble_eq_true rfl, Nat.le_of_ble_eq_true rfl⟩ ⟨Nat.le_of_ble_eq_true rfl, Nat.le_of_ble_eq_true rfl⟩ hl.1 rfl rfl (Nat.le_of_ble_eq_true rfl) dX12_quality_3 (fun q_3 u_3 H locs hv_3 hp => ?_)
  subst hv_3
  have hp : hr_H D A s.heap (hr_Y a z th nw) H _ := hp
  refine lv_iconst (v := 1) hx hb dX12_quality_6 (by decide) ?_
  refine hr_cVi C0 hp (q0 := 0) (ci := 2) (Cn := RX12) (T := TX12) (N := 4) (rest := []) (n := 2) [] (hr_start_1 l D a z th nw) rfl rfl rfl (hr_gV hw_159 hw_160 hw_161 hw_105 hw_144) ⟨rfl, rfl⟩ (by decide +kernel) ⟨Nat.le_of_ble_eq_true rfl, Nat.le_of_ble_eq_true rfl⟩ ⟨Nat.le_of_ble_eq_true rfl, Nat.le_of_ble_eq_true rfl⟩ hl.1 rfl rfl (Nat.le_of_ble_eq_true rfl) dX12_quality_7 (fun q_7 u_7 H locs hv_7 hp => ?_)
  subst hv_7
  have hp : hr_H D A s.heap (hr_Y a z 1 nw) H _ := hp
  refine lv_if_ne (tgt := 36) hx hb dX12_quality_10 (by decide) (fun _ => ?_) (fun c9 => absurd c9 (by decide))
  refine lv_iconst (v := 0) hx hb dX12_quality_36 (by decide) ?_
  refine lv_goto (tgt := 49) hx hb dX12_quality_37 (by decide) ?_
  exact hr_iret () C0 hp rfl ⟨Nat.le_of_ble_eq_true rfl, Nat.le_of_ble_eq_true rfl⟩ dX12_quality_49 rfl
set_option maxHeartbeats 4000000 in
set_option maxRecDepth 100000 in
/-- ofMast: there is none -/
theorem hr_X12_ofMast (l : Launch) (D : va_G) (a : Nat → Nat) (z : Nat) (th nw : Int32) (x y : Int32) : hr_Ki l D z yX12_ofMast (hr_wm yX12_ofMast cX12_ofMast 3 (some .int)) { frames := 2, cells := 0, slots := 0, locals := 44 } [.ref (a 0), .int x, .int y] (hr_Y a z th nw) 0 0 (fun (q : Int32) (_ : Unit) => q = 0) (fun _ => hr_Y a z 1 nw) := by
  refine hr_Ki_of (by decide) (Nat.le_of_ble_eq_true rfl) ?_
  intro p e s m args below meth c ls A C0 hp hl
  obtain ⟨hx, hb, hr9, hml, hown, hts, hK, hlk, hA, hN, hnm9⟩ := id C0
  have hl : lv_has ls 3 [(0, .ref (a 0)), (1, .int x), (2, .int y)] := hl
  refine lv_aload_n hx hb dX12_ofMast_0 rfl (lv_at hl 0 rfl) ?_
  refine lv_aload_n hx hb dX12_ofMast_1 rfl (lv_at hl 0 rfl) ?_
  refine lv_iload_n hx hb dX12_ofMast_2 rfl (lv_at hl 1 rfl) ?_
  refine hr_cVi C0 hp (q0 := 0) (ci := 2) (Cn := RX12) (T := TX12) (N := 4) (rest := [.ref (a 0)]) (n := 1) [] (hr_X12_isNoMast l D a z th nw x) rfl rfl rfl (hr_gV hw_213 hw_214 hw_215 hw_105 hw_148) ⟨rfl, rfl⟩ (by decide +kernel) ⟨Nat.le_of_ble_eq_true rfl, Nat.le_of_ble_eq_true rfl⟩ ⟨Nat.le_of_ble_eq_true rfl, Nat.le_of_ble_eq_true rfl⟩ hl.1 rfl rfl (Nat.le_of_ble_eq_true rfl) dX12_ofMast_3 (fun q_3 u_3 H locs hv_3 hp => ?_)
  subst hv_3
  have hp : hr_H D A s.heap (hr_Y a z th nw) H _ := hp
  refine lv_iconst (v := 1) hx hb dX12_ofMast_6 (by decide) ?_
  refine hr_cVi C0 hp (q0 := 0) (ci := 2) (Cn := RX12) (T := TX12) (N := 4) (rest := []) (n := 2) [] (hr_start_1 l D a z th nw) rfl rfl rfl (hr_gV hw_159 hw_160 hw_161 hw_105 hw_144) ⟨rfl, rfl⟩ (by decide +kernel) ⟨Nat.le_of_ble_eq_true rfl, Nat.le_of_ble_eq_true rfl⟩ ⟨Nat.le_of_ble_eq_true rfl, Nat.le_of_ble_eq_true rfl⟩ hl.1 rfl rfl (Nat.le_of_ble_eq_true rfl) dX12_ofMast_7 (fun q_7 u_7 H locs hv_7 hp => ?_)
  subst hv_7
  have hp : hr_H D A s.heap (hr_Y a z 1 nw) H _ := hp
  refine lv_if_ne (tgt := 36) hx hb dX12_ofMast_10 (by decide) (fun _ => ?_) (fun c9 => absurd c9 (by decide))
  refine lv_iconst (v := 0) hx hb dX12_ofMast_36 (by decide) ?_
  refine lv_goto (tgt := 46) hx hb dX12_ofMast_37 (by decide) ?_
  exact hr_iret () C0 hp rfl ⟨Nat.le_of_ble_eq_true rfl, Nat.le_of_ble_eq_true rfl⟩ dX12_ofMast_46 rfl
set_option maxHeartbeats 4000000 in
set_option maxRecDepth 100000 in
/-- ofHandset: there is none -/
theorem hr_X12_ofHandset (l : Launch) (D : va_G) (a : Nat → Nat) (z : Nat) (th nw : Int32) (x y : Int32) : hr_Ki l D z yX12_ofHandset (hr_wm yX12_ofHandset cX12_ofHandset 3 (some .int)) { frames := 2, cells := 0, slots := 0, locals := 44 } [.ref (a 0), .int x, .int y] (hr_Y a z th nw) 0 0 (fun (q : Int32) (_ : Unit) => q = 0) (fun _ => hr_Y a z 1 nw) := by
  refine hr_Ki_of (by decide) (Nat.le_of_ble_eq_true rfl) ?_
  intro p e s m args below meth c ls A C0 hp hl
  obtain ⟨hx, hb, hr9, hml, hown, hts, hK, hlk, hA, hN, hnm9⟩ := id C0
  have hl : lv_has ls 3 [(0, .ref (a 0)), (1, .int x), (2, .int y)] := hl
  refine lv_aload_n hx hb dX12_ofHandset_0 rfl (lv_at hl 0 rfl) ?_
  refine lv_aload_n hx hb dX12_ofHandset_1 rfl (lv_at hl 0 rfl) ?_
  refine lv_iload_n hx hb dX12_ofHandset_2 rfl (lv_at hl 1 rfl) ?_
  refine hr_cVi C0 hp (q0 := 0) (ci := 2) (Cn := RX12) (T := TX12) (N := 4) (rest := [.ref (a 0)]) (n := 1) [] (hr_X12_isNoPhone l D a z th nw x) rfl rfl rfl (hr_gV hw_199 hw_200 hw_201 hw_105 hw_152) ⟨rfl, rfl⟩ (by decide +kernel) ⟨Nat.le_of_ble_eq_true rfl, Nat.le_of_ble_eq_true rfl⟩ ⟨Nat.le_of_ble_eq_true rfl, Nat.le_of_ble_eq_true rfl⟩ hl.1 rfl rfl (Nat.le_of_ble_eq_true rfl) dX12_ofHandset_3 (fun q_3 u_3 H locs hv_3 hp => ?_)
  subst hv_3
  have hp : hr_H D A s.heap (hr_Y a z th nw) H _ := hp
  refine lv_iconst (v := 1) hx hb dX12_ofHandset_6 (by decide) ?_
  refine hr_cVi C0 hp (q0 := 0) (ci := 2) (Cn := RX12) (T := TX12) (N := 4) (rest := []) (n := 2) [] (hr_start_1 l D a z th nw) rfl rfl rfl (hr_gV hw_159 hw_160 hw_161 hw_105 hw_144) ⟨rfl, rfl⟩ (by decide +kernel) ⟨Nat.le_of_ble_eq_true rfl, Nat.le_of_ble_eq_true rfl⟩ ⟨Nat.le_of_ble_eq_true rfl, Nat.le_of_ble_eq_true rfl⟩ hl.1 rfl rfl (Nat.le_of_ble_eq_true rfl) dX12_ofHandset_7 (fun q_7 u_7 H locs hv_7 hp => ?_)
  subst hv_7
  have hp : hr_H D A s.heap (hr_Y a z 1 nw) H _ := hp
  refine lv_if_ne (tgt := 36) hx hb dX12_ofHandset_10 (by decide) (fun _ => ?_) (fun c9 => absurd c9 (by decide))
  refine lv_iconst (v := 0) hx hb dX12_ofHandset_36 (by decide) ?_
  refine lv_goto (tgt := 46) hx hb dX12_ofHandset_37 (by decide) ?_
  exact hr_iret () C0 hp rfl ⟨Nat.le_of_ble_eq_true rfl, Nat.le_of_ble_eq_true rfl⟩ dX12_ofHandset_46 rfl
set_option maxHeartbeats 4000000 in
set_option maxRecDepth 100000 in
/-- ofCall: there is none -/
theorem hr_X12_ofCall (l : Launch) (D : va_G) (a : Nat → Nat) (z : Nat) (th nw : Int32) (x y : Int32) : hr_Ki l D z yX12_ofCall (hr_wm yX12_ofCall cX12_ofCall 3 (some .int)) { frames := 2, cells := 0, slots := 0, locals := 44 } [.ref (a 0), .int x, .int y] (hr_Y a z th nw) 0 0 (fun (q : Int32) (_ : Unit) => q = 0) (fun _ => hr_Y a z 1 nw) := by
  refine hr_Ki_of (by decide) (Nat.le_of_ble_eq_true rfl) ?_
  intro p e s m args below meth c ls A C0 hp hl
  obtain ⟨hx, hb, hr9, hml, hown, hts, hK, hlk, hA, hN, hnm9⟩ := id C0
  have hl : lv_has ls 3 [(0, .ref (a 0)), (1, .int x), (2, .int y)] := hl
  refine lv_aload_n hx hb dX12_ofCall_0 rfl (lv_at hl 0 rfl) ?_
  refine lv_aload_n hx hb dX12_ofCall_1 rfl (lv_at hl 0 rfl) ?_
  refine lv_iload_n hx hb dX12_ofCall_2 rfl (lv_at hl 1 rfl) ?_
  refine hr_cVi C0 hp (q0 := 0) (ci := 2) (Cn := RX12) (T := TX12) (N := 4) (rest := [.ref (a 0)]) (n := 1) [] (hr_X12_isNoCall l D a z th nw x) rfl rfl rfl (hr_gV hw_234 hw_235 hw_236 hw_105 hw_154) ⟨rfl, rfl⟩ (by decide +kernel) ⟨Nat.le_of_ble_eq_true rfl, Nat.le_of_ble_eq_true rfl⟩ ⟨Nat.le_of_ble_eq_true rfl, Nat.le_of_ble_eq_true rfl⟩ hl.1 rfl rfl (Nat.le_of_ble_eq_true rfl) dX12_ofCall_3 (fun q_3 u_3 H locs hv_3 hp => ?_)
  subst hv_3
  have hp : hr_H D A s.heap (hr_Y a z th nw) H _ := hp
  refine lv_iconst (v := 1) hx hb dX12_ofCall_6 (by decide) ?_
  refine hr_cVi C0 hp (q0 := 0) (ci := 2) (Cn := RX12) (T := TX12) (N := 4) (rest := []) (n := 2) [] (hr_start_1 l D a z th nw) rfl rfl rfl (hr_gV hw_159 hw_160 hw_161 hw_105 hw_144) ⟨rfl, rfl⟩ (by decide +kernel) ⟨Nat.le_of_ble_eq_true rfl, Nat.le_of_ble_eq_true rfl⟩ ⟨Nat.le_of_ble_eq_true rfl, Nat.le_of_ble_eq_true rfl⟩ hl.1 rfl rfl (Nat.le_of_ble_eq_true rfl) dX12_ofCall_7 (fun q_7 u_7 H locs hv_7 hp => ?_)
  subst hv_7
  have hp : hr_H D A s.heap (hr_Y a z 1 nw) H _ := hp
  refine lv_if_ne (tgt := 36) hx hb dX12_ofCall_10 (by decide) (fun _ => ?_) (fun c9 => absurd c9 (by decide))
  refine lv_iconst (v := 0) hx hb dX12_ofCall_36 (by decide) ?_
  refine lv_goto (tgt := 58) hx hb dX12_ofCall_37 (by decide) ?_
  exact hr_iret () C0 hp rfl ⟨Nat.le_of_ble_eq_true rfl, Nat.le_of_ble_eq_true rfl⟩ dX12_ofCall_58 rfl
set_option maxHeartbeats 4000000 in
set_option maxRecDepth 100000 in
/-- endsIn: there is none -/
theorem hr_X12_endsIn (l : Launch) (D : va_G) (a : Nat → Nat) (z : Nat) (th nw : Int32) (x y : Int32) : hr_Ki l D z yX12_endsIn (hr_wm yX12_endsIn cX12_endsIn 3 (some .int)) { frames := 2, cells := 0, slots := 0, locals := 44 } [.ref (a 0), .int x, .int y] (hr_Y a z th nw) 0 0 (fun (q : Int32) (_ : Unit) => q = 0) (fun _ => hr_Y a z 1 nw) := by
  refine hr_Ki_of (by decide) (Nat.le_of_ble_eq_true rfl) ?_
  intro p e s m args below meth c ls A C0 hp hl
  obtain ⟨hx, hb, hr9, hml, hown, hts, hK, hlk, hA, hN, hnm9⟩ := id C0
  have hl : lv_has ls 3 [(0, .ref (a 0)), (1, .int x), (2, .int y)] := hl
  refine lv_aload_n hx hb dX12_endsIn_0 rfl (lv_at hl 0 rfl) ?_
  refine lv_aload_n hx hb dX12_endsIn_1 rfl (lv_at hl 0 rfl) ?_
  refine lv_iload_n hx hb dX12_endsIn_2 rfl (lv_at hl 1 rfl) ?_
  refine hr_cVi C0 hp (q0 := 0) (ci := 2) (Cn := RX12) (T := TX12) (N := 4) (rest := [.ref (a 0)]) (n := 1) [] (hr_X12_isNoCall l D a z th nw x) rfl rfl rfl (hr_gV hw_234 hw_235 hw_236 hw_105 hw_154) ⟨rfl, rfl⟩ (by decide +kernel) ⟨Nat.le_of_ble_eq_true rfl, Nat.le_of_ble_eq_true rfl⟩ ⟨Nat.le_of_ble_eq_true rfl, Nat.le_of_ble_eq_true rfl⟩ hl.1 rfl rfl (Nat.le_of_ble_eq_true rfl) dX12_endsIn_3 (fun q_3 u_3 H locs hv_3 hp => ?_)
  subst hv_3
  have hp : hr_H D A s.heap (hr_Y a z th nw) H _ := hp
  refine lv_iconst (v := 1) hx hb dX12_endsIn_6 (by decide) ?_
  refine hr_cVi C0 hp (q0 := 0) (ci := 2) (Cn := RX12) (T := TX12) (N := 4) (rest := []) (n := 2) [] (hr_start_1 l D a z th nw) rfl rfl rfl (hr_gV hw_159 hw_160 hw_161 hw_105 hw_144) ⟨rfl, rfl⟩ (by decide +kernel) ⟨Nat.le_of_ble_eq_true rfl, Nat.le_of_ble_eq_true rfl⟩ ⟨Nat.le_of_ble_eq_true rfl, Nat.le_of_ble_eq_true rfl⟩ hl.1 rfl rfl (Nat.le_of_ble_eq_true rfl) dX12_endsIn_7 (fun q_7 u_7 H locs hv_7 hp => ?_)
  subst hv_7
  have hp : hr_H D A s.heap (hr_Y a z 1 nw) H _ := hp
  refine lv_if_ne (tgt := 36) hx hb dX12_endsIn_10 (by decide) (fun _ => ?_) (fun c9 => absurd c9 (by decide))
  refine lv_iconst (v := 0) hx hb dX12_endsIn_36 (by decide) ?_
  refine lv_goto (tgt := 46) hx hb dX12_endsIn_37 (by decide) ?_
  exact hr_iret () C0 hp rfl ⟨Nat.le_of_ble_eq_true rfl, Nat.le_of_ble_eq_true rfl⟩ dX12_endsIn_46 rfl
set_option maxHeartbeats 4000000 in
set_option maxRecDepth 100000 in
/-- wouldBeOn: there is none -/
theorem hr_X12_wouldBeOn (l : Launch) (D : va_G) (a : Nat → Nat) (z : Nat) (th nw : Int32) (x y : Int32) : hr_Ki l D z yX12_wouldBeOn (hr_wm yX12_wouldBeOn cX12_wouldBeOn 3 (some .int)) { frames := 2, cells := 0, slots := 0, locals := 44 } [.ref (a 0), .int x, .int y] (hr_Y a z th nw) 0 0 (fun (q : Int32) (_ : Unit) => q = 0) (fun _ => hr_Y a z 1 nw) := by
  refine hr_Ki_of (by decide) (Nat.le_of_ble_eq_true rfl) ?_
  intro p e s m args below meth c ls A C0 hp hl
  obtain ⟨hx, hb, hr9, hml, hown, hts, hK, hlk, hA, hN, hnm9⟩ := id C0
  have hl : lv_has ls 3 [(0, .ref (a 0)), (1, .int x), (2, .int y)] := hl
  refine lv_aload_n hx hb dX12_wouldBeOn_0 rfl (lv_at hl 0 rfl) ?_
  refine lv_aload_n hx hb dX12_wouldBeOn_1 rfl (lv_at hl 0 rfl) ?_
  refine lv_iload_n hx hb dX12_wouldBeOn_2 rfl (lv_at hl 1 rfl) ?_
  refine hr_cVi C0 hp (q0 := 0) (ci := 2) (Cn := RX12) (T := TX12) (N := 4) (rest := [.ref (a 0)]) (n := 1) [] (hr_X12_isNoPhone l D a z th nw x) rfl rfl rfl (hr_gV hw_199 hw_200 hw_201 hw_105 hw_152) ⟨rfl, rfl⟩ (by decide +kernel) ⟨Nat.le_of_ble_eq_true rfl, Nat.le_of_ble_eq_true rfl⟩ ⟨Nat.le_of_ble_eq_true rfl, Nat.le_of_ble_eq_true rfl⟩ hl.1 rfl rfl (Nat.le_of_ble_eq_true rfl) dX12_wouldBeOn_3 (fun q_3 u_3 H locs hv_3 hp => ?_)
  subst hv_3
  have hp : hr_H D A s.heap (hr_Y a z th nw) H _ := hp
  refine lv_iconst (v := 1) hx hb dX12_wouldBeOn_6 (by decide) ?_
  refine hr_cVi C0 hp (q0 := 0) (ci := 2) (Cn := RX12) (T := TX12) (N := 4) (rest := []) (n := 2) [] (hr_start_1 l D a z th nw) rfl rfl rfl (hr_gV hw_159 hw_160 hw_161 hw_105 hw_144) ⟨rfl, rfl⟩ (by decide +kernel) ⟨Nat.le_of_ble_eq_true rfl, Nat.le_of_ble_eq_true rfl⟩ ⟨Nat.le_of_ble_eq_true rfl, Nat.le_of_ble_eq_true rfl⟩ hl.1 rfl rfl (Nat.le_of_ble_eq_true rfl) dX12_wouldBeOn_7 (fun q_7 u_7 H locs hv_7 hp => ?_)
  subst hv_7
  have hp : hr_H D A s.heap (hr_Y a z 1 nw) H _ := hp
  refine lv_if_ne (tgt := 36) hx hb dX12_wouldBeOn_10 (by decide) (fun _ => ?_) (fun c9 => absurd c9 (by decide))
  refine lv_iconst (v := 0) hx hb dX12_wouldBeOn_36 (by decide) ?_
  refine lv_goto (tgt := 46) hx hb dX12_wouldBeOn_37 (by decide) ?_
  exact hr_iret () C0 hp rfl ⟨Nat.le_of_ble_eq_true rfl, Nat.le_of_ble_eq_true rfl⟩ dX12_wouldBeOn_46 rfl
set_option maxHeartbeats 4000000 in
set_option maxRecDepth 100000 in
/-- best of none -/
theorem hr_X11_best (l : Launch) (D : va_G) (a : Nat → Nat) (z : Nat) (th nw : Int32) (x y w : Int32) : hr_Ki l D z yX11_best (hr_wm yX11_best cX11_best 6 (some .int)) { frames := 1, cells := 0, slots := 0, locals := 20 } [.ref (a 1), .int x, .int y, .int w] (hr_Y a z th nw) 0 0 (fun (q : Int32) (_ : Unit) => q = (-1)) (fun _ => hr_Y a z th nw) := by
  refine hr_Ki_of (by decide) (Nat.le_of_ble_eq_true rfl) ?_
  intro p e s m args below meth c ls A C0 hp hl
  obtain ⟨hx, hb, hr9, hml, hown, hts, hK, hlk, hA, hN, hnm9⟩ := id C0
  have hl : lv_has ls 6 [(0, .ref (a 1)), (1, .int x), (2, .int y), (3, .int w)] := hl
  refine lv_iconst (v := (-1)) hx hb dX11_best_0 (by decide) ?_
  refine lv_istore (lv' := [(4, .int (-1)), (0, .ref (a 1)), (1, .int x), (2, .int y), (3, .int w)]) hx hb dX11_best_1 hl (by decide) rfl (fun ls hl => ?_)
  refine lv_iconst (v := 0) hx hb dX11_best_3 (by decide) ?_
  refine lv_istore (lv' := [(5, .int 0), (4, .int (-1)), (0, .ref (a 1)), (1, .int x), (2, .int y), (3, .int w)]) hx hb dX11_best_4 hl (by decide) rfl (fun ls hl => ?_)
  refine lv_iload hx hb dX11_best_6 (lv_at hl 0 rfl) ?_
  refine lv_aload_n hx hb dX11_best_8 rfl (lv_at hl 2 rfl) ?_
  refine hr_get C0 hp (q0 := 1) (C := RX11) (T := TX11) (N := 5) (ci := 1) rfl rfl hr_uX11 0 (by decide) hw_27 (fun _ h9 => h9) rfl dX11_best_9 ?_
  refine hr_cVi C0 hp (q0 := 2) (ci := 0) (Cn := RJx4a65c) (T := TJx4a65c) (N := 3) (rest := [.int 0]) (n := 0) [] (hr_size_2 l D a z th nw) rfl rfl rfl (hr_gV hw_51 hw_52 hw_53 hw_26 hw_54) ⟨rfl, rfl⟩ (by decide +kernel) ⟨Nat.le_of_ble_eq_true rfl, Nat.le_of_ble_eq_true rfl⟩ ⟨Nat.le_of_ble_eq_true rfl, Nat.le_of_ble_eq_true rfl⟩ hl.1 rfl rfl (Nat.le_of_ble_eq_true rfl) dX11_best_12 (fun q_12 u_12 H locs hv_12 hp => ?_)
  subst hv_12
  have hp : hr_H D A s.heap (hr_Y a z th nw) H _ := hp
  refine lv_icmp_ge (tgt := 115) hx hb dX11_best_15 (by decide) (fun _ => ?_) (fun c9 => absurd c9 (by decide))
  refine lv_iload hx hb dX11_best_115 (lv_at hl 1 rfl) ?_
  exact hr_iret () C0 hp rfl ⟨Nat.le_of_ble_eq_true rfl, Nat.le_of_ble_eq_true rfl⟩ dX11_best_117 rfl
set_option maxHeartbeats 4000000 in
set_option maxRecDepth 100000 in
/-- bestHeard of none -/
theorem hr_X11_bestHeard (l : Launch) (D : va_G) (a : Nat → Nat) (z : Nat) (th nw : Int32) (x : Int32) : hr_Ki l D z yX11_bestHeard (hr_wm yX11_bestHeard cX11_bestHeard 3 (some .int)) { frames := 2, cells := 0, slots := 0, locals := 45 } [.ref (a 1), .int x] (hr_Y a z th nw) 0 0 (fun (q : Int32) (_ : Unit) => q = (-1)) (fun _ => hr_Y a z th nw) := by
  refine hr_Ki_of (by decide) (Nat.le_of_ble_eq_true rfl) ?_
  intro p e s m args below meth c ls A C0 hp hl
  obtain ⟨hx, hb, hr9, hml, hown, hts, hK, hlk, hA, hN, hnm9⟩ := id C0
  have hl : lv_has ls 3 [(0, .ref (a 1)), (1, .int x)] := hl
  refine lv_aload_n hx hb dX11_bestHeard_0 rfl (lv_at hl 0 rfl) ?_
  refine lv_iload_n hx hb dX11_bestHeard_1 rfl (lv_at hl 1 rfl) ?_
  refine lv_iconst (v := (-1)) hx hb dX11_bestHeard_2 (by decide) ?_
  refine lv_iconst (v := 0) hx hb dX11_bestHeard_3 (by decide) ?_
  refine hr_cVi C0 hp (q0 := 1) (ci := 1) (Cn := RX11) (T := TX11) (N := 5) (rest := []) (n := 3) [] (hr_X11_best l D a z th nw x (-1) 0) rfl rfl rfl (hr_gV hw_92 hw_93 hw_94 hw_58 hw_46) ⟨rfl, rfl⟩ (by decide +kernel) ⟨Nat.le_of_ble_eq_true rfl, Nat.le_of_ble_eq_true rfl⟩ ⟨Nat.le_of_ble_eq_true rfl, Nat.le_of_ble_eq_true rfl⟩ hl.1 rfl rfl (Nat.le_of_ble_eq_true rfl) dX11_bestHeard_4 (fun q_4 u_4 H locs hv_4 hp => ?_)
  subst hv_4
  have hp : hr_H D A s.heap (hr_Y a z th nw) H _ := hp
  refine lv_istore_n (lv' := [(2, .int (-1)), (0, .ref (a 1)), (1, .int x)]) hx hb dX11_bestHeard_7 rfl hl (by decide) rfl (fun ls hl => ?_)
  refine lv_iload_n hx hb dX11_bestHeard_8 rfl (lv_at hl 0 rfl) ?_
  refine lv_iconst (v := (-1)) hx hb dX11_bestHeard_9 (by decide) ?_
  refine lv_icmp_eq (tgt := 22) hx hb dX11_bestHeard_10 (by decide) (fun _ => ?_) (fun c9 => absurd c9 (by decide))
  refine lv_iconst (v := (-1)) hx hb dX11_bestHeard_22 (by decide) ?_
  refine lv_goto (tgt := 27) hx hb dX11_bestHeard_23 (by decide) ?_
  exact hr_iret () C0 hp rfl ⟨Nat.le_of_ble_eq_true rfl, Nat.le_of_ble_eq_true rfl⟩ dX11_bestHeard_27 rfl
set_option maxHeartbeats 4000000 in
set_option maxRecDepth 100000 in
/-- a second -/
theorem hr_X11_second (l : Launch) (D : va_G) (a : Nat → Nat) (z : Nat) (th nw : Int32) : hr_Ki l D z yX11_second (hr_wm yX11_second cX11_second 4 (some .int)) { frames := 3, cells := 4, slots := 16, locals := 54 } [.ref (a 1)] (hr_Y a z th nw) 4 16 (fun (q : Int32) (_ : Unit) => q = 0) (fun _ => hr_Y a z th (nw + 1)) := by
  refine hr_Ki_of (by decide) (Nat.le_of_ble_eq_true rfl) ?_
  intro p e s m args below meth c ls A C0 hp hl
  obtain ⟨hx, hb, hr9, hml, hown, hts, hK, hlk, hA, hN, hnm9⟩ := id C0
  have hl : lv_has ls 4 [(0, .ref (a 1))] := hl
  refine lv_aload_n hx hb dX11_second_0 rfl (lv_at hl 0 rfl) ?_
  refine lv_dup hx hb dX11_second_1 rfl ?_
  refine hr_get C0 hp (q0 := 1) (C := RX11) (T := TX11) (N := 5) (ci := 1) rfl rfl hr_uX11 4 (by decide) hw_96 (fun _ h9 => h9) rfl dX11_second_2 ?_
  refine lv_iconst (v := 1) hx hb dX11_second_5 (by decide) ?_
  refine lv_iadd hx hb dX11_second_6 ?_
  refine hr_put C0 hp (q0 := 1) (C := RX11) (T := TX11) (N := 5) (ci := 1) (ty0 := tyX11) (ty := .int) (Y' := (hr_Y a z th (nw + 1))) rfl rfl hr_uX11 tyX11_ok nmX11 4 (by decide) hw_96 (fun _ h9 => h9) rfl (by decide +kernel) rfl rfl (Nat.le_of_ble_eq_true rfl) rfl dX11_second_7 (fun H locs hp => ?_)
  refine lv_aload_n hx hb dX11_second_10 rfl (lv_at hl 0 rfl) ?_
  refine hr_get C0 hp (q0 := 1) (C := RX11) (T := TX11) (N := 5) (ci := 1) rfl rfl hr_uX11 1 (by decide) hw_28 (fun _ h9 => h9) rfl dX11_second_11 ?_
  refine hr_cVr C0 hp (q0 := 3) (ci := 0) (Cn := RJx4a65c) (T := TJx4a65c) (N := 3) (rest := []) (n := 0) [] (hr_iter_3 l D a z th (nw + 1)) rfl rfl rfl (hr_gV hw_64 hw_65 hw_66 hw_26 hw_67) ⟨rfl, rfl⟩ (by decide +kernel) ⟨Nat.le_of_ble_eq_true rfl, Nat.le_of_ble_eq_true rfl⟩ ⟨Nat.le_of_ble_eq_true rfl, Nat.le_of_ble_eq_true rfl⟩ hl.1 rfl rfl (Nat.le_of_ble_eq_true rfl) dX11_second_14 (fun u_14 q_14 H locs hv_14 hk_14 hp => ?_)
  have hp : hr_H D A s.heap (hr_Y a z th (nw + 1) ++ [(q_14, .inr (5, [.int 0, .int (-1), .int 0, .ref (a 3)]))]) H _ := hp
  refine W.widen (k := 1) (n := 4) (by decide) (by decide) ?_
  refine lv_astore_n (lv' := [(1, .ref q_14), (0, .ref (a 1))]) hx hb dX11_second_17 rfl hl (by decide) rfl (fun ls hl => ?_)
  refine lv_aload_n hx hb dX11_second_18 rfl (lv_at hl 0 rfl) ?_
  refine hr_cFi C0 hp (q0 := 6) (ci := 5) (Cn := RJx35411) (T := TJx35411) (N := 4) (rest := []) (n := 0) [] (hr_has_3 l D a z th (nw + 1) q_14) rfl rfl rfl (hr_gF hw_80 hw_81 hw_82 hw_70 hw_83) hN.1.2.2.2.1 ⟨rfl, rfl⟩ (by decide +kernel) ⟨Nat.le_of_ble_eq_true rfl, Nat.le_of_ble_eq_true rfl⟩ ⟨Nat.le_of_ble_eq_true rfl, Nat.le_of_ble_eq_true rfl⟩ hl.1 rfl rfl (Nat.le_of_ble_eq_true rfl) dX11_second_19 (fun q_19 u_19 H locs hv_19 hp => ?_)
  subst hv_19
  have hp : hr_H D A s.heap (hr_Y a z th (nw + 1) ++ [(q_14, .inr (5, [.int 0, .int (-1), .int 0, .ref (a 3)]))]) H _ := hp
  refine lv_if_eq (tgt := 44) hx hb dX11_second_24 (by decide) (fun _ => ?_) (fun c9 => absurd c9 (by decide))
  have hp := hr_drop (Y := (hr_Y a z th (nw + 1))) (X := [(q_14, .inr (5, [.int 0, .int (-1), .int 0, .ref (a 3)]))]) hp
  refine lv_aload_n hx hb dX11_second_44 rfl (lv_at hl 1 rfl) ?_
  refine hr_get C0 hp (q0 := 1) (C := RX11) (T := TX11) (N := 5) (ci := 1) rfl rfl hr_uX11 1 (by decide) hw_28 (fun _ h9 => h9) rfl dX11_second_45 ?_
  refine hr_cVr C0 hp (q0 := 3) (ci := 0) (Cn := RJx4a65c) (T := TJx4a65c) (N := 3) (rest := []) (n := 0) [] (hr_iter_3 l D a z th (nw + 1)) rfl rfl rfl (hr_gV hw_64 hw_65 hw_66 hw_26 hw_67) ⟨rfl, rfl⟩ (by decide +kernel) ⟨Nat.le_of_ble_eq_true rfl, Nat.le_of_ble_eq_true rfl⟩ ⟨Nat.le_of_ble_eq_true rfl, Nat.le_of_ble_eq_true rfl⟩ hl.1 rfl rfl (Nat.le_of_ble_eq_true rfl) dX11_second_48 (fun u_48 q_48 H locs hv_48 hk_48 hp => ?_)
  have hp : hr_H D A s.heap (hr_Y a z th (nw + 1) ++ [(q_48, .inr (5, [.int 0, .int (-1), .int 0, .ref (a 3)]))]) H _ := hp
  refine W.widen (k := 2) (n := 8) (by decide) (by decide) ?_
  refine lv_astore_n (lv' := [(1, .ref q_48), (0, .ref (a 1))]) hx hb dX11_second_51 rfl hl (by decide) rfl (fun ls hl => ?_)
  refine lv_aload_n hx hb dX11_second_52 rfl (lv_at hl 0 rfl) ?_
  refine hr_cFi C0 hp (q0 := 6) (ci := 5) (Cn := RJx35411) (T := TJx35411) (N := 4) (rest := []) (n := 0) [] (hr_has_3 l D a z th (nw + 1) q_48) rfl rfl rfl (hr_gF hw_80 hw_81 hw_82 hw_70 hw_83) hN.1.2.2.2.1 ⟨rfl, rfl⟩ (by decide +kernel) ⟨Nat.le_of_ble_eq_true rfl, Nat.le_of_ble_eq_true rfl⟩ ⟨Nat.le_of_ble_eq_true rfl, Nat.le_of_ble_eq_true rfl⟩ hl.1 rfl rfl (Nat.le_of_ble_eq_true rfl) dX11_second_53 (fun q_53 u_53 H locs hv_53 hp => ?_)
  subst hv_53
  have hp : hr_H D A s.heap (hr_Y a z th (nw + 1) ++ [(q_48, .inr (5, [.int 0, .int (-1), .int 0, .ref (a 3)]))]) H _ := hp
  refine lv_if_eq (tgt := 86) hx hb dX11_second_58 (by decide) (fun _ => ?_) (fun c9 => absurd c9 (by decide))
  have hp := hr_drop (Y := (hr_Y a z th (nw + 1))) (X := [(q_48, .inr (5, [.int 0, .int (-1), .int 0, .ref (a 3)]))]) hp
  refine lv_iconst (v := 0) hx hb dX11_second_86 (by decide) ?_
  refine lv_istore_n (lv' := [(1, .int 0), (0, .ref (a 1))]) hx hb dX11_second_87 rfl hl (by decide) rfl (fun ls hl => ?_)
  refine lv_aload_n hx hb dX11_second_88 rfl (lv_at hl 1 rfl) ?_
  refine hr_get C0 hp (q0 := 1) (C := RX11) (T := TX11) (N := 5) (ci := 1) rfl rfl hr_uX11 2 (by decide) hw_29 (fun _ h9 => h9) rfl dX11_second_89 ?_
  refine hr_cVr C0 hp (q0 := 4) (ci := 0) (Cn := RJx4a65c) (T := TJx4a65c) (N := 3) (rest := []) (n := 0) [] (hr_iter_4 l D a z th (nw + 1)) rfl rfl rfl (hr_gV hw_64 hw_65 hw_66 hw_26 hw_67) ⟨rfl, rfl⟩ (by decide +kernel) ⟨Nat.le_of_ble_eq_true rfl, Nat.le_of_ble_eq_true rfl⟩ ⟨Nat.le_of_ble_eq_true rfl, Nat.le_of_ble_eq_true rfl⟩ hl.1 rfl rfl (Nat.le_of_ble_eq_true rfl) dX11_second_92 (fun u_92 q_92 H locs hv_92 hk_92 hp => ?_)
  have hp : hr_H D A s.heap (hr_Y a z th (nw + 1) ++ [(q_92, .inr (5, [.int 0, .int (-1), .int 0, .ref (a 4)]))]) H _ := hp
  refine W.widen (k := 3) (n := 12) (by decide) (by decide) ?_
  refine lv_astore_n (lv' := [(2, .ref q_92), (1, .int 0), (0, .ref (a 1))]) hx hb dX11_second_95 rfl hl (by decide) rfl (fun ls hl => ?_)
  refine lv_aload_n hx hb dX11_second_96 rfl (lv_at hl 0 rfl) ?_
  refine hr_cFi C0 hp (q0 := 6) (ci := 5) (Cn := RJx35411) (T := TJx35411) (N := 4) (rest := []) (n := 0) [] (hr_has_4 l D a z th (nw + 1) q_92) rfl rfl rfl (hr_gF hw_80 hw_81 hw_82 hw_70 hw_83) hN.1.2.2.2.1 ⟨rfl, rfl⟩ (by decide +kernel) ⟨Nat.le_of_ble_eq_true rfl, Nat.le_of_ble_eq_true rfl⟩ ⟨Nat.le_of_ble_eq_true rfl, Nat.le_of_ble_eq_true rfl⟩ hl.1 rfl rfl (Nat.le_of_ble_eq_true rfl) dX11_second_97 (fun q_97 u_97 H locs hv_97 hp => ?_)
  subst hv_97
  have hp : hr_H D A s.heap (hr_Y a z th (nw + 1) ++ [(q_92, .inr (5, [.int 0, .int (-1), .int 0, .ref (a 4)]))]) H _ := hp
  refine lv_if_eq (tgt := 136) hx hb dX11_second_102 (by decide) (fun _ => ?_) (fun c9 => absurd c9 (by decide))
  have hp := hr_drop (Y := (hr_Y a z th (nw + 1))) (X := [(q_92, .inr (5, [.int 0, .int (-1), .int 0, .ref (a 4)]))]) hp
  refine lv_aload_n hx hb dX11_second_136 rfl (lv_at hl 2 rfl) ?_
  refine hr_get C0 hp (q0 := 1) (C := RX11) (T := TX11) (N := 5) (ci := 1) rfl rfl hr_uX11 2 (by decide) hw_29 (fun _ h9 => h9) rfl dX11_second_137 ?_
  refine hr_cVr C0 hp (q0 := 4) (ci := 0) (Cn := RJx4a65c) (T := TJx4a65c) (N := 3) (rest := []) (n := 0) [] (hr_iter_4 l D a z th (nw + 1)) rfl rfl rfl (hr_gV hw_64 hw_65 hw_66 hw_26 hw_67) ⟨rfl, rfl⟩ (by decide +kernel) ⟨Nat.le_of_ble_eq_true rfl, Nat.le_of_ble_eq_true rfl⟩ ⟨Nat.le_of_ble_eq_true rfl, Nat.le_of_ble_eq_true rfl⟩ hl.1 rfl rfl (Nat.le_of_ble_eq_true rfl) dX11_second_140 (fun u_140 q_140 H locs hv_140 hk_140 hp => ?_)
  have hp : hr_H D A s.heap (hr_Y a z th (nw + 1) ++ [(q_140, .inr (5, [.int 0, .int (-1), .int 0, .ref (a 4)]))]) H _ := hp
  refine W.widen (k := 4) (n := 16) (by decide) (by decide) ?_
  refine lv_astore_n (lv' := [(2, .ref q_140), (1, .int 0), (0, .ref (a 1))]) hx hb dX11_second_143 rfl hl (by decide) rfl (fun ls hl => ?_)
  refine lv_aload_n hx hb dX11_second_144 rfl (lv_at hl 0 rfl) ?_
  refine hr_cFi C0 hp (q0 := 6) (ci := 5) (Cn := RJx35411) (T := TJx35411) (N := 4) (rest := []) (n := 0) [] (hr_has_4 l D a z th (nw + 1) q_140) rfl rfl rfl (hr_gF hw_80 hw_81 hw_82 hw_70 hw_83) hN.1.2.2.2.1 ⟨rfl, rfl⟩ (by decide +kernel) ⟨Nat.le_of_ble_eq_true rfl, Nat.le_of_ble_eq_true rfl⟩ ⟨Nat.le_of_ble_eq_true rfl, Nat.le_of_ble_eq_true rfl⟩ hl.1 rfl rfl (Nat.le_of_ble_eq_true rfl) dX11_second_145 (fun q_145 u_145 H locs hv_145 hp => ?_)
  subst hv_145
  have hp : hr_H D A s.heap (hr_Y a z th (nw + 1) ++ [(q_140, .inr (5, [.int 0, .int (-1), .int 0, .ref (a 4)]))]) H _ := hp
  refine lv_if_eq (tgt := 184) hx hb dX11_second_150 (by decide) (fun _ => ?_) (fun c9 => absurd c9 (by decide))
  have hp := hr_drop (Y := (hr_Y a z th (nw + 1))) (X := [(q_140, .inr (5, [.int 0, .int (-1), .int 0, .ref (a 4)]))]) hp
  refine lv_iconst (v := 0) hx hb dX11_second_184 (by decide) ?_
  refine lv_istore_n (lv' := [(2, .int 0), (1, .int 0), (0, .ref (a 1))]) hx hb dX11_second_185 rfl hl (by decide) rfl (fun ls hl => ?_)
  refine lv_iload_n hx hb dX11_second_186 rfl (lv_at hl 0 rfl) ?_
  refine lv_aload_n hx hb dX11_second_187 rfl (lv_at hl 2 rfl) ?_
  refine hr_get C0 hp (q0 := 1) (C := RX11) (T := TX11) (N := 5) (ci := 1) rfl rfl hr_uX11 3 (by decide) hw_30 (fun _ h9 => h9) rfl dX11_second_188 ?_
  refine hr_cVi C0 hp (q0 := 5) (ci := 0) (Cn := RJx4a65c) (T := TJx4a65c) (N := 3) (rest := [.int 0]) (n := 0) [] (hr_size_5 l D a z th (nw + 1)) rfl rfl rfl (hr_gV hw_51 hw_52 hw_53 hw_26 hw_54) ⟨rfl, rfl⟩ (by decide +kernel) ⟨Nat.le_of_ble_eq_true rfl, Nat.le_of_ble_eq_true rfl⟩ ⟨Nat.le_of_ble_eq_true rfl, Nat.le_of_ble_eq_true rfl⟩ hl.1 rfl rfl (Nat.le_of_ble_eq_true rfl) dX11_second_191 (fun q_191 u_191 H locs hv_191 hp => ?_)
  subst hv_191
  have hp : hr_H D A s.heap (hr_Y a z th (nw + 1)) H _ := hp
  refine lv_icmp_ge (tgt := 261) hx hb dX11_second_194 (by decide) (fun _ => ?_) (fun c9 => absurd c9 (by decide))
  refine lv_iload_n hx hb dX11_second_261 rfl (lv_at hl 1 rfl) ?_
  exact hr_iret () C0 hp rfl ⟨Nat.le_of_ble_eq_true rfl, Nat.le_of_ble_eq_true rfl⟩ dX11_second_262 rfl
set_option maxHeartbeats 4000000 in
set_option maxRecDepth 100000 in
/-- forget -/
theorem hr_X12_forget (l : Launch) (D : va_G) (a : Nat → Nat) (z : Nat) (th nw : Int32) : hr_Ki l D z yX12_forget (hr_wm yX12_forget cX12_forget 4 (some .int)) { frames := 3, cells := 1, slots := 4, locals := 54 } [.ref (a 0)] (hr_Y a z th nw) 1 4 (fun (q : Int32) (_ : Unit) => q = 0) (fun _ => hr_Y a z 0 nw) := by
  refine hr_Ki_of (by decide) (Nat.le_of_ble_eq_true rfl) ?_
  intro p e s m args below meth c ls A C0 hp hl
  obtain ⟨hx, hb, hr9, hml, hown, hts, hK, hlk, hA, hN, hnm9⟩ := id C0
  have hl : lv_has ls 4 [(0, .ref (a 0))] := hl
  refine lv_aload_n hx hb dX12_forget_0 rfl (lv_at hl 0 rfl) ?_
  refine lv_iconst (v := 0) hx hb dX12_forget_1 (by decide) ?_
  refine hr_put C0 hp (q0 := 0) (C := RX12) (T := TX12) (N := 4) (ci := 2) (ty0 := tyX12) (ty := .int) (Y' := (hr_Y a z 0 nw)) rfl rfl hr_uX12 tyX12_ok nmX12 0 (by decide) hw_142 (fun _ h9 => h9) rfl (by decide +kernel) rfl rfl (Nat.le_of_ble_eq_true rfl) rfl dX12_forget_2 (fun H locs hp => ?_)
  refine lv_iconst (v := 0) hx hb dX12_forget_5 (by decide) ?_
  refine lv_istore_n (lv' := [(1, .int 0), (0, .ref (a 0))]) hx hb dX12_forget_6 rfl hl (by decide) rfl (fun ls hl => ?_)
  refine lv_aload_n hx hb dX12_forget_7 rfl (lv_at hl 1 rfl) ?_
  refine hr_get C0 hp (q0 := 0) (C := RX12) (T := TX12) (N := 4) (ci := 2) rfl rfl hr_uX12 1 (by decide) hw_139 (fun _ h9 => h9) rfl dX12_forget_8 ?_
  refine hr_get C0 hp (q0 := 1) (C := RX11) (T := TX11) (N := 5) (ci := 1) rfl rfl hr_uX11 1 (by decide) hw_153 (fun _ h9 => h9) rfl dX12_forget_11 ?_
  refine hr_cVr C0 hp (q0 := 3) (ci := 0) (Cn := RJx4a65c) (T := TJx4a65c) (N := 3) (rest := []) (n := 0) [] (hr_iter_3 l D a z 0 nw) rfl rfl rfl (hr_gV hw_216 hw_65 hw_66 hw_26 hw_67) ⟨rfl, rfl⟩ (by decide +kernel) ⟨Nat.le_of_ble_eq_true rfl, Nat.le_of_ble_eq_true rfl⟩ ⟨Nat.le_of_ble_eq_true rfl, Nat.le_of_ble_eq_true rfl⟩ hl.1 rfl rfl (Nat.le_of_ble_eq_true rfl) dX12_forget_14 (fun u_14 q_14 H locs hv_14 hk_14 hp => ?_)
  have hp : hr_H D A s.heap (hr_Y a z 0 nw ++ [(q_14, .inr (5, [.int 0, .int (-1), .int 0, .ref (a 3)]))]) H _ := hp
  refine W.widen (k := 1) (n := 4) (by decide) (by decide) ?_
  refine lv_astore_n (lv' := [(2, .ref q_14), (1, .int 0), (0, .ref (a 0))]) hx hb dX12_forget_17 rfl hl (by decide) rfl (fun ls hl => ?_)
  refine lv_aload_n hx hb dX12_forget_18 rfl (lv_at hl 0 rfl) ?_
  refine hr_cFi C0 hp (q0 := 6) (ci := 5) (Cn := RJx35411) (T := TJx35411) (N := 4) (rest := []) (n := 0) [] (hr_has_3 l D a z 0 nw q_14) rfl rfl rfl (hr_gF hw_217 hw_81 hw_82 hw_70 hw_83) hN.1.2.2.2.1 ⟨rfl, rfl⟩ (by decide +kernel) ⟨Nat.le_of_ble_eq_true rfl, Nat.le_of_ble_eq_true rfl⟩ ⟨Nat.le_of_ble_eq_true rfl, Nat.le_of_ble_eq_true rfl⟩ hl.1 rfl rfl (Nat.le_of_ble_eq_true rfl) dX12_forget_19 (fun q_19 u_19 H locs hv_19 hp => ?_)
  subst hv_19
  have hp : hr_H D A s.heap (hr_Y a z 0 nw ++ [(q_14, .inr (5, [.int 0, .int (-1), .int 0, .ref (a 3)]))]) H _ := hp
  refine lv_if_eq (tgt := 64) hx hb dX12_forget_24 (by decide) (fun _ => ?_) (fun c9 => absurd c9 (by decide))
  have hp := hr_drop (Y := (hr_Y a z 0 nw)) (X := [(q_14, .inr (5, [.int 0, .int (-1), .int 0, .ref (a 3)]))]) hp
  refine lv_iload_n hx hb dX12_forget_64 rfl (lv_at hl 1 rfl) ?_
  exact hr_iret () C0 hp rfl ⟨Nat.le_of_ble_eq_true rfl, Nat.le_of_ble_eq_true rfl⟩ dX12_forget_65 rfl
set_option maxHeartbeats 4000000 in
set_option maxRecDepth 100000 in
/-- meanSeconds -/
theorem hr_X12_meanSeconds (l : Launch) (D : va_G) (a : Nat → Nat) (z : Nat) (th nw : Int32) : hr_Kd l D z yX12_meanSeconds (hr_wm yX12_meanSeconds cX12_meanSeconds 5 (some .double)) { frames := 3, cells := 1, slots := 4, locals := 54 } [.ref (a 0)] (hr_Y a z th nw) 1 4 (fun (q : UInt64) (_ : Unit) => q = 0) (fun _ => hr_Y a z 0 nw) := by
  refine hr_Kd_of (by decide) (Nat.le_of_ble_eq_true rfl) ?_
  intro p e s m args below meth c ls A C0 hp hl
  obtain ⟨hx, hb, hr9, hml, hown, hts, hK, hlk, hA, hN, hnm9⟩ := id C0
  have hl : lv_has ls 5 [(0, .ref (a 0))] := hl
  refine lv_aload_n hx hb dX12_meanSeconds_0 rfl (lv_at hl 0 rfl) ?_
  refine lv_iconst (v := 0) hx hb dX12_meanSeconds_1 (by decide) ?_
  refine hr_put C0 hp (q0 := 0) (C := RX12) (T := TX12) (N := 4) (ci := 2) (ty0 := tyX12) (ty := .int) (Y' := (hr_Y a z 0 nw)) rfl rfl hr_uX12 tyX12_ok nmX12 0 (by decide) hw_142 (fun _ h9 => h9) rfl (by decide +kernel) rfl rfl (Nat.le_of_ble_eq_true rfl) rfl dX12_meanSeconds_2 (fun H locs hp => ?_)
  refine lv_iconst (v := 0) hx hb dX12_meanSeconds_5 (by decide) ?_
  refine lv_istore_n (lv' := [(1, .int 0), (0, .ref (a 0))]) hx hb dX12_meanSeconds_6 rfl hl (by decide) rfl (fun ls hl => ?_)
  refine lv_iconst (v := 0) hx hb dX12_meanSeconds_7 (by decide) ?_
  refine lv_istore_n (lv' := [(2, .int 0), (1, .int 0), (0, .ref (a 0))]) hx hb dX12_meanSeconds_8 rfl hl (by decide) rfl (fun ls hl => ?_)
  refine lv_aload_n hx hb dX12_meanSeconds_9 rfl (lv_at hl 2 rfl) ?_
  refine hr_get C0 hp (q0 := 0) (C := RX12) (T := TX12) (N := 4) (ci := 2) rfl rfl hr_uX12 1 (by decide) hw_139 (fun _ h9 => h9) rfl dX12_meanSeconds_10 ?_
  refine hr_get C0 hp (q0 := 1) (C := RX11) (T := TX11) (N := 5) (ci := 1) rfl rfl hr_uX11 2 (by decide) hw_155 (fun _ h9 => h9) rfl dX12_meanSeconds_13 ?_
  refine hr_cVr C0 hp (q0 := 4) (ci := 0) (Cn := RJx4a65c) (T := TJx4a65c) (N := 3) (rest := []) (n := 0) [] (hr_iter_4 l D a z 0 nw) rfl rfl rfl (hr_gV hw_216 hw_65 hw_66 hw_26 hw_67) ⟨rfl, rfl⟩ (by decide +kernel) ⟨Nat.le_of_ble_eq_true rfl, Nat.le_of_ble_eq_true rfl⟩ ⟨Nat.le_of_ble_eq_true rfl, Nat.le_of_ble_eq_true rfl⟩ hl.1 rfl rfl (Nat.le_of_ble_eq_true rfl) dX12_meanSeconds_16 (fun u_16 q_16 H locs hv_16 hk_16 hp => ?_)
  have hp : hr_H D A s.heap (hr_Y a z 0 nw ++ [(q_16, .inr (5, [.int 0, .int (-1), .int 0, .ref (a 4)]))]) H _ := hp
  refine W.widen (k := 1) (n := 4) (by decide) (by decide) ?_
  refine lv_astore_n (lv' := [(3, .ref q_16), (2, .int 0), (1, .int 0), (0, .ref (a 0))]) hx hb dX12_meanSeconds_19 rfl hl (by decide) rfl (fun ls hl => ?_)
  refine lv_aload_n hx hb dX12_meanSeconds_20 rfl (lv_at hl 0 rfl) ?_
  refine hr_cFi C0 hp (q0 := 6) (ci := 5) (Cn := RJx35411) (T := TJx35411) (N := 4) (rest := []) (n := 0) [] (hr_has_4 l D a z 0 nw q_16) rfl rfl rfl (hr_gF hw_217 hw_81 hw_82 hw_70 hw_83) hN.1.2.2.2.1 ⟨rfl, rfl⟩ (by decide +kernel) ⟨Nat.le_of_ble_eq_true rfl, Nat.le_of_ble_eq_true rfl⟩ ⟨Nat.le_of_ble_eq_true rfl, Nat.le_of_ble_eq_true rfl⟩ hl.1 rfl rfl (Nat.le_of_ble_eq_true rfl) dX12_meanSeconds_21 (fun q_21 u_21 H locs hv_21 hp => ?_)
  subst hv_21
  have hp : hr_H D A s.heap (hr_Y a z 0 nw ++ [(q_16, .inr (5, [.int 0, .int (-1), .int 0, .ref (a 4)]))]) H _ := hp
  refine lv_if_eq (tgt := 65) hx hb dX12_meanSeconds_26 (by decide) (fun _ => ?_) (fun c9 => absurd c9 (by decide))
  have hp := hr_drop (Y := (hr_Y a z 0 nw)) (X := [(q_16, .inr (5, [.int 0, .int (-1), .int 0, .ref (a 4)]))]) hp
  refine lv_iload_n hx hb dX12_meanSeconds_65 rfl (lv_at hl 1 rfl) ?_
  refine lv_if_ne (tgt := 73) hx hb dX12_meanSeconds_66 (by decide) (fun c9 => absurd c9 (by decide)) (fun _ => ?_)
  refine lv_dconst0 hx hb dX12_meanSeconds_69 ?_
  refine lv_goto (tgt := 78) hx hb dX12_meanSeconds_70 (by decide) ?_
  exact hr_dret () C0 hp rfl ⟨Nat.le_of_ble_eq_true rfl, Nat.le_of_ble_eq_true rfl⟩ dX12_meanSeconds_78 rfl
