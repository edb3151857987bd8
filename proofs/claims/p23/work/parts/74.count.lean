/-! the reference on a road with two masts: the best, the covered places, a row of answers, what is told of a mast (wip/gen/mkt2.py) -/
set_option maxHeartbeats 4000000 in
set_option maxRecDepth 100000 in
/-- whether mast 0 is heard -/
theorem hs_isHeard_0 (l : Launch) (D : va_G) (a : Nat → Nat) (z : Nat) (cO : ClassId) (pp : Nat → Int32) (th : Int32) (x : Int32) : hs_Ki l D z (hs_t cO) yX11_isHeard (hr_wm yX11_isHeard cX11_isHeard 3 (some .boolean)) { frames := 4, cells := 1, slots := 4, locals := 90 } [.ref (a 1), .int 0, .int x] (hs_Y a z cO pp th) 1 1 4 (fun (q : Int32) (_ : Unit) => q = 0 ∨ q = 1) (fun _ => hs_Y a z cO pp th) := by
  refine hs_Ki_of (by decide) (Nat.le_of_ble_eq_true rfl) ?_
  intro p e s m args below meth c ls A hAe C0 hKT hp hl
  obtain ⟨hx, hb, hr9, hml, hown, hts, hK, hlk, hA, hN, hnm9⟩ := id C0
  have hl : lv_has ls 3 [(0, .ref (a 1)), (1, .int 0), (2, .int x)] := hl
  refine lv_aload_n hx hb dX11_isHeard_0 rfl (lv_at hl 0 rfl) ?_
  refine lv_iload_n hx hb dX11_isHeard_1 rfl (lv_at hl 1 rfl) ?_
  refine lv_iload_n hx hb dX11_isHeard_2 rfl (lv_at hl 2 rfl) ?_
  have hz := hp.2.2.1
  refine hs_cVi C0 hKT hp (q0 := 1) (ci := 1) (Cn := RX11) (T := TX11) (N := 5) (rest := []) (n := 2) [] (hs_quality_0 l D a z cO pp th x) rfl rfl rfl (hr_gV hw_100 hw_101 hw_102 hw_103 hw_40) ⟨rfl, rfl⟩ (by decide +kernel) ⟨Nat.le_of_ble_eq_true rfl, Nat.le_of_ble_eq_true rfl⟩ ⟨Nat.le_of_ble_eq_true rfl, Nat.le_of_ble_eq_true rfl⟩ hl.1 rfl rfl (Nat.le_of_ble_eq_true rfl) dX11_isHeard_3 (fun q_3 u_3 H locs hv_3 hz9 hp => ?_)
  have hz := hs_zz hz hz9
  have hp : hr_H D A s.heap (hs_Y a z cO pp th) H _ := hp
  refine W.widen (k := 1) (n := 4) (by decide) (by decide) ?_
  refine lv_iconst (v := 1) hx hb dX11_isHeard_6 (by decide) ?_
  refine lv_icmp_lt (tgt := 14) hx hb dX11_isHeard_7 (by decide) (fun c1 => ?_) (fun c1 => ?_)
  · refine lv_iconst (v := 0) hx hb dX11_isHeard_14 (by decide) ?_
    exact hs_zret () C0 hp (by omega) rfl (Or.inl rfl) ⟨Nat.le_of_ble_eq_true rfl, Nat.le_of_ble_eq_true rfl⟩ dX11_isHeard_15 (Or.inl rfl)
  · refine lv_iconst (v := 1) hx hb dX11_isHeard_10 (by decide) ?_
    refine lv_goto (tgt := 15) hx hb dX11_isHeard_11 (by decide) ?_
    exact hs_zret () C0 hp (by omega) rfl (Or.inr rfl) ⟨Nat.le_of_ble_eq_true rfl, Nat.le_of_ble_eq_true rfl⟩ dX11_isHeard_15 (Or.inr rfl)
set_option maxHeartbeats 4000000 in
set_option maxRecDepth 100000 in
/-- whether mast 1 is heard -/
theorem hs_isHeard_1 (l : Launch) (D : va_G) (a : Nat → Nat) (z : Nat) (cO : ClassId) (pp : Nat → Int32) (th : Int32) (x : Int32) : hs_Ki l D z (hs_t cO) yX11_isHeard (hr_wm yX11_isHeard cX11_isHeard 3 (some .boolean)) { frames := 4, cells := 1, slots := 4, locals := 90 } [.ref (a 1), .int 1, .int x] (hs_Y a z cO pp th) 1 1 4 (fun (q : Int32) (_ : Unit) => q = 0 ∨ q = 1) (fun _ => hs_Y a z cO pp th) := by
  refine hs_Ki_of (by decide) (Nat.le_of_ble_eq_true rfl) ?_
  intro p e s m args below meth c ls A hAe C0 hKT hp hl
  obtain ⟨hx, hb, hr9, hml, hown, hts, hK, hlk, hA, hN, hnm9⟩ := id C0
  have hl : lv_has ls 3 [(0, .ref (a 1)), (1, .int 1), (2, .int x)] := hl
  refine lv_aload_n hx hb dX11_isHeard_0 rfl (lv_at hl 0 rfl) ?_
  refine lv_iload_n hx hb dX11_isHeard_1 rfl (lv_at hl 1 rfl) ?_
  refine lv_iload_n hx hb dX11_isHeard_2 rfl (lv_at hl 2 rfl) ?_
  have hz := hp.2.2.1
  refine hs_cVi C0 hKT hp (q0 := 1) (ci := 1) (Cn := RX11) (T := TX11) (N := 5) (rest := []) (n := 2) [] (hs_quality_1 l D a z cO pp th x) rfl rfl rfl (hr_gV hw_100 hw_101 hw_102 hw_103 hw_40) ⟨rfl, rfl⟩ (by decide +kernel) ⟨Nat.le_of_ble_eq_true rfl, Nat.le_of_ble_eq_true rfl⟩ ⟨Nat.le_of_ble_eq_true rfl, Nat.le_of_ble_eq_true rfl⟩ hl.1 rfl rfl (Nat.le_of_ble_eq_true rfl) dX11_isHeard_3 (fun q_3 u_3 H locs hv_3 hz9 hp => ?_)
  have hz := hs_zz hz hz9
  have hp : hr_H D A s.heap (hs_Y a z cO pp th) H _ := hp
  refine W.widen (k := 1) (n := 4) (by decide) (by decide) ?_
  refine lv_iconst (v := 1) hx hb dX11_isHeard_6 (by decide) ?_
  refine lv_icmp_lt (tgt := 14) hx hb dX11_isHeard_7 (by decide) (fun c1 => ?_) (fun c1 => ?_)
  · refine lv_iconst (v := 0) hx hb dX11_isHeard_14 (by decide) ?_
    exact hs_zret () C0 hp (by omega) rfl (Or.inl rfl) ⟨Nat.le_of_ble_eq_true rfl, Nat.le_of_ble_eq_true rfl⟩ dX11_isHeard_15 (Or.inl rfl)
  · refine lv_iconst (v := 1) hx hb dX11_isHeard_10 (by decide) ?_
    refine lv_goto (tgt := 15) hx hb dX11_isHeard_11 (by decide) ?_
    exact hs_zret () C0 hp (by omega) rfl (Or.inr rfl) ⟨Nat.le_of_ble_eq_true rfl, Nat.le_of_ble_eq_true rfl⟩ dX11_isHeard_15 (Or.inr rfl)
set_option maxHeartbeats 4000000 in
set_option maxRecDepth 100000 in
/-- the best of two: two new cells at least -/
theorem hs_best (l : Launch) (D : va_G) (a : Nat → Nat) (z : Nat) (cO : ClassId) (pp : Nat → Int32) (th : Int32) (x : Int32) : hs_Ki l D z (hs_t cO) yX11_best (hr_wm yX11_best cX11_best 6 (some .int)) { frames := 4, cells := 2, slots := 8, locals := 90 } [.ref (a 1), .int x, .int (-1), .int 0] (hs_Y a z cO pp th) 2 2 8 (fun (q : Int32) (_ : Unit) => q = 0 ∨ q = 1) (fun _ => hs_Y a z cO pp th) := by
  refine hs_Ki_of (by decide) (Nat.le_of_ble_eq_true rfl) ?_
  intro p e s m args below meth c ls A hAe C0 hKT hp hl
  obtain ⟨hx, hb, hr9, hml, hown, hts, hK, hlk, hA, hN, hnm9⟩ := id C0
  have hl : lv_has ls 6 [(0, .ref (a 1)), (1, .int x), (2, .int (-1)), (3, .int 0)] := hl
  refine lv_iconst (v := (-1)) hx hb dX11_best_0 (by decide) ?_
  refine lv_istore (lv' := [(4, .int (-1)), (0, .ref (a 1)), (1, .int x), (2, .int (-1)), (3, .int 0)]) hx hb dX11_best_1 hl (by decide) rfl (fun ls hl => ?_)
  refine lv_iconst (v := 0) hx hb dX11_best_3 (by decide) ?_
  refine lv_istore (lv' := [(5, .int 0), (4, .int (-1)), (0, .ref (a 1)), (1, .int x), (2, .int (-1)), (3, .int 0)]) hx hb dX11_best_4 hl (by decide) rfl (fun ls hl => ?_)
  refine lv_iload hx hb dX11_best_6 (lv_at hl 0 rfl) ?_
  refine lv_aload_n hx hb dX11_best_8 rfl (lv_at hl 2 rfl) ?_
  refine hr_get C0 hp (q0 := 1) (C := RX11) (T := TX11) (N := 5) (ci := 1) rfl rfl hr_uX11 0 (by decide) hw_21 (fun _ h9 => h9) rfl dX11_best_9 ?_
  refine hs_cVi C0 hKT hp (q0 := 2) (ci := 0) (Cn := RJx4a65c) (T := TJx4a65c) (N := 3) (rest := [.int 0]) (n := 0) [] (hs_size_2 l D a z cO pp th) rfl rfl rfl (hr_gV hw_106 hw_107 hw_108 hw_20 hw_109) ⟨rfl, rfl⟩ (by decide +kernel) ⟨Nat.le_of_ble_eq_true rfl, Nat.le_of_ble_eq_true rfl⟩ ⟨Nat.le_of_ble_eq_true rfl, Nat.le_of_ble_eq_true rfl⟩ hl.1 rfl rfl (Nat.le_of_ble_eq_true rfl) dX11_best_12 (fun q_12 u_12 H locs hv_12 hz9 hp => ?_)
  subst hv_12
  have hp : hr_H D A s.heap (hs_Y a z cO pp th) H _ := hp
  refine lv_icmp_ge (tgt := 115) hx hb dX11_best_15 (by decide) (fun c9 => absurd c9 (by decide)) (fun _ => ?_)
  refine lv_iload hx hb dX11_best_18 (lv_at hl 0 rfl) ?_
  refine lv_iload_n hx hb dX11_best_20 rfl (lv_at hl 4 rfl) ?_
  refine lv_icmp_eq (tgt := 109) hx hb dX11_best_21 (by decide) (fun c9 => absurd c9 (by decide)) (fun _ => ?_)
  refine lv_iload_n hx hb dX11_best_24 rfl (lv_at hl 5 rfl) ?_
  refine lv_if_eq (tgt := 82) hx hb dX11_best_25 (by decide) (fun _ => ?_) (fun c9 => absurd c9 (by decide))
  refine lv_iload hx hb dX11_best_82 (lv_at hl 1 rfl) ?_
  refine lv_iconst (v := (-1)) hx hb dX11_best_84 (by decide) ?_
  refine lv_icmp_eq (tgt := 105) hx hb dX11_best_85 (by decide) (fun _ => ?_) (fun c9 => absurd c9 (by decide))
  refine lv_iload hx hb dX11_best_105 (lv_at hl 0 rfl) ?_
  refine lv_istore (lv' := [(4, .int 0), (5, .int 0), (0, .ref (a 1)), (1, .int x), (2, .int (-1)), (3, .int 0)]) hx hb dX11_best_107 hl (by decide) rfl (fun ls hl => ?_)
  refine lv_iinc (v := 1) (lv' := [(5, .int 1), (4, .int 0), (0, .ref (a 1)), (1, .int x), (2, .int (-1)), (3, .int 0)]) hx hb dX11_best_109 hl (k := 1) rfl (by decide) (by decide) rfl (fun ls hl => ?_)
  refine lv_goto (tgt := 6) hx hb dX11_best_112 (by decide) ?_
  refine lv_iload hx hb dX11_best_6 (lv_at hl 0 rfl) ?_
  refine lv_aload_n hx hb dX11_best_8 rfl (lv_at hl 2 rfl) ?_
  refine hr_get C0 hp (q0 := 1) (C := RX11) (T := TX11) (N := 5) (ci := 1) rfl rfl hr_uX11 0 (by decide) hw_21 (fun _ h9 => h9) rfl dX11_best_9 ?_
  refine hs_cVi C0 hKT hp (q0 := 2) (ci := 0) (Cn := RJx4a65c) (T := TJx4a65c) (N := 3) (rest := [.int 1]) (n := 0) [] (hs_size_2 l D a z cO pp th) rfl rfl rfl (hr_gV hw_106 hw_107 hw_108 hw_20 hw_109) ⟨rfl, rfl⟩ (by decide +kernel) ⟨Nat.le_of_ble_eq_true rfl, Nat.le_of_ble_eq_true rfl⟩ ⟨Nat.le_of_ble_eq_true rfl, Nat.le_of_ble_eq_true rfl⟩ hl.1 rfl rfl (Nat.le_of_ble_eq_true rfl) dX11_best_12 (fun q_12 u_12 H locs hv_12 hz9 hp => ?_)
  subst hv_12
  have hp : hr_H D A s.heap (hs_Y a z cO pp th) H _ := hp
  refine lv_icmp_ge (tgt := 115) hx hb dX11_best_15 (by decide) (fun c9 => absurd c9 (by decide)) (fun _ => ?_)
  refine lv_iload hx hb dX11_best_18 (lv_at hl 0 rfl) ?_
  refine lv_iload_n hx hb dX11_best_20 rfl (lv_at hl 4 rfl) ?_
  refine lv_icmp_eq (tgt := 109) hx hb dX11_best_21 (by decide) (fun c9 => absurd c9 (by decide)) (fun _ => ?_)
  refine lv_iload_n hx hb dX11_best_24 rfl (lv_at hl 5 rfl) ?_
  refine lv_if_eq (tgt := 82) hx hb dX11_best_25 (by decide) (fun _ => ?_) (fun c9 => absurd c9 (by decide))
  refine lv_iload hx hb dX11_best_82 (lv_at hl 1 rfl) ?_
  refine lv_iconst (v := (-1)) hx hb dX11_best_84 (by decide) ?_
  refine lv_icmp_eq (tgt := 105) hx hb dX11_best_85 (by decide) (fun c9 => absurd c9 (by decide)) (fun _ => ?_)
  refine lv_aload_n hx hb dX11_best_88 rfl (lv_at hl 2 rfl) ?_
  refine lv_iload hx hb dX11_best_89 (lv_at hl 0 rfl) ?_
  refine lv_iload_n hx hb dX11_best_91 rfl (lv_at hl 3 rfl) ?_
  have hz := hp.2.2.1
  refine hs_cVi C0 hKT hp (q0 := 1) (ci := 1) (Cn := RX11) (T := TX11) (N := 5) (rest := []) (n := 2) [] (hs_quality_1 l D a z cO pp th x) rfl rfl rfl (hr_gV hw_100 hw_101 hw_102 hw_103 hw_40) ⟨rfl, rfl⟩ (by decide +kernel) ⟨Nat.le_of_ble_eq_true rfl, Nat.le_of_ble_eq_true rfl⟩ ⟨Nat.le_of_ble_eq_true rfl, Nat.le_of_ble_eq_true rfl⟩ hl.1 rfl rfl (Nat.le_of_ble_eq_true rfl) dX11_best_92 (fun q_92 u_92 H locs hv_92 hz9 hp => ?_)
  have hz := hs_zz hz hz9
  have hp : hr_H D A s.heap (hs_Y a z cO pp th) H _ := hp
  refine W.widen (k := 1) (n := 4) (by decide) (by decide) ?_
  refine lv_aload_n hx hb dX11_best_95 rfl (lv_at hl 2 rfl) ?_
  refine lv_iload hx hb dX11_best_96 (lv_at hl 1 rfl) ?_
  refine lv_iload_n hx hb dX11_best_98 rfl (lv_at hl 3 rfl) ?_
  refine hs_cVi C0 hKT hp (q0 := 1) (ci := 1) (Cn := RX11) (T := TX11) (N := 5) (rest := [.int q_92]) (n := 2) [] (hs_quality_0 l D a z cO pp th x) rfl rfl rfl (hr_gV hw_100 hw_101 hw_102 hw_103 hw_40) ⟨rfl, rfl⟩ (by decide +kernel) ⟨Nat.le_of_ble_eq_true rfl, Nat.le_of_ble_eq_true rfl⟩ ⟨Nat.le_of_ble_eq_true rfl, Nat.le_of_ble_eq_true rfl⟩ hl.1 rfl rfl (Nat.le_of_ble_eq_true rfl) dX11_best_99 (fun q_99 u_99 H locs hv_99 hz9 hp => ?_)
  have hz := hs_zz hz hz9
  have hp : hr_H D A s.heap (hs_Y a z cO pp th) H _ := hp
  refine W.widen (k := 2) (n := 8) (by decide) (by decide) ?_
  refine lv_icmp_le (tgt := 109) hx hb dX11_best_102 (by decide) (fun c1 => ?_) (fun c1 => ?_)
  · refine lv_iinc (v := 2) (lv' := [(5, .int 2), (4, .int 0), (0, .ref (a 1)), (1, .int x), (2, .int (-1)), (3, .int 0)]) hx hb dX11_best_109 hl (k := 0) rfl (by decide) (by decide) rfl (fun ls hl => ?_)
    refine lv_goto (tgt := 6) hx hb dX11_best_112 (by decide) ?_
    refine lv_iload hx hb dX11_best_6 (lv_at hl 0 rfl) ?_
    refine lv_aload_n hx hb dX11_best_8 rfl (lv_at hl 2 rfl) ?_
    refine hr_get C0 hp (q0 := 1) (C := RX11) (T := TX11) (N := 5) (ci := 1) rfl rfl hr_uX11 0 (by decide) hw_21 (fun _ h9 => h9) rfl dX11_best_9 ?_
    refine hs_cVi C0 hKT hp (q0 := 2) (ci := 0) (Cn := RJx4a65c) (T := TJx4a65c) (N := 3) (rest := [.int 2]) (n := 0) [] (hs_size_2 l D a z cO pp th) rfl rfl rfl (hr_gV hw_106 hw_107 hw_108 hw_20 hw_109) ⟨rfl, rfl⟩ (by decide +kernel) ⟨Nat.le_of_ble_eq_true rfl, Nat.le_of_ble_eq_true rfl⟩ ⟨Nat.le_of_ble_eq_true rfl, Nat.le_of_ble_eq_true rfl⟩ hl.1 rfl rfl (Nat.le_of_ble_eq_true rfl) dX11_best_12 (fun q_12 u_12 H locs hv_12 hz9 hp => ?_)
    have hz := hs_zz hz hz9
    subst hv_12
    have hp : hr_H D A s.heap (hs_Y a z cO pp th) H _ := hp
    refine lv_icmp_ge (tgt := 115) hx hb dX11_best_15 (by decide) (fun _ => ?_) (fun c9 => absurd c9 (by decide))
    refine lv_iload hx hb dX11_best_115 (lv_at hl 1 rfl) ?_
    exact hs_iret () C0 hp (by omega) rfl ⟨Nat.le_of_ble_eq_true rfl, Nat.le_of_ble_eq_true rfl⟩ dX11_best_117 (Or.inl rfl)
  · refine lv_iload hx hb dX11_best_105 (lv_at hl 0 rfl) ?_
    refine lv_istore (lv' := [(4, .int 1), (5, .int 1), (0, .ref (a 1)), (1, .int x), (2, .int (-1)), (3, .int 0)]) hx hb dX11_best_107 hl (by decide) rfl (fun ls hl => ?_)
    refine lv_iinc (v := 2) (lv' := [(5, .int 2), (4, .int 1), (0, .ref (a 1)), (1, .int x), (2, .int (-1)), (3, .int 0)]) hx hb dX11_best_109 hl (k := 1) rfl (by decide) (by decide) rfl (fun ls hl => ?_)
    refine lv_goto (tgt := 6) hx hb dX11_best_112 (by decide) ?_
    refine lv_iload hx hb dX11_best_6 (lv_at hl 0 rfl) ?_
    refine lv_aload_n hx hb dX11_best_8 rfl (lv_at hl 2 rfl) ?_
    refine hr_get C0 hp (q0 := 1) (C := RX11) (T := TX11) (N := 5) (ci := 1) rfl rfl hr_uX11 0 (by decide) hw_21 (fun _ h9 => h9) rfl dX11_best_9 ?_
    refine hs_cVi C0 hKT hp (q0 := 2) (ci := 0) (Cn := RJx4a65c) (T := TJx4a65c) (N := 3) (rest := [.int 2]) (n := 0) [] (hs_size_2 l D a z cO pp th) rfl rfl rfl (hr_gV hw_106 hw_107 hw_108 hw_20 hw_109) ⟨rfl, rfl⟩ (by decide +kernel) ⟨Nat.le_of_ble_eq_true rfl, Nat.le_of_ble_eq_true rfl⟩ ⟨Nat.le_of_ble_eq_true rfl, Nat.le_of_ble_eq_true rfl⟩ hl.1 rfl rfl (Nat.le_of_ble_eq_true rfl) dX11_best_12 (fun q_12 u_12 H locs hv_12 hz9 hp => ?_)
    have hz := hs_zz hz hz9
    subst hv_12
    have hp : hr_H D A s.heap (hs_Y a z cO pp th) H _ := hp
    refine lv_icmp_ge (tgt := 115) hx hb dX11_best_15 (by decide) (fun _ => ?_) (fun c9 => absurd c9 (by decide))
    refine lv_iload hx hb dX11_best_115 (lv_at hl 1 rfl) ?_
    exact hs_iret () C0 hp (by omega) rfl ⟨Nat.le_of_ble_eq_true rfl, Nat.le_of_ble_eq_true rfl⟩ dX11_best_117 (Or.inr rfl)
set_option maxHeartbeats 4000000 in
set_option maxRecDepth 100000 in
/-- the best that is heard -/
theorem hs_bestHeard (l : Launch) (D : va_G) (a : Nat → Nat) (z : Nat) (cO : ClassId) (pp : Nat → Int32) (th : Int32) (x : Int32) : hs_Ki l D z (hs_t cO) yX11_bestHeard (hr_wm yX11_bestHeard cX11_bestHeard 3 (some .int)) { frames := 5, cells := 3, slots := 12, locals := 115 } [.ref (a 1), .int x] (hs_Y a z cO pp th) 3 3 12 (fun (_ : Int32) (_ : Unit) => True) (fun _ => hs_Y a z cO pp th) := by
  refine hs_Ki_of (by decide) (Nat.le_of_ble_eq_true rfl) ?_
  intro p e s m args below meth c ls A hAe C0 hKT hp hl
  obtain ⟨hx, hb, hr9, hml, hown, hts, hK, hlk, hA, hN, hnm9⟩ := id C0
  have hl : lv_has ls 3 [(0, .ref (a 1)), (1, .int x)] := hl
  refine lv_aload_n hx hb dX11_bestHeard_0 rfl (lv_at hl 0 rfl) ?_
  refine lv_iload_n hx hb dX11_bestHeard_1 rfl (lv_at hl 1 rfl) ?_
  refine lv_iconst (v := (-1)) hx hb dX11_bestHeard_2 (by decide) ?_
  refine lv_iconst (v := 0) hx hb dX11_bestHeard_3 (by decide) ?_
  have hz := hp.2.2.1
  refine hs_cVi C0 hKT hp (q0 := 1) (ci := 1) (Cn := RX11) (T := TX11) (N := 5) (rest := []) (n := 3) [] (hs_best l D a z cO pp th x) rfl rfl rfl (hr_gV hw_111 hw_112 hw_113 hw_103 hw_104) ⟨rfl, rfl⟩ (by decide +kernel) ⟨Nat.le_of_ble_eq_true rfl, Nat.le_of_ble_eq_true rfl⟩ ⟨Nat.le_of_ble_eq_true rfl, Nat.le_of_ble_eq_true rfl⟩ hl.1 rfl rfl (Nat.le_of_ble_eq_true rfl) dX11_bestHeard_4 (fun q_4 u_4 H locs hv_4 hz9 hp => ?_)
  have hz := hs_zz hz hz9
  have hp : hr_H D A s.heap (hs_Y a z cO pp th) H _ := hp
  refine W.widen (k := 2) (n := 8) (by decide) (by decide) ?_
  rcases hv_4 with rfl | rfl
  · refine lv_istore_n (lv' := [(2, .int 0), (0, .ref (a 1)), (1, .int x)]) hx hb dX11_bestHeard_7 rfl hl (by decide) rfl (fun ls hl => ?_)
    refine lv_iload_n hx hb dX11_bestHeard_8 rfl (lv_at hl 0 rfl) ?_
    refine lv_iconst (v := (-1)) hx hb dX11_bestHeard_9 (by decide) ?_
    refine lv_icmp_eq (tgt := 22) hx hb dX11_bestHeard_10 (by decide) (fun c9 => absurd c9 (by decide)) (fun _ => ?_)
    refine lv_aload_n hx hb dX11_bestHeard_13 rfl (lv_at hl 1 rfl) ?_
    refine lv_iload_n hx hb dX11_bestHeard_14 rfl (lv_at hl 0 rfl) ?_
    refine lv_iload_n hx hb dX11_bestHeard_15 rfl (lv_at hl 2 rfl) ?_
    refine hs_cVi C0 hKT hp (q0 := 1) (ci := 1) (Cn := RX11) (T := TX11) (N := 5) (rest := []) (n := 2) [] (hs_isHeard_0 l D a z cO pp th x) rfl rfl rfl (hr_gV hw_114 hw_115 hw_116 hw_103 hw_99) ⟨rfl, rfl⟩ (by decide +kernel) ⟨Nat.le_of_ble_eq_true rfl, Nat.le_of_ble_eq_true rfl⟩ ⟨Nat.le_of_ble_eq_true rfl, Nat.le_of_ble_eq_true rfl⟩ hl.1 rfl rfl (Nat.le_of_ble_eq_true rfl) dX11_bestHeard_16 (fun q_16 u_16 H locs hv_16 hz9 hp => ?_)
    have hz := hs_zz hz hz9
    have hp : hr_H D A s.heap (hs_Y a z cO pp th) H _ := hp
    refine W.widen (k := 3) (n := 12) (by decide) (by decide) ?_
    rcases hv_16 with rfl | rfl
    · refine lv_if_ne (tgt := 26) hx hb dX11_bestHeard_19 (by decide) (fun c9 => absurd c9 (by decide)) (fun _ => ?_)
      refine lv_iconst (v := (-1)) hx hb dX11_bestHeard_22 (by decide) ?_
      refine lv_goto (tgt := 27) hx hb dX11_bestHeard_23 (by decide) ?_
      exact hs_iret () C0 hp (by omega) rfl ⟨Nat.le_of_ble_eq_true rfl, Nat.le_of_ble_eq_true rfl⟩ dX11_bestHeard_27 trivial
    · refine lv_if_ne (tgt := 26) hx hb dX11_bestHeard_19 (by decide) (fun _ => ?_) (fun c9 => absurd c9 (by decide))
      refine lv_iload_n hx hb dX11_bestHeard_26 rfl (lv_at hl 0 rfl) ?_
      exact hs_iret () C0 hp (by omega) rfl ⟨Nat.le_of_ble_eq_true rfl, Nat.le_of_ble_eq_true rfl⟩ dX11_bestHeard_27 trivial
  · refine lv_istore_n (lv' := [(2, .int 1), (0, .ref (a 1)), (1, .int x)]) hx hb dX11_bestHeard_7 rfl hl (by decide) rfl (fun ls hl => ?_)
    refine lv_iload_n hx hb dX11_bestHeard_8 rfl (lv_at hl 0 rfl) ?_
    refine lv_iconst (v := (-1)) hx hb dX11_bestHeard_9 (by decide) ?_
    refine lv_icmp_eq (tgt := 22) hx hb dX11_bestHeard_10 (by decide) (fun c9 => absurd c9 (by decide)) (fun _ => ?_)
    refine lv_aload_n hx hb dX11_bestHeard_13 rfl (lv_at hl 1 rfl) ?_
    refine lv_iload_n hx hb dX11_bestHeard_14 rfl (lv_at hl 0 rfl) ?_
    refine lv_iload_n hx hb dX11_bestHeard_15 rfl (lv_at hl 2 rfl) ?_
    refine hs_cVi C0 hKT hp (q0 := 1) (ci := 1) (Cn := RX11) (T := TX11) (N := 5) (rest := []) (n := 2) [] (hs_isHeard_1 l D a z cO pp th x) rfl rfl rfl (hr_gV hw_114 hw_115 hw_116 hw_103 hw_99) ⟨rfl, rfl⟩ (by decide +kernel) ⟨Nat.le_of_ble_eq_true rfl, Nat.le_of_ble_eq_true rfl⟩ ⟨Nat.le_of_ble_eq_true rfl, Nat.le_of_ble_eq_true rfl⟩ hl.1 rfl rfl (Nat.le_of_ble_eq_true rfl) dX11_bestHeard_16 (fun q_16 u_16 H locs hv_16 hz9 hp => ?_)
    have hz := hs_zz hz hz9
    have hp : hr_H D A s.heap (hs_Y a z cO pp th) H _ := hp
    refine W.widen (k := 3) (n := 12) (by decide) (by decide) ?_
    rcases hv_16 with rfl | rfl
    · refine lv_if_ne (tgt := 26) hx hb dX11_bestHeard_19 (by decide) (fun c9 => absurd c9 (by decide)) (fun _ => ?_)
      refine lv_iconst (v := (-1)) hx hb dX11_bestHeard_22 (by decide) ?_
      refine lv_goto (tgt := 27) hx hb dX11_bestHeard_23 (by decide) ?_
      exact hs_iret () C0 hp (by omega) rfl ⟨Nat.le_of_ble_eq_true rfl, Nat.le_of_ble_eq_true rfl⟩ dX11_bestHeard_27 trivial
    · refine lv_if_ne (tgt := 26) hx hb dX11_bestHeard_19 (by decide) (fun _ => ?_) (fun c9 => absurd c9 (by decide))
      refine lv_iload_n hx hb dX11_bestHeard_26 rfl (lv_at hl 0 rfl) ?_
      exact hs_iret () C0 hp (by omega) rfl ⟨Nat.le_of_ble_eq_true rfl, Nat.le_of_ble_eq_true rfl⟩ dX11_bestHeard_27 trivial
set_option maxHeartbeats 4000000 in
set_option maxRecDepth 100000 in
/-- COVERED: 300 new cells at least -/
theorem hs_covered (l : Launch) (D : va_G) (a : Nat → Nat) (z : Nat) (cO : ClassId) (pp : Nat → Int32) (th : Int32) : hs_Ki l D z (hs_t cO) yX11_covered (hr_wm yX11_covered cX11_covered 4 (some .int)) { frames := 5, cells := 300, slots := 1200, locals := 115 } [.ref (a 1)] (hs_Y a z cO pp th) 300 300 1200 (fun (_ : Int32) (_ : Unit) => True) (fun _ => hs_Y a z cO pp th) := by
  refine hs_Ki_of (by decide) (Nat.le_of_ble_eq_true rfl) ?_
  intro p e s m args below meth c ls A hAe C0 hKT hp hl
  obtain ⟨hx, hb, hr9, hml, hown, hts, hK, hlk, hA, hN, hnm9⟩ := id C0
  have hl : lv_has ls 4 [(0, .ref (a 1))] := hl
  have hL : ∀ (n i : Nat) (v : Int32) (H : Heap) (locs : List Loc) (ls : Array Slot), i ≤ 100 → 100 - i < n → s.heap.size + 3 * i ≤ H.size → hr_H D A s.heap (hs_Y a z cO pp th) H locs → lv_has ls 4 [(2, .int (nI i)), (0, .ref (a 1)), (1, .int v)] → W p l e ({ frames := 5, cells := 300, slots := 1200, locals := 115 } : Room) s m args below meth c H locs (3 * i) (12 * i) (MQ below (va_Qi (fun (_ : Int32) (_ : Unit) => True) (fun u t => hs_B D A ((fun _ => hs_Y a z cO pp th) u) (s.heap.size + 300) t) A) args s 300 1200 A) (F0 m 4 ls []) := by
    intro n
    induction n with
    | zero => intro i v H locs ls h1 h2; omega
    | succ n ih =>
    intro i v H locs ls hi hn hz hp hl
    refine lv_iload_n hx hb dX11_covered_4 rfl (lv_at hl 0 rfl) ?_
    refine lv_bipush (v := 100) hx hb dX11_covered_5 (by decide) ?_
    refine lv_icmp_ge (tgt := 50) hx hb dX11_covered_7 (by decide) (fun c9 => ?_) (fun c9 => ?_)
    · have hi9 : 100 ≤ i := (nI_leI (a := 100) (b := i) (by decide) (by omega)).mp c9
      refine lv_iload_n hx hb dX11_covered_50 rfl (lv_at hl 2 rfl) ?_
      exact hs_iret () C0 hp (by omega) rfl ⟨by omega, by omega⟩ dX11_covered_51 trivial
    · have hlt : i < 100 := Nat.not_le.mp (fun q => c9 ((nI_leI (a := 100) (b := i) (by decide) (by omega)).mpr q))
      refine lv_aload_n hx hb dX11_covered_10 rfl (lv_at hl 1 rfl) ?_
      refine lv_iload_n hx hb dX11_covered_11 rfl (lv_at hl 0 rfl) ?_
      refine lv_iconst (v := (-1)) hx hb dX11_covered_12 (by decide) ?_
      refine lv_iconst (v := 0) hx hb dX11_covered_13 (by decide) ?_
      refine hs_cVi C0 hKT hp (q0 := 1) (ci := 1) (Cn := RX11) (T := TX11) (N := 5) (rest := []) (n := 3) [] (hs_best l D a z cO pp th (nI i)) rfl rfl rfl (hr_gV hw_111 hw_112 hw_113 hw_103 hw_104) ⟨rfl, rfl⟩ (by decide +kernel) ⟨Nat.le_of_ble_eq_true rfl, Nat.le_of_ble_eq_true rfl⟩ ⟨by show 3 * i + 2 ≤ 300; omega, by show 12 * i + 8 ≤ 1200; omega⟩ hl.1 rfl rfl (Nat.le_of_ble_eq_true rfl) dX11_covered_14 (fun q_14 u_14 H locs hv_14 hz9 hp => ?_)
      have hz := hs_zz hz hz9
      have hp : hr_H D A s.heap (hs_Y a z cO pp th) H _ := hp
      rcases hv_14 with rfl | rfl
      · refine lv_istore_n (lv' := [(3, .int 0), (2, .int (nI i)), (0, .ref (a 1)), (1, .int v)]) hx hb dX11_covered_17 rfl hl (by decide) rfl (fun ls hl => ?_)
        refine lv_iload_n hx hb dX11_covered_18 rfl (lv_at hl 3 rfl) ?_
        refine lv_iload_n hx hb dX11_covered_19 rfl (lv_at hl 0 rfl) ?_
        refine lv_iconst (v := (-1)) hx hb dX11_covered_20 (by decide) ?_
        refine lv_icmp_eq (tgt := 38) hx hb dX11_covered_21 (by decide) (fun c9 => absurd c9 (by decide)) (fun _ => ?_)
        refine lv_aload_n hx hb dX11_covered_24 rfl (lv_at hl 2 rfl) ?_
        refine lv_iload_n hx hb dX11_covered_25 rfl (lv_at hl 0 rfl) ?_
        refine lv_iload_n hx hb dX11_covered_26 rfl (lv_at hl 1 rfl) ?_
        refine hs_cVi C0 hKT hp (q0 := 1) (ci := 1) (Cn := RX11) (T := TX11) (N := 5) (rest := [.int v]) (n := 2) [] (hs_quality_0 l D a z cO pp th (nI i)) rfl rfl rfl (hr_gV hw_100 hw_101 hw_102 hw_103 hw_40) ⟨rfl, rfl⟩ (by decide +kernel) ⟨Nat.le_of_ble_eq_true rfl, Nat.le_of_ble_eq_true rfl⟩ ⟨by show 3 * i + 2 + 1 ≤ 300; omega, by show 12 * i + 8 + 4 ≤ 1200; omega⟩ hl.1 rfl rfl (Nat.le_of_ble_eq_true rfl) dX11_covered_27 (fun q_27 u_27 H locs hv_27 hz9 hp => ?_)
        have hz := hs_zz hz hz9
        have hp : hr_H D A s.heap (hs_Y a z cO pp th) H _ := hp
        refine lv_iconst (v := 5) hx hb dX11_covered_30 (by decide) ?_
        refine W.widen (k := 3 * (i + 1)) (n := 12 * (i + 1)) (by show 3 * i + 2 + 1 ≤ _; omega) (by show 12 * i + 8 + 4 ≤ _; omega) ?_
        have hE : ∀ (w9 : Int32) (ls : Array Slot), lv_has ls 4 [(3, .int 0), (2, .int (nI i)), (0, .ref (a 1)), (1, .int v)] → W p l e ({ frames := 5, cells := 300, slots := 1200, locals := 115 } : Room) s m args below meth c H locs (3 * (i + 1)) (12 * (i + 1)) (MQ below (va_Qi (fun (_ : Int32) (_ : Unit) => True) (fun u t => hs_B D A ((fun _ => hs_Y a z cO pp th) u) (s.heap.size + 300) t) A) args s 300 1200 A) (F0 m 39 ls [.int w9, .int v]) := by
          intro w9 ls hl
          refine hs_cNi C0 hKT hp (rest := [.int v]) (n := 1) [] (hs_X12_one l D z _ (hs_Y a z cO pp th) w9) rfl hw_120 hw_119 hw_118 hN.1.2.1 ⟨rfl, rfl⟩ (by decide +kernel) ⟨Nat.le_of_ble_eq_true rfl, Nat.le_of_ble_eq_true rfl⟩ ⟨by show 3 * (i + 1) + 0 ≤ 300; omega, by show 12 * (i + 1) + 0 ≤ 1200; omega⟩ hl.1 rfl rfl (Nat.le_of_ble_eq_true rfl) dX11_covered_39 (fun q_39 u_39 H locs hv_39 hz9 hp => ?_)
          have hz := hs_zz hz hz9
          subst hv_39
          have hp : hr_H D A s.heap (hs_Y a z cO pp th) H _ := hp
          refine lv_iadd hx hb dX11_covered_42 ?_
          refine lv_istore_n (lv' := [(1, .int (v + (hr_one w9))), (3, .int 0), (2, .int (nI i)), (0, .ref (a 1))]) hx hb dX11_covered_43 rfl hl (by decide) rfl (fun ls hl => ?_)
          refine lv_iinc (v := (nI (i + 1))) (lv' := [(2, .int (nI (i + 1))), (1, .int (v + (hr_one w9))), (3, .int 0), (0, .ref (a 1))]) hx hb dX11_covered_44 hl (k := 2) rfl (nI_1 i) (by decide) rfl (fun ls hl => ?_)
          refine lv_goto (tgt := 4) hx hb dX11_covered_47 (by decide) ?_
          exact ih (i + 1) _ _ _ _ (by omega) (by omega) (by omega) hp (lv_sub hl [0, 3, 1] rfl)
        refine lv_icmp_lt (tgt := 38) hx hb dX11_covered_31 (by decide) (fun c1 => ?_) (fun c1 => ?_)
        · refine lv_iconst (v := 0) hx hb dX11_covered_38 (by decide) ?_
          exact hE _ _ hl
        · refine lv_iconst (v := 1) hx hb dX11_covered_34 (by decide) ?_
          refine lv_goto (tgt := 39) hx hb dX11_covered_35 (by decide) ?_
          exact hE _ _ hl
      · refine lv_istore_n (lv' := [(3, .int 1), (2, .int (nI i)), (0, .ref (a 1)), (1, .int v)]) hx hb dX11_covered_17 rfl hl (by decide) rfl (fun ls hl => ?_)
        refine lv_iload_n hx hb dX11_covered_18 rfl (lv_at hl 3 rfl) ?_
        refine lv_iload_n hx hb dX11_covered_19 rfl (lv_at hl 0 rfl) ?_
        refine lv_iconst (v := (-1)) hx hb dX11_covered_20 (by decide) ?_
        refine lv_icmp_eq (tgt := 38) hx hb dX11_covered_21 (by decide) (fun c9 => absurd c9 (by decide)) (fun _ => ?_)
        refine lv_aload_n hx hb dX11_covered_24 rfl (lv_at hl 2 rfl) ?_
        refine lv_iload_n hx hb dX11_covered_25 rfl (lv_at hl 0 rfl) ?_
        refine lv_iload_n hx hb dX11_covered_26 rfl (lv_at hl 1 rfl) ?_
        refine hs_cVi C0 hKT hp (q0 := 1) (ci := 1) (Cn := RX11) (T := TX11) (N := 5) (rest := [.int v]) (n := 2) [] (hs_quality_1 l D a z cO pp th (nI i)) rfl rfl rfl (hr_gV hw_100 hw_101 hw_102 hw_103 hw_40) ⟨rfl, rfl⟩ (by decide +kernel) ⟨Nat.le_of_ble_eq_true rfl, Nat.le_of_ble_eq_true rfl⟩ ⟨by show 3 * i + 2 + 1 ≤ 300; omega, by show 12 * i + 8 + 4 ≤ 1200; omega⟩ hl.1 rfl rfl (Nat.le_of_ble_eq_true rfl) dX11_covered_27 (fun q_27 u_27 H locs hv_27 hz9 hp => ?_)
        have hz := hs_zz hz hz9
        have hp : hr_H D A s.heap (hs_Y a z cO pp th) H _ := hp
        refine lv_iconst (v := 5) hx hb dX11_covered_30 (by decide) ?_
        refine W.widen (k := 3 * (i + 1)) (n := 12 * (i + 1)) (by show 3 * i + 2 + 1 ≤ _; omega) (by show 12 * i + 8 + 4 ≤ _; omega) ?_
        have hE : ∀ (w9 : Int32) (ls : Array Slot), lv_has ls 4 [(3, .int 1), (2, .int (nI i)), (0, .ref (a 1)), (1, .int v)] → W p l e ({ frames := 5, cells := 300, slots := 1200, locals := 115 } : Room) s m args below meth c H locs (3 * (i + 1)) (12 * (i + 1)) (MQ below (va_Qi (fun (_ : Int32) (_ : Unit) => True) (fun u t => hs_B D A ((fun _ => hs_Y a z cO pp th) u) (s.heap.size + 300) t) A) args s 300 1200 A) (F0 m 39 ls [.int w9, .int v]) := by
          intro w9 ls hl
          refine hs_cNi C0 hKT hp (rest := [.int v]) (n := 1) [] (hs_X12_one l D z _ (hs_Y a z cO pp th) w9) rfl hw_120 hw_119 hw_118 hN.1.2.1 ⟨rfl, rfl⟩ (by decide +kernel) ⟨Nat.le_of_ble_eq_true rfl, Nat.le_of_ble_eq_true rfl⟩ ⟨by show 3 * (i + 1) + 0 ≤ 300; omega, by show 12 * (i + 1) + 0 ≤ 1200; omega⟩ hl.1 rfl rfl (Nat.le_of_ble_eq_true rfl) dX11_covered_39 (fun q_39 u_39 H locs hv_39 hz9 hp => ?_)
          have hz := hs_zz hz hz9
          subst hv_39
          have hp : hr_H D A s.heap (hs_Y a z cO pp th) H _ := hp
          refine lv_iadd hx hb dX11_covered_42 ?_
          refine lv_istore_n (lv' := [(1, .int (v + (hr_one w9))), (3, .int 1), (2, .int (nI i)), (0, .ref (a 1))]) hx hb dX11_covered_43 rfl hl (by decide) rfl (fun ls hl => ?_)
          refine lv_iinc (v := (nI (i + 1))) (lv' := [(2, .int (nI (i + 1))), (1, .int (v + (hr_one w9))), (3, .int 1), (0, .ref (a 1))]) hx hb dX11_covered_44 hl (k := 2) rfl (nI_1 i) (by decide) rfl (fun ls hl => ?_)
          refine lv_goto (tgt := 4) hx hb dX11_covered_47 (by decide) ?_
          exact ih (i + 1) _ _ _ _ (by omega) (by omega) (by omega) hp (lv_sub hl [0, 3, 1] rfl)
        refine lv_icmp_lt (tgt := 38) hx hb dX11_covered_31 (by decide) (fun c1 => ?_) (fun c1 => ?_)
        · refine lv_iconst (v := 0) hx hb dX11_covered_38 (by decide) ?_
          exact hE _ _ hl
        · refine lv_iconst (v := 1) hx hb dX11_covered_34 (by decide) ?_
          refine lv_goto (tgt := 39) hx hb dX11_covered_35 (by decide) ?_
          exact hE _ _ hl
  refine lv_iconst (v := 0) hx hb dX11_covered_0 (by decide) ?_
  refine lv_istore_n (lv' := [(1, .int 0), (0, .ref (a 1))]) hx hb dX11_covered_1 rfl hl (by decide) rfl (fun ls hl => ?_)
  refine lv_iconst (v := 0) hx hb dX11_covered_2 (by decide) ?_
  refine lv_istore_n (lv' := [(2, .int 0), (1, .int 0), (0, .ref (a 1))]) hx hb dX11_covered_3 rfl hl (by decide) rfl (fun ls hl => ?_)
  exact hL 101 0 0 _ _ _ (by decide) (by decide) hp.2.2.1 hp (lv_sub hl [0, 2, 1] rfl)
set_option maxHeartbeats 4000000 in
set_option maxRecDepth 100000 in
/-- COUNT: 303 new cells -/
theorem hs_count (l : Launch) (D : va_G) (a : Nat → Nat) (z : Nat) (cO : ClassId) (pp : Nat → Int32) (th : Int32) (p0 : Int32) (hin : vp_in p0 15) : hs_Ki l D z (hs_t cO) yX12_count (hr_wm yX12_count cX12_count 11 (some .int)) { frames := 6, cells := 303, slots := 1223, locals := 138 } [.ref (a 0), .int p0] (hs_Y a z cO pp th) 303 303 1223 (fun (_ : Int32) (_ : Unit) => True) (fun _ => hs_Y a z cO pp th) := by
  refine hs_Ki_of (by decide) (Nat.le_of_ble_eq_true rfl) ?_
  intro p e s m args below meth c ls A hAe C0 hKT hp hl
  obtain ⟨hx, hb, hr9, hml, hown, hts, hK, hlk, hA, hN, hnm9⟩ := id C0
  have hl : lv_has ls 11 [(0, .ref (a 0)), (1, .int p0)] := hl
  refine lv_iconst (v := 0) hx hb dX12_count_0 (by decide) ?_
  refine lv_istore_n (lv' := [(2, .int 0), (0, .ref (a 0)), (1, .int p0)]) hx hb dX12_count_1 rfl hl (by decide) rfl (fun ls hl => ?_)
  refine lv_iconst (v := 0) hx hb dX12_count_2 (by decide) ?_
  refine lv_istore_n (lv' := [(3, .int 0), (2, .int 0), (0, .ref (a 0)), (1, .int p0)]) hx hb dX12_count_3 rfl hl (by decide) rfl (fun ls hl => ?_)
  refine lv_iconst (v := 0) hx hb dX12_count_4 (by decide) ?_
  refine lv_istore (lv' := [(4, .int 0), (3, .int 0), (2, .int 0), (0, .ref (a 0)), (1, .int p0)]) hx hb dX12_count_5 hl (by decide) rfl (fun ls hl => ?_)
  refine lv_iconst (v := 0) hx hb dX12_count_7 (by decide) ?_
  refine lv_istore (lv' := [(5, .int 0), (4, .int 0), (3, .int 0), (2, .int 0), (0, .ref (a 0)), (1, .int p0)]) hx hb dX12_count_8 hl (by decide) rfl (fun ls hl => ?_)
  refine lv_iconst (v := 0) hx hb dX12_count_10 (by decide) ?_
  refine lv_istore (lv' := [(6, .int 0), (5, .int 0), (4, .int 0), (3, .int 0), (2, .int 0), (0, .ref (a 0)), (1, .int p0)]) hx hb dX12_count_11 hl (by decide) rfl (fun ls hl => ?_)
  refine lv_aload_n hx hb dX12_count_13 rfl (lv_at hl 5 rfl) ?_
  refine hr_get C0 hp (q0 := 0) (C := RX12) (T := TX12) (N := 4) (ci := 2) rfl rfl hr_uX12 1 (by decide) hw_126 (fun _ h9 => h9) rfl dX12_count_14 ?_
  refine hr_get C0 hp (q0 := 1) (C := RX11) (T := TX11) (N := 5) (ci := 1) rfl rfl hr_uX11 2 (by decide) hw_199 (fun _ h9 => h9) rfl dX12_count_17 ?_
  have hz := hp.2.2.1
  refine hs_cVr C0 hKT hp (q0 := 4) (ci := 0) (Cn := RJx4a65c) (T := TJx4a65c) (N := 3) (rest := []) (n := 0) [] (hs_iter_4 l D a z cO pp th) rfl rfl rfl (hr_gV hw_191 hw_66 hw_67 hw_20 hw_68) ⟨rfl, rfl⟩ (by decide +kernel) ⟨Nat.le_of_ble_eq_true rfl, Nat.le_of_ble_eq_true rfl⟩ ⟨Nat.le_of_ble_eq_true rfl, Nat.le_of_ble_eq_true rfl⟩ hl.1 rfl rfl (Nat.le_of_ble_eq_true rfl) dX12_count_20 (fun u_20 q_20 H locs hv_20 hk_20 hz9 hp => ?_)
  have hz := hs_zz hz hz9
  have hp : hr_H D A s.heap (hs_Y a z cO pp th ++ [(q_20, .inr (5, [.int 0, .int (-1), .int 0, .ref (a 4)]))]) H _ := hp
  refine W.widen (k := 1) (n := 4) (by decide) (by decide) ?_
  refine lv_astore (lv' := [(7, .ref q_20), (6, .int 0), (5, .int 0), (4, .int 0), (3, .int 0), (2, .int 0), (0, .ref (a 0)), (1, .int p0)]) hx hb dX12_count_23 hl (by decide) rfl (fun ls hl => ?_)
  refine lv_aload hx hb dX12_count_25 (lv_at hl 0 rfl) ?_
  refine hs_cFi C0 hKT hp (q0 := 9) (ci := 5) (Cn := RJx35411) (T := TJx35411) (N := 4) (rest := []) (n := 0) [] (hs_has_4_0 l D a z cO pp th q_20) rfl rfl rfl (hr_gF hw_192 hw_82 hw_83 hw_71 hw_84) hN.1.2.2.2.1 ⟨rfl, rfl⟩ (by decide +kernel) ⟨Nat.le_of_ble_eq_true rfl, Nat.le_of_ble_eq_true rfl⟩ ⟨Nat.le_of_ble_eq_true rfl, Nat.le_of_ble_eq_true rfl⟩ hl.1 rfl rfl (Nat.le_of_ble_eq_true rfl) dX12_count_27 (fun q_27 u_27 H locs hv_27 hz9 hp => ?_)
  have hz := hs_zz hz hz9
  subst hv_27
  have hp : hr_H D A s.heap (hs_Y a z cO pp th ++ [(q_20, .inr (5, [.int 0, .int (-1), .int 0, .ref (a 4)]))]) H _ := hp
  refine lv_if_eq (tgt := 119) hx hb dX12_count_32 (by decide) (fun _ => ?_) (fun c9 => absurd c9 (by decide))
  have hp := hr_drop (Y := (hs_Y a z cO pp th)) (X := [(q_20, .inr (5, [.int 0, .int (-1), .int 0, .ref (a 4)]))]) hp
  refine lv_iconst (v := 0) hx hb dX12_count_119 (by decide) ?_
  refine lv_istore (lv' := [(7, .int 0), (6, .int 0), (5, .int 0), (4, .int 0), (3, .int 0), (2, .int 0), (0, .ref (a 0)), (1, .int p0)]) hx hb dX12_count_120 hl (by decide) rfl (fun ls hl => ?_)
  refine lv_iconst (v := 0) hx hb dX12_count_122 (by decide) ?_
  refine lv_istore (lv' := [(8, .int 0), (7, .int 0), (6, .int 0), (5, .int 0), (4, .int 0), (3, .int 0), (2, .int 0), (0, .ref (a 0)), (1, .int p0)]) hx hb dX12_count_123 hl (by decide) rfl (fun ls hl => ?_)
  refine lv_aload_n hx hb dX12_count_125 rfl (lv_at hl 7 rfl) ?_
  refine hr_get C0 hp (q0 := 0) (C := RX12) (T := TX12) (N := 4) (ci := 2) rfl rfl hr_uX12 1 (by decide) hw_126 (fun _ h9 => h9) rfl dX12_count_126 ?_
  refine hr_get C0 hp (q0 := 1) (C := RX11) (T := TX11) (N := 5) (ci := 1) rfl rfl hr_uX11 1 (by decide) hw_177 (fun _ h9 => h9) rfl dX12_count_129 ?_
  refine hs_cVr C0 hKT hp (q0 := 3) (ci := 0) (Cn := RJx4a65c) (T := TJx4a65c) (N := 3) (rest := []) (n := 0) [] (hs_iter_3 l D a z cO pp th) rfl rfl rfl (hr_gV hw_191 hw_66 hw_67 hw_20 hw_68) ⟨rfl, rfl⟩ (by decide +kernel) ⟨Nat.le_of_ble_eq_true rfl, Nat.le_of_ble_eq_true rfl⟩ ⟨Nat.le_of_ble_eq_true rfl, Nat.le_of_ble_eq_true rfl⟩ hl.1 rfl rfl (Nat.le_of_ble_eq_true rfl) dX12_count_132 (fun u_132 q_132 H locs hv_132 hk_132 hz9 hp => ?_)
  have hz := hs_zz hz hz9
  have hp : hr_H D A s.heap (hs_Y a z cO pp th ++ [(q_132, .inr (5, [.int 0, .int (-1), .int 0, .ref (a 3)]))]) H _ := hp
  refine W.widen (k := 2) (n := 8) (by decide) (by decide) ?_
  refine lv_astore (lv' := [(9, .ref q_132), (8, .int 0), (7, .int 0), (6, .int 0), (5, .int 0), (4, .int 0), (3, .int 0), (2, .int 0), (0, .ref (a 0)), (1, .int p0)]) hx hb dX12_count_135 hl (by decide) rfl (fun ls hl => ?_)
  refine lv_aload hx hb dX12_count_137 (lv_at hl 0 rfl) ?_
  refine hs_cFi C0 hKT hp (q0 := 9) (ci := 5) (Cn := RJx35411) (T := TJx35411) (N := 4) (rest := []) (n := 0) [] (hs_has_3_0 l D a z cO pp th q_132) rfl rfl rfl (hr_gF hw_192 hw_82 hw_83 hw_71 hw_84) hN.1.2.2.2.1 ⟨rfl, rfl⟩ (by decide +kernel) ⟨Nat.le_of_ble_eq_true rfl, Nat.le_of_ble_eq_true rfl⟩ ⟨Nat.le_of_ble_eq_true rfl, Nat.le_of_ble_eq_true rfl⟩ hl.1 rfl rfl (Nat.le_of_ble_eq_true rfl) dX12_count_139 (fun q_139 u_139 H locs hv_139 hz9 hp => ?_)
  have hz := hs_zz hz hz9
  subst hv_139
  have hp : hr_H D A s.heap (hs_Y a z cO pp th ++ [(q_132, .inr (5, [.int 0, .int (-1), .int 0, .ref (a 3)]))]) H _ := hp
  refine lv_if_eq (tgt := 197) hx hb dX12_count_144 (by decide) (fun _ => ?_) (fun c9 => absurd c9 (by decide))
  have hp := hr_drop (Y := (hs_Y a z cO pp th)) (X := [(q_132, .inr (5, [.int 0, .int (-1), .int 0, .ref (a 3)]))]) hp
  refine lv_bipush (v := 15) hx hb dX12_count_197 (by decide) ?_
  refine hs_newI C0 hp hw_180 (n := 15) (by decide) (by decide) (by decide) (Nat.le_of_ble_eq_true rfl) (Nat.le_of_ble_eq_true rfl) dX12_count_199 (fun q_199 cA_199 H hK_199 hz9 hp => ?_)
  have hz := hs_zz hz hz9
  have hp : hr_H D A s.heap (hs_Y a z cO pp th ++ [(q_199, .inl (cA_199, 15, .inl (fun _ => 0)))]) H _ := hp
  refine W.widen (k := 3) (n := 23) (by decide) (by decide) ?_
  refine lv_dup hx hb dX12_count_201 rfl ?_
  refine lv_iconst (v := 0) hx hb dX12_count_202 (by decide) ?_
  refine lv_aload_n hx hb dX12_count_203 rfl (lv_at hl 8 rfl) ?_
  refine hr_get C0 hp (q0 := 0) (C := RX12) (T := TX12) (N := 4) (ci := 2) rfl rfl hr_uX12 1 (by decide) hw_126 (fun _ h9 => h9) rfl dX12_count_204 ?_
  refine hr_get C0 hp (q0 := 1) (C := RX11) (T := TX11) (N := 5) (ci := 1) rfl rfl hr_uX11 4 (by decide) hw_206 (fun _ h9 => h9) rfl dX12_count_207 ?_
  refine hs_iast C0 hK_199 hp (q0 := 9) (n := 15) (f := (fun _ => 0)) (k' := 0) (Y' := (hs_Y a z cO pp th ++ [(q_199, .inl (cA_199, 15, .inl (upd (fun _ => 0) 0 0)))])) rfl (by unfold vp_in; decide) (by decide) rfl dX12_count_210 (fun H locs hz9 hp => ?_)
  have hz := hs_zz hz hz9
  refine lv_dup hx hb dX12_count_211 rfl ?_
  refine lv_iconst (v := 1) hx hb dX12_count_212 (by decide) ?_
  refine lv_aload_n hx hb dX12_count_213 rfl (lv_at hl 8 rfl) ?_
  refine hr_get C0 hp (q0 := 0) (C := RX12) (T := TX12) (N := 4) (ci := 2) rfl rfl hr_uX12 1 (by decide) hw_126 (fun _ h9 => h9) rfl dX12_count_214 ?_
  refine hr_get C0 hp (q0 := 1) (C := RX11) (T := TX11) (N := 5) (ci := 1) rfl rfl hr_uX11 0 (by decide) hw_136 (fun _ h9 => h9) rfl dX12_count_217 ?_
  refine hs_cVi C0 hKT hp (q0 := 2) (ci := 0) (Cn := RJx4a65c) (T := TJx4a65c) (N := 3) (rest := [.int 1, .ref q_199, .ref q_199]) (n := 0) [(q_199, .inl (cA_199, 15, .inl (upd (fun _ => 0) 0 0)))] (hs_size_2 l D a z cO pp th) rfl rfl rfl (hr_gV hw_144 hw_107 hw_108 hw_20 hw_109) ⟨rfl, rfl⟩ (by decide +kernel) ⟨Nat.le_of_ble_eq_true rfl, Nat.le_of_ble_eq_true rfl⟩ ⟨Nat.le_of_ble_eq_true rfl, Nat.le_of_ble_eq_true rfl⟩ hl.1 rfl rfl (Nat.le_of_ble_eq_true rfl) dX12_count_220 (fun q_220 u_220 H locs hv_220 hz9 hp => ?_)
  have hz := hs_zz hz hz9
  subst hv_220
  have hp : hr_H D A s.heap (hs_Y a z cO pp th ++ [(q_199, .inl (cA_199, 15, .inl (upd (fun _ => 0) 0 0)))]) H _ := hp
  refine hs_iast C0 hK_199 hp (q0 := 9) (n := 15) (f := (upd (fun _ => 0) 0 0)) (k' := 1) (Y' := (hs_Y a z cO pp th ++ [(q_199, .inl (cA_199, 15, .inl (upd (upd (fun _ => 0) 0 0) 1 2)))])) rfl (by unfold vp_in; decide) (by decide) rfl dX12_count_223 (fun H locs hz9 hp => ?_)
  have hz := hs_zz hz hz9
  refine lv_dup hx hb dX12_count_224 rfl ?_
  refine lv_iconst (v := 2) hx hb dX12_count_225 (by decide) ?_
  refine lv_aload_n hx hb dX12_count_226 rfl (lv_at hl 8 rfl) ?_
  refine hr_get C0 hp (q0 := 0) (C := RX12) (T := TX12) (N := 4) (ci := 2) rfl rfl hr_uX12 1 (by decide) hw_126 (fun _ h9 => h9) rfl dX12_count_227 ?_
  refine hr_get C0 hp (q0 := 1) (C := RX11) (T := TX11) (N := 5) (ci := 1) rfl rfl hr_uX11 1 (by decide) hw_177 (fun _ h9 => h9) rfl dX12_count_230 ?_
  refine hs_cVi C0 hKT hp (q0 := 3) (ci := 0) (Cn := RJx4a65c) (T := TJx4a65c) (N := 3) (rest := [.int 2, .ref q_199, .ref q_199]) (n := 0) [(q_199, .inl (cA_199, 15, .inl (upd (upd (fun _ => 0) 0 0) 1 2)))] (hs_size_3 l D a z cO pp th) rfl rfl rfl (hr_gV hw_144 hw_107 hw_108 hw_20 hw_109) ⟨rfl, rfl⟩ (by decide +kernel) ⟨Nat.le_of_ble_eq_true rfl, Nat.le_of_ble_eq_true rfl⟩ ⟨Nat.le_of_ble_eq_true rfl, Nat.le_of_ble_eq_true rfl⟩ hl.1 rfl rfl (Nat.le_of_ble_eq_true rfl) dX12_count_233 (fun q_233 u_233 H locs hv_233 hz9 hp => ?_)
  have hz := hs_zz hz hz9
  subst hv_233
  have hp : hr_H D A s.heap (hs_Y a z cO pp th ++ [(q_199, .inl (cA_199, 15, .inl (upd (upd (fun _ => 0) 0 0) 1 2)))]) H _ := hp
  refine hs_iast C0 hK_199 hp (q0 := 9) (n := 15) (f := (upd (upd (fun _ => 0) 0 0) 1 2)) (k' := 2) (Y' := (hs_Y a z cO pp th ++ [(q_199, .inl (cA_199, 15, .inl (upd (upd (upd (fun _ => 0) 0 0) 1 2) 2 0)))])) rfl (by unfold vp_in; decide) (by decide) rfl dX12_count_236 (fun H locs hz9 hp => ?_)
  have hz := hs_zz hz hz9
  refine lv_dup hx hb dX12_count_237 rfl ?_
  refine lv_iconst (v := 3) hx hb dX12_count_238 (by decide) ?_
  refine lv_aload_n hx hb dX12_count_239 rfl (lv_at hl 8 rfl) ?_
  refine hr_get C0 hp (q0 := 0) (C := RX12) (T := TX12) (N := 4) (ci := 2) rfl rfl hr_uX12 1 (by decide) hw_126 (fun _ h9 => h9) rfl dX12_count_240 ?_
  refine hr_get C0 hp (q0 := 1) (C := RX11) (T := TX11) (N := 5) (ci := 1) rfl rfl hr_uX11 2 (by decide) hw_199 (fun _ h9 => h9) rfl dX12_count_243 ?_
  refine hs_cVi C0 hKT hp (q0 := 4) (ci := 0) (Cn := RJx4a65c) (T := TJx4a65c) (N := 3) (rest := [.int 3, .ref q_199, .ref q_199]) (n := 0) [(q_199, .inl (cA_199, 15, .inl (upd (upd (upd (fun _ => 0) 0 0) 1 2) 2 0)))] (hs_size_4 l D a z cO pp th) rfl rfl rfl (hr_gV hw_144 hw_107 hw_108 hw_20 hw_109) ⟨rfl, rfl⟩ (by decide +kernel) ⟨Nat.le_of_ble_eq_true rfl, Nat.le_of_ble_eq_true rfl⟩ ⟨Nat.le_of_ble_eq_true rfl, Nat.le_of_ble_eq_true rfl⟩ hl.1 rfl rfl (Nat.le_of_ble_eq_true rfl) dX12_count_246 (fun q_246 u_246 H locs hv_246 hz9 hp => ?_)
  have hz := hs_zz hz hz9
  subst hv_246
  have hp : hr_H D A s.heap (hs_Y a z cO pp th ++ [(q_199, .inl (cA_199, 15, .inl (upd (upd (upd (fun _ => 0) 0 0) 1 2) 2 0)))]) H _ := hp
  refine hs_iast C0 hK_199 hp (q0 := 9) (n := 15) (f := (upd (upd (upd (fun _ => 0) 0 0) 1 2) 2 0)) (k' := 3) (Y' := (hs_Y a z cO pp th ++ [(q_199, .inl (cA_199, 15, .inl (upd (upd (upd (upd (fun _ => 0) 0 0) 1 2) 2 0) 3 0)))])) rfl (by unfold vp_in; decide) (by decide) rfl dX12_count_249 (fun H locs hz9 hp => ?_)
  have hz := hs_zz hz hz9
  refine lv_dup hx hb dX12_count_250 rfl ?_
  refine lv_iconst (v := 4) hx hb dX12_count_251 (by decide) ?_
  refine lv_iload_n hx hb dX12_count_252 rfl (lv_at hl 7 rfl) ?_
  refine hs_iast C0 hK_199 hp (q0 := 9) (n := 15) (f := (upd (upd (upd (upd (fun _ => 0) 0 0) 1 2) 2 0) 3 0)) (k' := 4) (Y' := (hs_Y a z cO pp th ++ [(q_199, .inl (cA_199, 15, .inl (upd (upd (upd (upd (upd (fun _ => 0) 0 0) 1 2) 2 0) 3 0) 4 0)))])) rfl (by unfold vp_in; decide) (by decide) rfl dX12_count_253 (fun H locs hz9 hp => ?_)
  have hz := hs_zz hz hz9
  refine lv_dup hx hb dX12_count_254 rfl ?_
  refine lv_iconst (v := 5) hx hb dX12_count_255 (by decide) ?_
  refine lv_iload_n hx hb dX12_count_256 rfl (lv_at hl 6 rfl) ?_
  refine hs_iast C0 hK_199 hp (q0 := 9) (n := 15) (f := (upd (upd (upd (upd (upd (fun _ => 0) 0 0) 1 2) 2 0) 3 0) 4 0)) (k' := 5) (Y' := (hs_Y a z cO pp th ++ [(q_199, .inl (cA_199, 15, .inl (upd (upd (upd (upd (upd (upd (fun _ => 0) 0 0) 1 2) 2 0) 3 0) 4 0) 5 0)))])) rfl (by unfold vp_in; decide) (by decide) rfl dX12_count_257 (fun H locs hz9 hp => ?_)
  have hz := hs_zz hz hz9
  refine lv_dup hx hb dX12_count_258 rfl ?_
  refine lv_bipush (v := 6) hx hb dX12_count_259 (by decide) ?_
  refine lv_iload hx hb dX12_count_261 (lv_at hl 5 rfl) ?_
  refine hs_iast C0 hK_199 hp (q0 := 9) (n := 15) (f := (upd (upd (upd (upd (upd (upd (fun _ => 0) 0 0) 1 2) 2 0) 3 0) 4 0) 5 0)) (k' := 6) (Y' := (hs_Y a z cO pp th ++ [(q_199, .inl (cA_199, 15, .inl (upd (upd (upd (upd (upd (upd (upd (fun _ => 0) 0 0) 1 2) 2 0) 3 0) 4 0) 5 0) 6 0)))])) rfl (by unfold vp_in; decide) (by decide) rfl dX12_count_263 (fun H locs hz9 hp => ?_)
  have hz := hs_zz hz hz9
  refine lv_dup hx hb dX12_count_264 rfl ?_
  refine lv_bipush (v := 7) hx hb dX12_count_265 (by decide) ?_
  refine lv_iload hx hb dX12_count_267 (lv_at hl 4 rfl) ?_
  refine hs_iast C0 hK_199 hp (q0 := 9) (n := 15) (f := (upd (upd (upd (upd (upd (upd (upd (fun _ => 0) 0 0) 1 2) 2 0) 3 0) 4 0) 5 0) 6 0)) (k' := 7) (Y' := (hs_Y a z cO pp th ++ [(q_199, .inl (cA_199, 15, .inl (upd (upd (upd (upd (upd (upd (upd (upd (fun _ => 0) 0 0) 1 2) 2 0) 3 0) 4 0) 5 0) 6 0) 7 0)))])) rfl (by unfold vp_in; decide) (by decide) rfl dX12_count_269 (fun H locs hz9 hp => ?_)
  have hz := hs_zz hz hz9
  refine lv_dup hx hb dX12_count_270 rfl ?_
  refine lv_bipush (v := 8) hx hb dX12_count_271 (by decide) ?_
  refine lv_aload_n hx hb dX12_count_273 rfl (lv_at hl 8 rfl) ?_
  refine hr_get C0 hp (q0 := 0) (C := RX12) (T := TX12) (N := 4) (ci := 2) rfl rfl hr_uX12 2 (by decide) hw_207 (fun _ h9 => h9) rfl dX12_count_274 ?_
  refine hs_iast C0 hK_199 hp (q0 := 9) (n := 15) (f := (upd (upd (upd (upd (upd (upd (upd (upd (fun _ => 0) 0 0) 1 2) 2 0) 3 0) 4 0) 5 0) 6 0) 7 0)) (k' := 8) (Y' := (hs_Y a z cO pp th ++ [(q_199, .inl (cA_199, 15, .inl (upd (upd (upd (upd (upd (upd (upd (upd (upd (fun _ => 0) 0 0) 1 2) 2 0) 3 0) 4 0) 5 0) 6 0) 7 0) 8 0)))])) rfl (by unfold vp_in; decide) (by decide) rfl dX12_count_277 (fun H locs hz9 hp => ?_)
  have hz := hs_zz hz hz9
  refine lv_dup hx hb dX12_count_278 rfl ?_
  refine lv_bipush (v := 9) hx hb dX12_count_279 (by decide) ?_
  refine lv_aload_n hx hb dX12_count_281 rfl (lv_at hl 8 rfl) ?_
  refine hr_get C0 hp (q0 := 0) (C := RX12) (T := TX12) (N := 4) (ci := 2) rfl rfl hr_uX12 3 (by decide) hw_208 (fun _ h9 => h9) rfl dX12_count_282 ?_
  refine hs_iast C0 hK_199 hp (q0 := 9) (n := 15) (f := (upd (upd (upd (upd (upd (upd (upd (upd (upd (fun _ => 0) 0 0) 1 2) 2 0) 3 0) 4 0) 5 0) 6 0) 7 0) 8 0)) (k' := 9) (Y' := (hs_Y a z cO pp th ++ [(q_199, .inl (cA_199, 15, .inl (upd (upd (upd (upd (upd (upd (upd (upd (upd (upd (fun _ => 0) 0 0) 1 2) 2 0) 3 0) 4 0) 5 0) 6 0) 7 0) 8 0) 9 0)))])) rfl (by unfold vp_in; decide) (by decide) rfl dX12_count_285 (fun H locs hz9 hp => ?_)
  have hz := hs_zz hz hz9
  refine lv_dup hx hb dX12_count_286 rfl ?_
  refine lv_bipush (v := 10) hx hb dX12_count_287 (by decide) ?_
  refine lv_aload_n hx hb dX12_count_289 rfl (lv_at hl 8 rfl) ?_
  refine hr_get C0 hp (q0 := 0) (C := RX12) (T := TX12) (N := 4) (ci := 2) rfl rfl hr_uX12 1 (by decide) hw_126 (fun _ h9 => h9) rfl dX12_count_290 ?_
  refine hr_get C0 hp (q0 := 1) (C := RX11) (T := TX11) (N := 5) (ci := 1) rfl rfl hr_uX11 3 (by decide) hw_209 (fun _ h9 => h9) rfl dX12_count_293 ?_
  refine hs_cVi C0 hKT hp (q0 := 5) (ci := 0) (Cn := RJx4a65c) (T := TJx4a65c) (N := 3) (rest := [.int 10, .ref q_199, .ref q_199]) (n := 0) [(q_199, .inl (cA_199, 15, .inl (upd (upd (upd (upd (upd (upd (upd (upd (upd (upd (fun _ => 0) 0 0) 1 2) 2 0) 3 0) 4 0) 5 0) 6 0) 7 0) 8 0) 9 0)))] (hs_size_5 l D a z cO pp th) rfl rfl rfl (hr_gV hw_144 hw_107 hw_108 hw_20 hw_109) ⟨rfl, rfl⟩ (by decide +kernel) ⟨Nat.le_of_ble_eq_true rfl, Nat.le_of_ble_eq_true rfl⟩ ⟨Nat.le_of_ble_eq_true rfl, Nat.le_of_ble_eq_true rfl⟩ hl.1 rfl rfl (Nat.le_of_ble_eq_true rfl) dX12_count_296 (fun q_296 u_296 H locs hv_296 hz9 hp => ?_)
  have hz := hs_zz hz hz9
  subst hv_296
  have hp : hr_H D A s.heap (hs_Y a z cO pp th ++ [(q_199, .inl (cA_199, 15, .inl (upd (upd (upd (upd (upd (upd (upd (upd (upd (upd (fun _ => 0) 0 0) 1 2) 2 0) 3 0) 4 0) 5 0) 6 0) 7 0) 8 0) 9 0)))]) H _ := hp
  refine hs_iast C0 hK_199 hp (q0 := 9) (n := 15) (f := (upd (upd (upd (upd (upd (upd (upd (upd (upd (upd (fun _ => 0) 0 0) 1 2) 2 0) 3 0) 4 0) 5 0) 6 0) 7 0) 8 0) 9 0)) (k' := 10) (Y' := (hs_Y a z cO pp th ++ [(q_199, .inl (cA_199, 15, .inl (upd (upd (upd (upd (upd (upd (upd (upd (upd (upd (upd (fun _ => 0) 0 0) 1 2) 2 0) 3 0) 4 0) 5 0) 6 0) 7 0) 8 0) 9 0) 10 0)))])) rfl (by unfold vp_in; decide) (by decide) rfl dX12_count_299 (fun H locs hz9 hp => ?_)
  have hz := hs_zz hz hz9
  refine lv_dup hx hb dX12_count_300 rfl ?_
  refine lv_bipush (v := 11) hx hb dX12_count_301 (by decide) ?_
  refine lv_iload hx hb dX12_count_303 (lv_at hl 2 rfl) ?_
  refine hs_iast C0 hK_199 hp (q0 := 9) (n := 15) (f := (upd (upd (upd (upd (upd (upd (upd (upd (upd (upd (upd (fun _ => 0) 0 0) 1 2) 2 0) 3 0) 4 0) 5 0) 6 0) 7 0) 8 0) 9 0) 10 0)) (k' := 11) (Y' := (hs_Y a z cO pp th ++ [(q_199, .inl (cA_199, 15, .inl (upd (upd (upd (upd (upd (upd (upd (upd (upd (upd (upd (upd (fun _ => 0) 0 0) 1 2) 2 0) 3 0) 4 0) 5 0) 6 0) 7 0) 8 0) 9 0) 10 0) 11 0)))])) rfl (by unfold vp_in; decide) (by decide) rfl dX12_count_305 (fun H locs hz9 hp => ?_)
  have hz := hs_zz hz hz9
  refine lv_dup hx hb dX12_count_306 rfl ?_
  refine lv_bipush (v := 12) hx hb dX12_count_307 (by decide) ?_
  refine lv_iload hx hb dX12_count_309 (lv_at hl 3 rfl) ?_
  refine hs_iast C0 hK_199 hp (q0 := 9) (n := 15) (f := (upd (upd (upd (upd (upd (upd (upd (upd (upd (upd (upd (upd (fun _ => 0) 0 0) 1 2) 2 0) 3 0) 4 0) 5 0) 6 0) 7 0) 8 0) 9 0) 10 0) 11 0)) (k' := 12) (Y' := (hs_Y a z cO pp th ++ [(q_199, .inl (cA_199, 15, .inl (upd (upd (upd (upd (upd (upd (upd (upd (upd (upd (upd (upd (upd (fun _ => 0) 0 0) 1 2) 2 0) 3 0) 4 0) 5 0) 6 0) 7 0) 8 0) 9 0) 10 0) 11 0) 12 0)))])) rfl (by unfold vp_in; decide) (by decide) rfl dX12_count_311 (fun H locs hz9 hp => ?_)
  have hz := hs_zz hz hz9
  refine lv_dup hx hb dX12_count_312 rfl ?_
  refine lv_bipush (v := 13) hx hb dX12_count_313 (by decide) ?_
  refine lv_iload hx hb dX12_count_315 (lv_at hl 1 rfl) ?_
  refine hs_iast C0 hK_199 hp (q0 := 9) (n := 15) (f := (upd (upd (upd (upd (upd (upd (upd (upd (upd (upd (upd (upd (upd (fun _ => 0) 0 0) 1 2) 2 0) 3 0) 4 0) 5 0) 6 0) 7 0) 8 0) 9 0) 10 0) 11 0) 12 0)) (k' := 13) (Y' := (hs_Y a z cO pp th ++ [(q_199, .inl (cA_199, 15, .inl (upd (upd (upd (upd (upd (upd (upd (upd (upd (upd (upd (upd (upd (upd (fun _ => 0) 0 0) 1 2) 2 0) 3 0) 4 0) 5 0) 6 0) 7 0) 8 0) 9 0) 10 0) 11 0) 12 0) 13 0)))])) rfl (by unfold vp_in; decide) (by decide) rfl dX12_count_317 (fun H locs hz9 hp => ?_)
  have hz := hs_zz hz hz9
  refine lv_dup hx hb dX12_count_318 rfl ?_
  refine lv_bipush (v := 14) hx hb dX12_count_319 (by decide) ?_
  refine lv_aload_n hx hb dX12_count_321 rfl (lv_at hl 8 rfl) ?_
  refine hr_get C0 hp (q0 := 0) (C := RX12) (T := TX12) (N := 4) (ci := 2) rfl rfl hr_uX12 1 (by decide) hw_126 (fun _ h9 => h9) rfl dX12_count_322 ?_
  refine hs_cVi C0 hKT hp (q0 := 1) (ci := 1) (Cn := RX11) (T := TX11) (N := 5) (rest := [.int 14, .ref q_199, .ref q_199]) (n := 0) [(q_199, .inl (cA_199, 15, .inl (upd (upd (upd (upd (upd (upd (upd (upd (upd (upd (upd (upd (upd (upd (fun _ => 0) 0 0) 1 2) 2 0) 3 0) 4 0) 5 0) 6 0) 7 0) 8 0) 9 0) 10 0) 11 0) 12 0) 13 0)))] (hs_covered l D a z cO pp th) rfl rfl rfl (hr_gV hw_214 hw_215 hw_216 hw_103 hw_117) ⟨rfl, rfl⟩ (by decide +kernel) ⟨Nat.le_of_ble_eq_true rfl, Nat.le_of_ble_eq_true rfl⟩ ⟨Nat.le_of_ble_eq_true rfl, Nat.le_of_ble_eq_true rfl⟩ hl.1 rfl rfl (Nat.le_of_ble_eq_true rfl) dX12_count_325 (fun q_325 u_325 H locs hv_325 hz9 hp => ?_)
  have hz := hs_zz hz hz9
  have hp : hr_H D A s.heap (hs_Y a z cO pp th ++ [(q_199, .inl (cA_199, 15, .inl (upd (upd (upd (upd (upd (upd (upd (upd (upd (upd (upd (upd (upd (upd (fun _ => 0) 0 0) 1 2) 2 0) 3 0) 4 0) 5 0) 6 0) 7 0) 8 0) 9 0) 10 0) 11 0) 12 0) 13 0)))]) H _ := hp
  refine W.widen (k := 303) (n := 1223) (by decide) (by decide) ?_
  refine hs_iast C0 hK_199 hp (q0 := 9) (n := 15) (f := (upd (upd (upd (upd (upd (upd (upd (upd (upd (upd (upd (upd (upd (upd (fun _ => 0) 0 0) 1 2) 2 0) 3 0) 4 0) 5 0) 6 0) 7 0) 8 0) 9 0) 10 0) 11 0) 12 0) 13 0)) (k' := 14) (Y' := (hs_Y a z cO pp th ++ [(q_199, .inl (cA_199, 15, .inl (upd (upd (upd (upd (upd (upd (upd (upd (upd (upd (upd (upd (upd (upd (upd (fun _ => 0) 0 0) 1 2) 2 0) 3 0) 4 0) 5 0) 6 0) 7 0) 8 0) 9 0) 10 0) 11 0) 12 0) 13 0) 14 q_325)))])) rfl (by unfold vp_in; decide) (by decide) rfl dX12_count_328 (fun H locs hz9 hp => ?_)
  have hz := hs_zz hz hz9
  refine lv_astore (lv' := [(9, .ref q_199), (8, .int 0), (7, .int 0), (6, .int 0), (5, .int 0), (4, .int 0), (3, .int 0), (2, .int 0), (0, .ref (a 0)), (1, .int p0)]) hx hb dX12_count_329 hl (by decide) rfl (fun ls hl => ?_)
  refine lv_aload hx hb dX12_count_331 (lv_at hl 0 rfl) ?_
  refine lv_iload_n hx hb dX12_count_333 rfl (lv_at hl 9 rfl) ?_
  refine hr_ial C0 hK_199 hp (q0 := 9) (n := 15) (f := (upd (upd (upd (upd (upd (upd (upd (upd (upd (upd (upd (upd (upd (upd (upd (fun _ => 0) 0 0) 1 2) 2 0) 3 0) 4 0) 5 0) 6 0) 7 0) 8 0) 9 0) 10 0) 11 0) 12 0) 13 0) 14 q_325)) (k' := p0.toNatClampNeg) rfl hin rfl dX12_count_334 ?_
  have hp := hr_drop (Y := (hs_Y a z cO pp th)) (X := [(q_199, .inl (cA_199, 15, .inl (upd (upd (upd (upd (upd (upd (upd (upd (upd (upd (upd (upd (upd (upd (upd (fun _ => 0) 0 0) 1 2) 2 0) 3 0) 4 0) 5 0) 6 0) 7 0) 8 0) 9 0) 10 0) 11 0) 12 0) 13 0) 14 q_325)))]) hp
  exact hs_iret () C0 hp (by omega) rfl ⟨Nat.le_of_ble_eq_true rfl, Nat.le_of_ble_eq_true rfl⟩ dX12_count_335 trivial
set_option maxHeartbeats 4000000 in
set_option maxRecDepth 100000 in
/-- what is told of mast 0 -/
theorem hs_told_0 (l : Launch) (D : va_G) (a : Nat → Nat) (z : Nat) (cO : ClassId) (pp : Nat → Int32) (th : Int32) (p0 : Int32) (hin : vp_in p0 10) : hs_Ki l D z (hs_t cO) yX12_toldOfMast (hr_wm yX12_toldOfMast cX12_toldOfMast 7 (some .int)) { frames := 3, cells := 2, slots := 14, locals := 64 } [.ref (a 0), .int 0, .int p0] (hs_Y a z cO pp th) 2 2 14 (fun (_ : Int32) (_ : Unit) => True) (fun _ => hs_Y a z cO pp th) := by
  refine hs_Ki_of (by decide) (Nat.le_of_ble_eq_true rfl) ?_
  intro p e s m args below meth c ls A hAe C0 hKT hp hl
  obtain ⟨hx, hb, hr9, hml, hown, hts, hK, hlk, hA, hN, hnm9⟩ := id C0
  have hl : lv_has ls 7 [(0, .ref (a 0)), (1, .int 0), (2, .int p0)] := hl
  refine lv_aload_n hx hb dX12_toldOfMast_0 rfl (lv_at hl 0 rfl) ?_
  refine hr_get C0 hp (q0 := 0) (C := RX12) (T := TX12) (N := 4) (ci := 2) rfl rfl hr_uX12 1 (by decide) hw_126 (fun _ h9 => h9) rfl dX12_toldOfMast_1 ?_
  refine hr_get C0 hp (q0 := 1) (C := RX11) (T := TX11) (N := 5) (ci := 1) rfl rfl hr_uX11 0 (by decide) hw_136 (fun _ h9 => h9) rfl dX12_toldOfMast_4 ?_
  refine lv_iload_n hx hb dX12_toldOfMast_7 rfl (lv_at hl 1 rfl) ?_
  refine hs_cVr C0 hKT hp (q0 := 2) (ci := 0) (Cn := RJx4a65c) (T := TJx4a65c) (N := 3) (rest := []) (n := 1) [] (hs_get_0 l D a z cO pp th) rfl rfl rfl (hr_gV hw_190 hw_49 hw_50 hw_20 hw_51) ⟨rfl, rfl⟩ (by decide +kernel) ⟨Nat.le_of_ble_eq_true rfl, Nat.le_of_ble_eq_true rfl⟩ ⟨Nat.le_of_ble_eq_true rfl, Nat.le_of_ble_eq_true rfl⟩ hl.1 rfl rfl (Nat.le_of_ble_eq_true rfl) dX12_toldOfMast_8 (fun u_8 q_8 H locs hv_8 hk_8 hz9 hp => ?_)
  subst hv_8
  have hp : hr_H D A s.heap (hs_Y a z cO pp th) H _ := hp
  refine hs_cast C0 hp (q0 := 7) (ci := 3) (Cn := RX9) (T := TX9) (N := 9) rfl rfl hw_176 dX12_toldOfMast_11 ?_
  refine lv_astore_n (lv' := [(3, .ref (a 7)), (0, .ref (a 0)), (1, .int 0), (2, .int p0)]) hx hb dX12_toldOfMast_14 rfl hl (by decide) rfl (fun ls hl => ?_)
  refine lv_iconst (v := 0) hx hb dX12_toldOfMast_15 (by decide) ?_
  refine lv_istore (lv' := [(4, .int 0), (3, .ref (a 7)), (0, .ref (a 0)), (1, .int 0), (2, .int p0)]) hx hb dX12_toldOfMast_16 hl (by decide) rfl (fun ls hl => ?_)
  refine lv_aload_n hx hb dX12_toldOfMast_18 rfl (lv_at hl 2 rfl) ?_
  refine hr_get C0 hp (q0 := 0) (C := RX12) (T := TX12) (N := 4) (ci := 2) rfl rfl hr_uX12 1 (by decide) hw_126 (fun _ h9 => h9) rfl dX12_toldOfMast_19 ?_
  refine hr_get C0 hp (q0 := 1) (C := RX11) (T := TX11) (N := 5) (ci := 1) rfl rfl hr_uX11 1 (by decide) hw_177 (fun _ h9 => h9) rfl dX12_toldOfMast_22 ?_
  have hz := hp.2.2.1
  refine hs_cVr C0 hKT hp (q0 := 3) (ci := 0) (Cn := RJx4a65c) (T := TJx4a65c) (N := 3) (rest := []) (n := 0) [] (hs_iter_3 l D a z cO pp th) rfl rfl rfl (hr_gV hw_191 hw_66 hw_67 hw_20 hw_68) ⟨rfl, rfl⟩ (by decide +kernel) ⟨Nat.le_of_ble_eq_true rfl, Nat.le_of_ble_eq_true rfl⟩ ⟨Nat.le_of_ble_eq_true rfl, Nat.le_of_ble_eq_true rfl⟩ hl.1 rfl rfl (Nat.le_of_ble_eq_true rfl) dX12_toldOfMast_25 (fun u_25 q_25 H locs hv_25 hk_25 hz9 hp => ?_)
  have hz := hs_zz hz hz9
  have hp : hr_H D A s.heap (hs_Y a z cO pp th ++ [(q_25, .inr (5, [.int 0, .int (-1), .int 0, .ref (a 3)]))]) H _ := hp
  refine W.widen (k := 1) (n := 4) (by decide) (by decide) ?_
  refine lv_astore (lv' := [(5, .ref q_25), (4, .int 0), (3, .ref (a 7)), (0, .ref (a 0)), (1, .int 0), (2, .int p0)]) hx hb dX12_toldOfMast_28 hl (by decide) rfl (fun ls hl => ?_)
  refine lv_aload hx hb dX12_toldOfMast_30 (lv_at hl 0 rfl) ?_
  refine hs_cFi C0 hKT hp (q0 := 9) (ci := 5) (Cn := RJx35411) (T := TJx35411) (N := 4) (rest := []) (n := 0) [] (hs_has_3_0 l D a z cO pp th q_25) rfl rfl rfl (hr_gF hw_192 hw_82 hw_83 hw_71 hw_84) hN.1.2.2.2.1 ⟨rfl, rfl⟩ (by decide +kernel) ⟨Nat.le_of_ble_eq_true rfl, Nat.le_of_ble_eq_true rfl⟩ ⟨Nat.le_of_ble_eq_true rfl, Nat.le_of_ble_eq_true rfl⟩ hl.1 rfl rfl (Nat.le_of_ble_eq_true rfl) dX12_toldOfMast_32 (fun q_32 u_32 H locs hv_32 hz9 hp => ?_)
  have hz := hs_zz hz hz9
  subst hv_32
  have hp : hr_H D A s.heap (hs_Y a z cO pp th ++ [(q_25, .inr (5, [.int 0, .int (-1), .int 0, .ref (a 3)]))]) H _ := hp
  refine lv_if_eq (tgt := 85) hx hb dX12_toldOfMast_37 (by decide) (fun _ => ?_) (fun c9 => absurd c9 (by decide))
  have hp := hr_drop (Y := (hs_Y a z cO pp th)) (X := [(q_25, .inr (5, [.int 0, .int (-1), .int 0, .ref (a 3)]))]) hp
  refine lv_bipush (v := 10) hx hb dX12_toldOfMast_85 (by decide) ?_
  refine hs_newI C0 hp hw_180 (n := 10) (by decide) (by decide) (by decide) (Nat.le_of_ble_eq_true rfl) (Nat.le_of_ble_eq_true rfl) dX12_toldOfMast_87 (fun q_87 cA_87 H hK_87 hz9 hp => ?_)
  have hz := hs_zz hz hz9
  have hp : hr_H D A s.heap (hs_Y a z cO pp th ++ [(q_87, .inl (cA_87, 10, .inl (fun _ => 0)))]) H _ := hp
  refine W.widen (k := 2) (n := 14) (by decide) (by decide) ?_
  refine lv_dup hx hb dX12_toldOfMast_89 rfl ?_
  refine lv_iconst (v := 0) hx hb dX12_toldOfMast_90 (by decide) ?_
  refine lv_aload_n hx hb dX12_toldOfMast_91 rfl (lv_at hl 2 rfl) ?_
  refine hr_get C0 hp (q0 := 7) (C := RX9) (T := TX9) (N := 9) (ci := 3) rfl rfl hr_uX9 0 (by decide) hw_181 (fun _ h9 => h9) rfl dX12_toldOfMast_92 ?_
  refine hs_iast C0 hK_87 hp (q0 := 9) (n := 10) (f := (fun _ => 0)) (k' := 0) (Y' := (hs_Y a z cO pp th ++ [(q_87, .inl (cA_87, 10, .inl (upd (fun _ => 0) 0 (pp 0))))])) rfl (by unfold vp_in; decide) (by decide) rfl dX12_toldOfMast_95 (fun H locs hz9 hp => ?_)
  have hz := hs_zz hz hz9
  refine lv_dup hx hb dX12_toldOfMast_96 rfl ?_
  refine lv_iconst (v := 1) hx hb dX12_toldOfMast_97 (by decide) ?_
  refine lv_aload_n hx hb dX12_toldOfMast_98 rfl (lv_at hl 2 rfl) ?_
  refine hr_get C0 hp (q0 := 7) (C := RX9) (T := TX9) (N := 9) (ci := 3) rfl rfl hr_uX9 1 (by decide) hw_182 (fun _ h9 => h9) rfl dX12_toldOfMast_99 ?_
  refine hs_iast C0 hK_87 hp (q0 := 9) (n := 10) (f := (upd (fun _ => 0) 0 (pp 0))) (k' := 1) (Y' := (hs_Y a z cO pp th ++ [(q_87, .inl (cA_87, 10, .inl (upd (upd (fun _ => 0) 0 (pp 0)) 1 (pp 1))))])) rfl (by unfold vp_in; decide) (by decide) rfl dX12_toldOfMast_102 (fun H locs hz9 hp => ?_)
  have hz := hs_zz hz hz9
  refine lv_dup hx hb dX12_toldOfMast_103 rfl ?_
  refine lv_iconst (v := 2) hx hb dX12_toldOfMast_104 (by decide) ?_
  refine lv_aload_n hx hb dX12_toldOfMast_105 rfl (lv_at hl 2 rfl) ?_
  refine hr_get C0 hp (q0 := 7) (C := RX9) (T := TX9) (N := 9) (ci := 3) rfl rfl hr_uX9 2 (by decide) hw_183 (fun _ h9 => h9) rfl dX12_toldOfMast_106 ?_
  refine hs_iast C0 hK_87 hp (q0 := 9) (n := 10) (f := (upd (upd (fun _ => 0) 0 (pp 0)) 1 (pp 1))) (k' := 2) (Y' := (hs_Y a z cO pp th ++ [(q_87, .inl (cA_87, 10, .inl (upd (upd (upd (fun _ => 0) 0 (pp 0)) 1 (pp 1)) 2 0)))])) rfl (by unfold vp_in; decide) (by decide) rfl dX12_toldOfMast_109 (fun H locs hz9 hp => ?_)
  have hz := hs_zz hz hz9
  refine lv_dup hx hb dX12_toldOfMast_110 rfl ?_
  refine lv_iconst (v := 3) hx hb dX12_toldOfMast_111 (by decide) ?_
  refine lv_aload_n hx hb dX12_toldOfMast_112 rfl (lv_at hl 2 rfl) ?_
  refine hr_get C0 hp (q0 := 7) (C := RX9) (T := TX9) (N := 9) (ci := 3) rfl rfl hr_uX9 3 (by decide) hw_184 (fun _ h9 => h9) rfl dX12_toldOfMast_113 ?_
  refine hs_iast C0 hK_87 hp (q0 := 9) (n := 10) (f := (upd (upd (upd (fun _ => 0) 0 (pp 0)) 1 (pp 1)) 2 0)) (k' := 3) (Y' := (hs_Y a z cO pp th ++ [(q_87, .inl (cA_87, 10, .inl (upd (upd (upd (upd (fun _ => 0) 0 (pp 0)) 1 (pp 1)) 2 0) 3 (pp 2))))])) rfl (by unfold vp_in; decide) (by decide) rfl dX12_toldOfMast_116 (fun H locs hz9 hp => ?_)
  have hz := hs_zz hz hz9
  refine lv_dup hx hb dX12_toldOfMast_117 rfl ?_
  refine lv_iconst (v := 4) hx hb dX12_toldOfMast_118 (by decide) ?_
  refine lv_aload_n hx hb dX12_toldOfMast_119 rfl (lv_at hl 2 rfl) ?_
  refine hr_get C0 hp (q0 := 7) (C := RX9) (T := TX9) (N := 9) (ci := 3) rfl rfl hr_uX9 4 (by decide) hw_185 (fun _ h9 => h9) rfl dX12_toldOfMast_120 ?_
  refine hs_iast C0 hK_87 hp (q0 := 9) (n := 10) (f := (upd (upd (upd (upd (fun _ => 0) 0 (pp 0)) 1 (pp 1)) 2 0) 3 (pp 2))) (k' := 4) (Y' := (hs_Y a z cO pp th ++ [(q_87, .inl (cA_87, 10, .inl (upd (upd (upd (upd (upd (fun _ => 0) 0 (pp 0)) 1 (pp 1)) 2 0) 3 (pp 2)) 4 (pp 3))))])) rfl (by unfold vp_in; decide) (by decide) rfl dX12_toldOfMast_123 (fun H locs hz9 hp => ?_)
  have hz := hs_zz hz hz9
  refine lv_dup hx hb dX12_toldOfMast_124 rfl ?_
  refine lv_iconst (v := 5) hx hb dX12_toldOfMast_125 (by decide) ?_
  refine lv_aload_n hx hb dX12_toldOfMast_126 rfl (lv_at hl 2 rfl) ?_
  refine hr_get C0 hp (q0 := 7) (C := RX9) (T := TX9) (N := 9) (ci := 3) rfl rfl hr_uX9 5 (by decide) hw_186 (fun _ h9 => h9) rfl dX12_toldOfMast_127 ?_
  refine hs_iast C0 hK_87 hp (q0 := 9) (n := 10) (f := (upd (upd (upd (upd (upd (fun _ => 0) 0 (pp 0)) 1 (pp 1)) 2 0) 3 (pp 2)) 4 (pp 3))) (k' := 5) (Y' := (hs_Y a z cO pp th ++ [(q_87, .inl (cA_87, 10, .inl (upd (upd (upd (upd (upd (upd (fun _ => 0) 0 (pp 0)) 1 (pp 1)) 2 0) 3 (pp 2)) 4 (pp 3)) 5 (pp 4))))])) rfl (by unfold vp_in; decide) (by decide) rfl dX12_toldOfMast_130 (fun H locs hz9 hp => ?_)
  have hz := hs_zz hz hz9
  refine lv_dup hx hb dX12_toldOfMast_131 rfl ?_
  refine lv_bipush (v := 6) hx hb dX12_toldOfMast_132 (by decide) ?_
  refine lv_aload_n hx hb dX12_toldOfMast_134 rfl (lv_at hl 2 rfl) ?_
  refine hr_get C0 hp (q0 := 7) (C := RX9) (T := TX9) (N := 9) (ci := 3) rfl rfl hr_uX9 6 (by decide) hw_187 (fun _ h9 => h9) rfl dX12_toldOfMast_135 ?_
  refine hs_cSi C0 hKT hp (rest := [.int 6, .ref q_87, .ref q_87]) (n := 1) [] (hs_X12_one l D z _ (hs_Y a z cO pp th ++ [(q_87, .inl (cA_87, 10, .inl (upd (upd (upd (upd (upd (upd (fun _ => 0) 0 (pp 0)) 1 (pp 1)) 2 0) 3 (pp 2)) 4 (pp 3)) 5 (pp 4))))]) 1) rfl (hr_gS hw_197 hw_118 hw_119 hw_120) ⟨rfl, rfl⟩ (by decide +kernel) ⟨Nat.le_of_ble_eq_true rfl, Nat.le_of_ble_eq_true rfl⟩ ⟨Nat.le_of_ble_eq_true rfl, Nat.le_of_ble_eq_true rfl⟩ hl.1 rfl rfl (Nat.le_of_ble_eq_true rfl) dX12_toldOfMast_138 (fun q_138 u_138 H locs hv_138 hz9 hp => ?_)
  have hz := hs_zz hz hz9
  subst hv_138
  have hp : hr_H D A s.heap (hs_Y a z cO pp th ++ [(q_87, .inl (cA_87, 10, .inl (upd (upd (upd (upd (upd (upd (fun _ => 0) 0 (pp 0)) 1 (pp 1)) 2 0) 3 (pp 2)) 4 (pp 3)) 5 (pp 4))))]) H _ := hp
  refine hs_iast C0 hK_87 hp (q0 := 9) (n := 10) (f := (upd (upd (upd (upd (upd (upd (fun _ => 0) 0 (pp 0)) 1 (pp 1)) 2 0) 3 (pp 2)) 4 (pp 3)) 5 (pp 4))) (k' := 6) (Y' := (hs_Y a z cO pp th ++ [(q_87, .inl (cA_87, 10, .inl (upd (upd (upd (upd (upd (upd (upd (fun _ => 0) 0 (pp 0)) 1 (pp 1)) 2 0) 3 (pp 2)) 4 (pp 3)) 5 (pp 4)) 6 (hr_one 1))))])) rfl (by unfold vp_in; decide) (by decide) rfl dX12_toldOfMast_141 (fun H locs hz9 hp => ?_)
  have hz := hs_zz hz hz9
  refine lv_dup hx hb dX12_toldOfMast_142 rfl ?_
  refine lv_bipush (v := 7) hx hb dX12_toldOfMast_143 (by decide) ?_
  refine lv_aload_n hx hb dX12_toldOfMast_145 rfl (lv_at hl 2 rfl) ?_
  refine hr_get C0 hp (q0 := 7) (C := RX9) (T := TX9) (N := 9) (ci := 3) rfl rfl hr_uX9 7 (by decide) hw_188 (fun _ h9 => h9) rfl dX12_toldOfMast_146 ?_
  refine hs_iast C0 hK_87 hp (q0 := 9) (n := 10) (f := (upd (upd (upd (upd (upd (upd (upd (fun _ => 0) 0 (pp 0)) 1 (pp 1)) 2 0) 3 (pp 2)) 4 (pp 3)) 5 (pp 4)) 6 (hr_one 1))) (k' := 7) (Y' := (hs_Y a z cO pp th ++ [(q_87, .inl (cA_87, 10, .inl (upd (upd (upd (upd (upd (upd (upd (upd (fun _ => 0) 0 (pp 0)) 1 (pp 1)) 2 0) 3 (pp 2)) 4 (pp 3)) 5 (pp 4)) 6 (hr_one 1)) 7 0)))])) rfl (by unfold vp_in; decide) (by decide) rfl dX12_toldOfMast_149 (fun H locs hz9 hp => ?_)
  have hz := hs_zz hz hz9
  refine lv_dup hx hb dX12_toldOfMast_150 rfl ?_
  refine lv_bipush (v := 8) hx hb dX12_toldOfMast_151 (by decide) ?_
  refine lv_iload hx hb dX12_toldOfMast_153 (lv_at hl 1 rfl) ?_
  refine hs_iast C0 hK_87 hp (q0 := 9) (n := 10) (f := (upd (upd (upd (upd (upd (upd (upd (upd (fun _ => 0) 0 (pp 0)) 1 (pp 1)) 2 0) 3 (pp 2)) 4 (pp 3)) 5 (pp 4)) 6 (hr_one 1)) 7 0)) (k' := 8) (Y' := (hs_Y a z cO pp th ++ [(q_87, .inl (cA_87, 10, .inl (upd (upd (upd (upd (upd (upd (upd (upd (upd (fun _ => 0) 0 (pp 0)) 1 (pp 1)) 2 0) 3 (pp 2)) 4 (pp 3)) 5 (pp 4)) 6 (hr_one 1)) 7 0) 8 0)))])) rfl (by unfold vp_in; decide) (by decide) rfl dX12_toldOfMast_155 (fun H locs hz9 hp => ?_)
  have hz := hs_zz hz hz9
  refine lv_dup hx hb dX12_toldOfMast_156 rfl ?_
  refine lv_bipush (v := 9) hx hb dX12_toldOfMast_157 (by decide) ?_
  refine lv_aload_n hx hb dX12_toldOfMast_159 rfl (lv_at hl 2 rfl) ?_
  refine hr_get C0 hp (q0 := 7) (C := RX9) (T := TX9) (N := 9) (ci := 3) rfl rfl hr_uX9 8 (by decide) hw_189 (fun _ h9 => h9) rfl dX12_toldOfMast_160 ?_
  refine hs_iast C0 hK_87 hp (q0 := 9) (n := 10) (f := (upd (upd (upd (upd (upd (upd (upd (upd (upd (fun _ => 0) 0 (pp 0)) 1 (pp 1)) 2 0) 3 (pp 2)) 4 (pp 3)) 5 (pp 4)) 6 (hr_one 1)) 7 0) 8 0)) (k' := 9) (Y' := (hs_Y a z cO pp th ++ [(q_87, .inl (cA_87, 10, .inl (upd (upd (upd (upd (upd (upd (upd (upd (upd (upd (fun _ => 0) 0 (pp 0)) 1 (pp 1)) 2 0) 3 (pp 2)) 4 (pp 3)) 5 (pp 4)) 6 (hr_one 1)) 7 0) 8 0) 9 0)))])) rfl (by unfold vp_in; decide) (by decide) rfl dX12_toldOfMast_163 (fun H locs hz9 hp => ?_)
  have hz := hs_zz hz hz9
  refine lv_astore (lv' := [(5, .ref q_87), (4, .int 0), (3, .ref (a 7)), (0, .ref (a 0)), (1, .int 0), (2, .int p0)]) hx hb dX12_toldOfMast_164 hl (by decide) rfl (fun ls hl => ?_)
  refine lv_aload hx hb dX12_toldOfMast_166 (lv_at hl 0 rfl) ?_
  refine lv_iload_n hx hb dX12_toldOfMast_168 rfl (lv_at hl 5 rfl) ?_
  refine hr_ial C0 hK_87 hp (q0 := 9) (n := 10) (f := (upd (upd (upd (upd (upd (upd (upd (upd (upd (upd (fun _ => 0) 0 (pp 0)) 1 (pp 1)) 2 0) 3 (pp 2)) 4 (pp 3)) 5 (pp 4)) 6 (hr_one 1)) 7 0) 8 0) 9 0)) (k' := p0.toNatClampNeg) rfl hin rfl dX12_toldOfMast_169 ?_
  have hp := hr_drop (Y := (hs_Y a z cO pp th)) (X := [(q_87, .inl (cA_87, 10, .inl (upd (upd (upd (upd (upd (upd (upd (upd (upd (upd (fun _ => 0) 0 (pp 0)) 1 (pp 1)) 2 0) 3 (pp 2)) 4 (pp 3)) 5 (pp 4)) 6 (hr_one 1)) 7 0) 8 0) 9 0)))]) hp
  exact hs_iret () C0 hp (by omega) rfl ⟨Nat.le_of_ble_eq_true rfl, Nat.le_of_ble_eq_true rfl⟩ dX12_toldOfMast_170 trivial
set_option maxHeartbeats 4000000 in
set_option maxRecDepth 100000 in
/-- what is told of mast 1 -/
theorem hs_told_1 (l : Launch) (D : va_G) (a : Nat → Nat) (z : Nat) (cO : ClassId) (pp : Nat → Int32) (th : Int32) (p0 : Int32) (hin : vp_in p0 10) : hs_Ki l D z (hs_t cO) yX12_toldOfMast (hr_wm yX12_toldOfMast cX12_toldOfMast 7 (some .int)) { frames := 3, cells := 2, slots := 14, locals := 64 } [.ref (a 0), .int 1, .int p0] (hs_Y a z cO pp th) 2 2 14 (fun (_ : Int32) (_ : Unit) => True) (fun _ => hs_Y a z cO pp th) := by
  refine hs_Ki_of (by decide) (Nat.le_of_ble_eq_true rfl) ?_
  intro p e s m args below meth c ls A hAe C0 hKT hp hl
  obtain ⟨hx, hb, hr9, hml, hown, hts, hK, hlk, hA, hN, hnm9⟩ := id C0
  have hl : lv_has ls 7 [(0, .ref (a 0)), (1, .int 1), (2, .int p0)] := hl
  refine lv_aload_n hx hb dX12_toldOfMast_0 rfl (lv_at hl 0 rfl) ?_
  refine hr_get C0 hp (q0 := 0) (C := RX12) (T := TX12) (N := 4) (ci := 2) rfl rfl hr_uX12 1 (by decide) hw_126 (fun _ h9 => h9) rfl dX12_toldOfMast_1 ?_
  refine hr_get C0 hp (q0 := 1) (C := RX11) (T := TX11) (N := 5) (ci := 1) rfl rfl hr_uX11 0 (by decide) hw_136 (fun _ h9 => h9) rfl dX12_toldOfMast_4 ?_
  refine lv_iload_n hx hb dX12_toldOfMast_7 rfl (lv_at hl 1 rfl) ?_
  refine hs_cVr C0 hKT hp (q0 := 2) (ci := 0) (Cn := RJx4a65c) (T := TJx4a65c) (N := 3) (rest := []) (n := 1) [] (hs_get_1 l D a z cO pp th) rfl rfl rfl (hr_gV hw_190 hw_49 hw_50 hw_20 hw_51) ⟨rfl, rfl⟩ (by decide +kernel) ⟨Nat.le_of_ble_eq_true rfl, Nat.le_of_ble_eq_true rfl⟩ ⟨Nat.le_of_ble_eq_true rfl, Nat.le_of_ble_eq_true rfl⟩ hl.1 rfl rfl (Nat.le_of_ble_eq_true rfl) dX12_toldOfMast_8 (fun u_8 q_8 H locs hv_8 hk_8 hz9 hp => ?_)
  subst hv_8
  have hp : hr_H D A s.heap (hs_Y a z cO pp th) H _ := hp
  refine hs_cast C0 hp (q0 := 8) (ci := 3) (Cn := RX9) (T := TX9) (N := 9) rfl rfl hw_176 dX12_toldOfMast_11 ?_
  refine lv_astore_n (lv' := [(3, .ref (a 8)), (0, .ref (a 0)), (1, .int 1), (2, .int p0)]) hx hb dX12_toldOfMast_14 rfl hl (by decide) rfl (fun ls hl => ?_)
  refine lv_iconst (v := 0) hx hb dX12_toldOfMast_15 (by decide) ?_
  refine lv_istore (lv' := [(4, .int 0), (3, .ref (a 8)), (0, .ref (a 0)), (1, .int 1), (2, .int p0)]) hx hb dX12_toldOfMast_16 hl (by decide) rfl (fun ls hl => ?_)
  refine lv_aload_n hx hb dX12_toldOfMast_18 rfl (lv_at hl 2 rfl) ?_
  refine hr_get C0 hp (q0 := 0) (C := RX12) (T := TX12) (N := 4) (ci := 2) rfl rfl hr_uX12 1 (by decide) hw_126 (fun _ h9 => h9) rfl dX12_toldOfMast_19 ?_
  refine hr_get C0 hp (q0 := 1) (C := RX11) (T := TX11) (N := 5) (ci := 1) rfl rfl hr_uX11 1 (by decide) hw_177 (fun _ h9 => h9) rfl dX12_toldOfMast_22 ?_
  have hz := hp.2.2.1
  refine hs_cVr C0 hKT hp (q0 := 3) (ci := 0) (Cn := RJx4a65c) (T := TJx4a65c) (N := 3) (rest := []) (n := 0) [] (hs_iter_3 l D a z cO pp th) rfl rfl rfl (hr_gV hw_191 hw_66 hw_67 hw_20 hw_68) ⟨rfl, rfl⟩ (by decide +kernel) ⟨Nat.le_of_ble_eq_true rfl, Nat.le_of_ble_eq_true rfl⟩ ⟨Nat.le_of_ble_eq_true rfl, Nat.le_of_ble_eq_true rfl⟩ hl.1 rfl rfl (Nat.le_of_ble_eq_true rfl) dX12_toldOfMast_25 (fun u_25 q_25 H locs hv_25 hk_25 hz9 hp => ?_)
  have hz := hs_zz hz hz9
  have hp : hr_H D A s.heap (hs_Y a z cO pp th ++ [(q_25, .inr (5, [.int 0, .int (-1), .int 0, .ref (a 3)]))]) H _ := hp
  refine W.widen (k := 1) (n := 4) (by decide) (by decide) ?_
  refine lv_astore (lv' := [(5, .ref q_25), (4, .int 0), (3, .ref (a 8)), (0, .ref (a 0)), (1, .int 1), (2, .int p0)]) hx hb dX12_toldOfMast_28 hl (by decide) rfl (fun ls hl => ?_)
  refine lv_aload hx hb dX12_toldOfMast_30 (lv_at hl 0 rfl) ?_
  refine hs_cFi C0 hKT hp (q0 := 9) (ci := 5) (Cn := RJx35411) (T := TJx35411) (N := 4) (rest := []) (n := 0) [] (hs_has_3_0 l D a z cO pp th q_25) rfl rfl rfl (hr_gF hw_192 hw_82 hw_83 hw_71 hw_84) hN.1.2.2.2.1 ⟨rfl, rfl⟩ (by decide +kernel) ⟨Nat.le_of_ble_eq_true rfl, Nat.le_of_ble_eq_true rfl⟩ ⟨Nat.le_of_ble_eq_true rfl, Nat.le_of_ble_eq_true rfl⟩ hl.1 rfl rfl (Nat.le_of_ble_eq_true rfl) dX12_toldOfMast_32 (fun q_32 u_32 H locs hv_32 hz9 hp => ?_)
  have hz := hs_zz hz hz9
  subst hv_32
  have hp : hr_H D A s.heap (hs_Y a z cO pp th ++ [(q_25, .inr (5, [.int 0, .int (-1), .int 0, .ref (a 3)]))]) H _ := hp
  refine lv_if_eq (tgt := 85) hx hb dX12_toldOfMast_37 (by decide) (fun _ => ?_) (fun c9 => absurd c9 (by decide))
  have hp := hr_drop (Y := (hs_Y a z cO pp th)) (X := [(q_25, .inr (5, [.int 0, .int (-1), .int 0, .ref (a 3)]))]) hp
  refine lv_bipush (v := 10) hx hb dX12_toldOfMast_85 (by decide) ?_
  refine hs_newI C0 hp hw_180 (n := 10) (by decide) (by decide) (by decide) (Nat.le_of_ble_eq_true rfl) (Nat.le_of_ble_eq_true rfl) dX12_toldOfMast_87 (fun q_87 cA_87 H hK_87 hz9 hp => ?_)
  have hz := hs_zz hz hz9
  have hp : hr_H D A s.heap (hs_Y a z cO pp th ++ [(q_87, .inl (cA_87, 10, .inl (fun _ => 0)))]) H _ := hp
  refine W.widen (k := 2) (n := 14) (by decide) (by decide) ?_
  refine lv_dup hx hb dX12_toldOfMast_89 rfl ?_
  refine lv_iconst (v := 0) hx hb dX12_toldOfMast_90 (by decide) ?_
  refine lv_aload_n hx hb dX12_toldOfMast_91 rfl (lv_at hl 2 rfl) ?_
  refine hr_get C0 hp (q0 := 8) (C := RX9) (T := TX9) (N := 9) (ci := 3) rfl rfl hr_uX9 0 (by decide) hw_181 (fun _ h9 => h9) rfl dX12_toldOfMast_92 ?_
  refine hs_iast C0 hK_87 hp (q0 := 9) (n := 10) (f := (fun _ => 0)) (k' := 0) (Y' := (hs_Y a z cO pp th ++ [(q_87, .inl (cA_87, 10, .inl (upd (fun _ => 0) 0 (pp 5))))])) rfl (by unfold vp_in; decide) (by decide) rfl dX12_toldOfMast_95 (fun H locs hz9 hp => ?_)
  have hz := hs_zz hz hz9
  refine lv_dup hx hb dX12_toldOfMast_96 rfl ?_
  refine lv_iconst (v := 1) hx hb dX12_toldOfMast_97 (by decide) ?_
  refine lv_aload_n hx hb dX12_toldOfMast_98 rfl (lv_at hl 2 rfl) ?_
  refine hr_get C0 hp (q0 := 8) (C := RX9) (T := TX9) (N := 9) (ci := 3) rfl rfl hr_uX9 1 (by decide) hw_182 (fun _ h9 => h9) rfl dX12_toldOfMast_99 ?_
  refine hs_iast C0 hK_87 hp (q0 := 9) (n := 10) (f := (upd (fun _ => 0) 0 (pp 5))) (k' := 1) (Y' := (hs_Y a z cO pp th ++ [(q_87, .inl (cA_87, 10, .inl (upd (upd (fun _ => 0) 0 (pp 5)) 1 (pp 6))))])) rfl (by unfold vp_in; decide) (by decide) rfl dX12_toldOfMast_102 (fun H locs hz9 hp => ?_)
  have hz := hs_zz hz hz9
  refine lv_dup hx hb dX12_toldOfMast_103 rfl ?_
  refine lv_iconst (v := 2) hx hb dX12_toldOfMast_104 (by decide) ?_
  refine lv_aload_n hx hb dX12_toldOfMast_105 rfl (lv_at hl 2 rfl) ?_
  refine hr_get C0 hp (q0 := 8) (C := RX9) (T := TX9) (N := 9) (ci := 3) rfl rfl hr_uX9 2 (by decide) hw_183 (fun _ h9 => h9) rfl dX12_toldOfMast_106 ?_
  refine hs_iast C0 hK_87 hp (q0 := 9) (n := 10) (f := (upd (upd (fun _ => 0) 0 (pp 5)) 1 (pp 6))) (k' := 2) (Y' := (hs_Y a z cO pp th ++ [(q_87, .inl (cA_87, 10, .inl (upd (upd (upd (fun _ => 0) 0 (pp 5)) 1 (pp 6)) 2 2)))])) rfl (by unfold vp_in; decide) (by decide) rfl dX12_toldOfMast_109 (fun H locs hz9 hp => ?_)
  have hz := hs_zz hz hz9
  refine lv_dup hx hb dX12_toldOfMast_110 rfl ?_
  refine lv_iconst (v := 3) hx hb dX12_toldOfMast_111 (by decide) ?_
  refine lv_aload_n hx hb dX12_toldOfMast_112 rfl (lv_at hl 2 rfl) ?_
  refine hr_get C0 hp (q0 := 8) (C := RX9) (T := TX9) (N := 9) (ci := 3) rfl rfl hr_uX9 3 (by decide) hw_184 (fun _ h9 => h9) rfl dX12_toldOfMast_113 ?_
  refine hs_iast C0 hK_87 hp (q0 := 9) (n := 10) (f := (upd (upd (upd (fun _ => 0) 0 (pp 5)) 1 (pp 6)) 2 2)) (k' := 3) (Y' := (hs_Y a z cO pp th ++ [(q_87, .inl (cA_87, 10, .inl (upd (upd (upd (upd (fun _ => 0) 0 (pp 5)) 1 (pp 6)) 2 2) 3 (pp 7))))])) rfl (by unfold vp_in; decide) (by decide) rfl dX12_toldOfMast_116 (fun H locs hz9 hp => ?_)
  have hz := hs_zz hz hz9
  refine lv_dup hx hb dX12_toldOfMast_117 rfl ?_
  refine lv_iconst (v := 4) hx hb dX12_toldOfMast_118 (by decide) ?_
  refine lv_aload_n hx hb dX12_toldOfMast_119 rfl (lv_at hl 2 rfl) ?_
  refine hr_get C0 hp (q0 := 8) (C := RX9) (T := TX9) (N := 9) (ci := 3) rfl rfl hr_uX9 4 (by decide) hw_185 (fun _ h9 => h9) rfl dX12_toldOfMast_120 ?_
  refine hs_iast C0 hK_87 hp (q0 := 9) (n := 10) (f := (upd (upd (upd (upd (fun _ => 0) 0 (pp 5)) 1 (pp 6)) 2 2) 3 (pp 7))) (k' := 4) (Y' := (hs_Y a z cO pp th ++ [(q_87, .inl (cA_87, 10, .inl (upd (upd (upd (upd (upd (fun _ => 0) 0 (pp 5)) 1 (pp 6)) 2 2) 3 (pp 7)) 4 (pp 8))))])) rfl (by unfold vp_in; decide) (by decide) rfl dX12_toldOfMast_123 (fun H locs hz9 hp => ?_)
  have hz := hs_zz hz hz9
  refine lv_dup hx hb dX12_toldOfMast_124 rfl ?_
  refine lv_iconst (v := 5) hx hb dX12_toldOfMast_125 (by decide) ?_
  refine lv_aload_n hx hb dX12_toldOfMast_126 rfl (lv_at hl 2 rfl) ?_
  refine hr_get C0 hp (q0 := 8) (C := RX9) (T := TX9) (N := 9) (ci := 3) rfl rfl hr_uX9 5 (by decide) hw_186 (fun _ h9 => h9) rfl dX12_toldOfMast_127 ?_
  refine hs_iast C0 hK_87 hp (q0 := 9) (n := 10) (f := (upd (upd (upd (upd (upd (fun _ => 0) 0 (pp 5)) 1 (pp 6)) 2 2) 3 (pp 7)) 4 (pp 8))) (k' := 5) (Y' := (hs_Y a z cO pp th ++ [(q_87, .inl (cA_87, 10, .inl (upd (upd (upd (upd (upd (upd (fun _ => 0) 0 (pp 5)) 1 (pp 6)) 2 2) 3 (pp 7)) 4 (pp 8)) 5 (pp 9))))])) rfl (by unfold vp_in; decide) (by decide) rfl dX12_toldOfMast_130 (fun H locs hz9 hp => ?_)
  have hz := hs_zz hz hz9
  refine lv_dup hx hb dX12_toldOfMast_131 rfl ?_
  refine lv_bipush (v := 6) hx hb dX12_toldOfMast_132 (by decide) ?_
  refine lv_aload_n hx hb dX12_toldOfMast_134 rfl (lv_at hl 2 rfl) ?_
  refine hr_get C0 hp (q0 := 8) (C := RX9) (T := TX9) (N := 9) (ci := 3) rfl rfl hr_uX9 6 (by decide) hw_187 (fun _ h9 => h9) rfl dX12_toldOfMast_135 ?_
  refine hs_cSi C0 hKT hp (rest := [.int 6, .ref q_87, .ref q_87]) (n := 1) [] (hs_X12_one l D z _ (hs_Y a z cO pp th ++ [(q_87, .inl (cA_87, 10, .inl (upd (upd (upd (upd (upd (upd (fun _ => 0) 0 (pp 5)) 1 (pp 6)) 2 2) 3 (pp 7)) 4 (pp 8)) 5 (pp 9))))]) 1) rfl (hr_gS hw_197 hw_118 hw_119 hw_120) ⟨rfl, rfl⟩ (by decide +kernel) ⟨Nat.le_of_ble_eq_true rfl, Nat.le_of_ble_eq_true rfl⟩ ⟨Nat.le_of_ble_eq_true rfl, Nat.le_of_ble_eq_true rfl⟩ hl.1 rfl rfl (Nat.le_of_ble_eq_true rfl) dX12_toldOfMast_138 (fun q_138 u_138 H locs hv_138 hz9 hp => ?_)
  have hz := hs_zz hz hz9
  subst hv_138
  have hp : hr_H D A s.heap (hs_Y a z cO pp th ++ [(q_87, .inl (cA_87, 10, .inl (upd (upd (upd (upd (upd (upd (fun _ => 0) 0 (pp 5)) 1 (pp 6)) 2 2) 3 (pp 7)) 4 (pp 8)) 5 (pp 9))))]) H _ := hp
  refine hs_iast C0 hK_87 hp (q0 := 9) (n := 10) (f := (upd (upd (upd (upd (upd (upd (fun _ => 0) 0 (pp 5)) 1 (pp 6)) 2 2) 3 (pp 7)) 4 (pp 8)) 5 (pp 9))) (k' := 6) (Y' := (hs_Y a z cO pp th ++ [(q_87, .inl (cA_87, 10, .inl (upd (upd (upd (upd (upd (upd (upd (fun _ => 0) 0 (pp 5)) 1 (pp 6)) 2 2) 3 (pp 7)) 4 (pp 8)) 5 (pp 9)) 6 (hr_one 1))))])) rfl (by unfold vp_in; decide) (by decide) rfl dX12_toldOfMast_141 (fun H locs hz9 hp => ?_)
  have hz := hs_zz hz hz9
  refine lv_dup hx hb dX12_toldOfMast_142 rfl ?_
  refine lv_bipush (v := 7) hx hb dX12_toldOfMast_143 (by decide) ?_
  refine lv_aload_n hx hb dX12_toldOfMast_145 rfl (lv_at hl 2 rfl) ?_
  refine hr_get C0 hp (q0 := 8) (C := RX9) (T := TX9) (N := 9) (ci := 3) rfl rfl hr_uX9 7 (by decide) hw_188 (fun _ h9 => h9) rfl dX12_toldOfMast_146 ?_
  refine hs_iast C0 hK_87 hp (q0 := 9) (n := 10) (f := (upd (upd (upd (upd (upd (upd (upd (fun _ => 0) 0 (pp 5)) 1 (pp 6)) 2 2) 3 (pp 7)) 4 (pp 8)) 5 (pp 9)) 6 (hr_one 1))) (k' := 7) (Y' := (hs_Y a z cO pp th ++ [(q_87, .inl (cA_87, 10, .inl (upd (upd (upd (upd (upd (upd (upd (upd (fun _ => 0) 0 (pp 5)) 1 (pp 6)) 2 2) 3 (pp 7)) 4 (pp 8)) 5 (pp 9)) 6 (hr_one 1)) 7 0)))])) rfl (by unfold vp_in; decide) (by decide) rfl dX12_toldOfMast_149 (fun H locs hz9 hp => ?_)
  have hz := hs_zz hz hz9
  refine lv_dup hx hb dX12_toldOfMast_150 rfl ?_
  refine lv_bipush (v := 8) hx hb dX12_toldOfMast_151 (by decide) ?_
  refine lv_iload hx hb dX12_toldOfMast_153 (lv_at hl 1 rfl) ?_
  refine hs_iast C0 hK_87 hp (q0 := 9) (n := 10) (f := (upd (upd (upd (upd (upd (upd (upd (upd (fun _ => 0) 0 (pp 5)) 1 (pp 6)) 2 2) 3 (pp 7)) 4 (pp 8)) 5 (pp 9)) 6 (hr_one 1)) 7 0)) (k' := 8) (Y' := (hs_Y a z cO pp th ++ [(q_87, .inl (cA_87, 10, .inl (upd (upd (upd (upd (upd (upd (upd (upd (upd (fun _ => 0) 0 (pp 5)) 1 (pp 6)) 2 2) 3 (pp 7)) 4 (pp 8)) 5 (pp 9)) 6 (hr_one 1)) 7 0) 8 0)))])) rfl (by unfold vp_in; decide) (by decide) rfl dX12_toldOfMast_155 (fun H locs hz9 hp => ?_)
  have hz := hs_zz hz hz9
  refine lv_dup hx hb dX12_toldOfMast_156 rfl ?_
  refine lv_bipush (v := 9) hx hb dX12_toldOfMast_157 (by decide) ?_
  refine lv_aload_n hx hb dX12_toldOfMast_159 rfl (lv_at hl 2 rfl) ?_
  refine hr_get C0 hp (q0 := 8) (C := RX9) (T := TX9) (N := 9) (ci := 3) rfl rfl hr_uX9 8 (by decide) hw_189 (fun _ h9 => h9) rfl dX12_toldOfMast_160 ?_
  refine hs_iast C0 hK_87 hp (q0 := 9) (n := 10) (f := (upd (upd (upd (upd (upd (upd (upd (upd (upd (fun _ => 0) 0 (pp 5)) 1 (pp 6)) 2 2) 3 (pp 7)) 4 (pp 8)) 5 (pp 9)) 6 (hr_one 1)) 7 0) 8 0)) (k' := 9) (Y' := (hs_Y a z cO pp th ++ [(q_87, .inl (cA_87, 10, .inl (upd (upd (upd (upd (upd (upd (upd (upd (upd (upd (fun _ => 0) 0 (pp 5)) 1 (pp 6)) 2 2) 3 (pp 7)) 4 (pp 8)) 5 (pp 9)) 6 (hr_one 1)) 7 0) 8 0) 9 0)))])) rfl (by unfold vp_in; decide) (by decide) rfl dX12_toldOfMast_163 (fun H locs hz9 hp => ?_)
  have hz := hs_zz hz hz9
  refine lv_astore (lv' := [(5, .ref q_87), (4, .int 0), (3, .ref (a 8)), (0, .ref (a 0)), (1, .int 1), (2, .int p0)]) hx hb dX12_toldOfMast_164 hl (by decide) rfl (fun ls hl => ?_)
  refine lv_aload hx hb dX12_toldOfMast_166 (lv_at hl 0 rfl) ?_
  refine lv_iload_n hx hb dX12_toldOfMast_168 rfl (lv_at hl 5 rfl) ?_
  refine hr_ial C0 hK_87 hp (q0 := 9) (n := 10) (f := (upd (upd (upd (upd (upd (upd (upd (upd (upd (upd (fun _ => 0) 0 (pp 5)) 1 (pp 6)) 2 2) 3 (pp 7)) 4 (pp 8)) 5 (pp 9)) 6 (hr_one 1)) 7 0) 8 0) 9 0)) (k' := p0.toNatClampNeg) rfl hin rfl dX12_toldOfMast_169 ?_
  have hp := hr_drop (Y := (hs_Y a z cO pp th)) (X := [(q_87, .inl (cA_87, 10, .inl (upd (upd (upd (upd (upd (upd (upd (upd (upd (upd (fun _ => 0) 0 (pp 5)) 1 (pp 6)) 2 2) 3 (pp 7)) 4 (pp 8)) 5 (pp 9)) 6 (hr_one 1)) 7 0) 8 0) 9 0)))]) hp
  exact hs_iret () C0 hp (by omega) rfl ⟨Nat.le_of_ble_eq_true rfl, Nat.le_of_ble_eq_true rfl⟩ dX12_toldOfMast_170 trivial
