/-! THE CHECKSUM of the reference on a road with two masts (frequencies 0 and 2): 4896 new cells, and the road is as it was (wip/gen/mkt3.py) -/
set_option maxHeartbeats 4000000 in
set_option maxRecDepth 100000 in
/-- ONE CHECKSUM MAKES 4896 NEW CELLS, NO MORE AND NO LESS -/
theorem hs_digest (l : Launch) (D : va_G) (a : Nat → Nat) (z : Nat) (cO : ClassId) (pp : Nat → Int32) (th : Int32) : hs_Kl l D z (hs_t cO) yX12_digest (hr_wm yX12_digest cX12_digest 5 (some .long)) { frames := 7, cells := 4896, slots := 19865, locals := 168 } [.ref (a 0)] (hs_Y a z cO pp th) 4896 4896 19865 (fun (_ : Int64) (_ : Unit) => True) (fun _ => hs_Y a z cO pp 0) := by
  refine hs_Kl_of (by decide) (Nat.le_of_ble_eq_true rfl) ?_
  intro p e s m args below meth c ls A hAe C0 hKT hp hl
  obtain ⟨hx, hb, hr9, hml, hown, hts, hK, hlk, hA, hN, hnm9⟩ := id C0
  have hl : lv_has ls 5 [(0, .ref (a 0))] := hl
  have hL : ∀ (n i : Nat) (d9 : Int64) (H : Heap) (locs : List Loc) (ls : Array Slot), i ≤ 15 → 15 - i < n → s.heap.size + 303 * i ≤ H.size → hr_H D A s.heap (hs_Y a z cO pp 0) H locs → lv_has ls 5 [(3, .int (nI i)), (1, .long d9), (0, .ref (a 0))] → W p l e ({ frames := 7, cells := 4896, slots := 19865, locals := 168 } : Room) s m args below meth c H locs (303 * i) (1223 * i) (MQ below (va_Ql (fun (_ : Int64) (_ : Unit) => True) (fun u t => hs_B D A ((fun _ => hs_Y a z cO pp 0) u) (s.heap.size + 4896) t) A) args s 4896 19865 A) (F0 m 11 ls []) := by
    intro n
    induction n with
    | zero => intro i d9 H locs ls h1 h2; omega
    | succ n ih =>
    intro i d9 H locs ls hi hn hz hp hl
    refine lv_iload_n hx hb dX12_digest_11 rfl (lv_at hl 0 rfl) ?_
    refine lv_bipush (v := 15) hx hb dX12_digest_12 (by decide) ?_
    refine lv_icmp_ge (tgt := 34) hx hb dX12_digest_14 (by decide) (fun c9 => ?_) (fun c9 => ?_)
    · have e9 : i = 15 := by
        have := (nI_leI (a := 15) (b := i) (by decide) (by omega)).mp c9
        omega
      subst e9
      refine lv_iconst (v := 0) hx hb dX12_digest_34 (by decide) ?_
      refine lv_istore_n (lv' := [(3, .int 0), (1, .long d9), (0, .ref (a 0))]) hx hb dX12_digest_35 rfl hl (by decide) rfl (fun ls hl => ?_)
      refine lv_iload_n hx hb dX12_digest_36 rfl (lv_at hl 0 rfl) ?_
      refine lv_aload_n hx hb dX12_digest_37 rfl (lv_at hl 2 rfl) ?_
      refine hr_get C0 hp (q0 := 0) (C := RX12) (T := TX12) (N := 4) (ci := 2) rfl rfl hr_uX12 1 (by decide) hw_126 (fun _ h9 => h9) rfl dX12_digest_38 ?_
      refine hr_get C0 hp (q0 := 1) (C := RX11) (T := TX11) (N := 5) (ci := 1) rfl rfl hr_uX11 0 (by decide) hw_136 (fun _ h9 => h9) rfl dX12_digest_41 ?_
      refine hs_cVi C0 hKT hp (q0 := 2) (ci := 0) (Cn := RJx4a65c) (T := TJx4a65c) (N := 3) (rest := [.int 0]) (n := 0) [] (hs_size_2 l D a z cO pp 0) rfl rfl rfl (hr_gV hw_144 hw_107 hw_108 hw_20 hw_109) ⟨rfl, rfl⟩ (by decide +kernel) ⟨Nat.le_of_ble_eq_true rfl, Nat.le_of_ble_eq_true rfl⟩ ⟨Nat.le_of_ble_eq_true rfl, Nat.le_of_ble_eq_true rfl⟩ hl.1 rfl rfl (Nat.le_of_ble_eq_true rfl) dX12_digest_44 (fun q_44 u_44 H locs hv_44 hz9 hp => ?_)
      have hz := hs_zz hz hz9
      subst hv_44
      have hp : hr_H D A s.heap (hs_Y a z cO pp 0) H _ := hp
      refine lv_icmp_ge (tgt := 114) hx hb dX12_digest_47 (by decide) (fun c9 => absurd c9 (by decide)) (fun _ => ?_)
      refine lv_iconst (v := 0) hx hb dX12_digest_50 (by decide) ?_
      refine lv_istore (lv' := [(4, .int 0), (3, .int 0), (1, .long d9), (0, .ref (a 0))]) hx hb dX12_digest_51 hl (by decide) rfl (fun ls hl => ?_)
      refine lv_iload hx hb dX12_digest_53 (lv_at hl 0 rfl) ?_
      refine lv_bipush (v := 10) hx hb dX12_digest_55 (by decide) ?_
      refine lv_icmp_ge (tgt := 79) hx hb dX12_digest_57 (by decide) (fun c9 => absurd c9 (by decide)) (fun _ => ?_)
      refine lv_lload_n hx hb dX12_digest_60 rfl (lv_at hl 2 rfl) ?_
      refine lv_aload_n hx hb dX12_digest_61 rfl (lv_at hl 3 rfl) ?_
      refine lv_iload_n hx hb dX12_digest_62 rfl (lv_at hl 1 rfl) ?_
      refine lv_iload hx hb dX12_digest_63 (lv_at hl 0 rfl) ?_
      refine hs_cVi C0 hKT hp (q0 := 0) (ci := 2) (Cn := RX12) (T := TX12) (N := 4) (rest := [.long d9]) (n := 2) [] (hs_told_0 l D a z cO pp 0 0 (by unfold vp_in; decide)) rfl rfl rfl (hr_gV hw_240 hw_241 hw_242 hw_119 hw_175) ⟨rfl, rfl⟩ (by decide +kernel) ⟨Nat.le_of_ble_eq_true rfl, Nat.le_of_ble_eq_true rfl⟩ ⟨Nat.le_of_ble_eq_true rfl, Nat.le_of_ble_eq_true rfl⟩ hl.1 rfl rfl (Nat.le_of_ble_eq_true rfl) dX12_digest_65 (fun q_65 u_65 H locs hv_65 hz9 hp => ?_)
      have hz := hs_zz hz hz9
      have hp : hr_H D A s.heap (hs_Y a z cO pp 0) H _ := hp
      refine lv_i2l hx hb dX12_digest_68 rfl ?_
      refine hs_cSl C0 hKT hp (rest := []) (n := 2) [] (hs_X12_add l D z _ (hs_Y a z cO pp 0) d9 (q_65).toInt64) rfl (hr_gS hw_238 hw_239 hw_119 hw_231) ⟨rfl, rfl⟩ (by decide +kernel) ⟨Nat.le_of_ble_eq_true rfl, Nat.le_of_ble_eq_true rfl⟩ ⟨Nat.le_of_ble_eq_true rfl, Nat.le_of_ble_eq_true rfl⟩ hl.1 rfl rfl (Nat.le_of_ble_eq_true rfl) dX12_digest_69 (fun q_69 u_69 H locs hv_69 hz9 hp => ?_)
      have hz := hs_zz hz hz9
      have hp : hr_H D A s.heap (hs_Y a z cO pp 0) H _ := hp
      refine lv_lstore_n (lv' := [(1, .long q_69), (4, .int 0), (3, .int 0), (0, .ref (a 0))]) hx hb dX12_digest_72 rfl hl (by decide) rfl (fun ls hl => ?_)
      refine lv_iinc (v := 1) (lv' := [(4, .int 1), (1, .long q_69), (3, .int 0), (0, .ref (a 0))]) hx hb dX12_digest_73 hl (k := 1) rfl (by decide) (by decide) rfl (fun ls hl => ?_)
      refine lv_goto (tgt := 53) hx hb dX12_digest_76 (by decide) ?_
      refine lv_iload hx hb dX12_digest_53 (lv_at hl 0 rfl) ?_
      refine lv_bipush (v := 10) hx hb dX12_digest_55 (by decide) ?_
      refine lv_icmp_ge (tgt := 79) hx hb dX12_digest_57 (by decide) (fun c9 => absurd c9 (by decide)) (fun _ => ?_)
      refine lv_lload_n hx hb dX12_digest_60 rfl (lv_at hl 1 rfl) ?_
      refine lv_aload_n hx hb dX12_digest_61 rfl (lv_at hl 3 rfl) ?_
      refine lv_iload_n hx hb dX12_digest_62 rfl (lv_at hl 2 rfl) ?_
      refine lv_iload hx hb dX12_digest_63 (lv_at hl 0 rfl) ?_
      refine hs_cVi C0 hKT hp (q0 := 0) (ci := 2) (Cn := RX12) (T := TX12) (N := 4) (rest := [.long q_69]) (n := 2) [] (hs_told_0 l D a z cO pp 0 1 (by unfold vp_in; decide)) rfl rfl rfl (hr_gV hw_240 hw_241 hw_242 hw_119 hw_175) ⟨rfl, rfl⟩ (by decide +kernel) ⟨Nat.le_of_ble_eq_true rfl, Nat.le_of_ble_eq_true rfl⟩ ⟨Nat.le_of_ble_eq_true rfl, Nat.le_of_ble_eq_true rfl⟩ hl.1 rfl rfl (Nat.le_of_ble_eq_true rfl) dX12_digest_65 (fun q_65 u_65 H locs hv_65 hz9 hp => ?_)
      have hz := hs_zz hz hz9
      have hp : hr_H D A s.heap (hs_Y a z cO pp 0) H _ := hp
      refine lv_i2l hx hb dX12_digest_68 rfl ?_
      refine hs_cSl C0 hKT hp (rest := []) (n := 2) [] (hs_X12_add l D z _ (hs_Y a z cO pp 0) q_69 (q_65).toInt64) rfl (hr_gS hw_238 hw_239 hw_119 hw_231) ⟨rfl, rfl⟩ (by decide +kernel) ⟨Nat.le_of_ble_eq_true rfl, Nat.le_of_ble_eq_true rfl⟩ ⟨Nat.le_of_ble_eq_true rfl, Nat.le_of_ble_eq_true rfl⟩ hl.1 rfl rfl (Nat.le_of_ble_eq_true rfl) dX12_digest_69 (fun q_69 u_69 H locs hv_69 hz9 hp => ?_)
      have hz := hs_zz hz hz9
      have hp : hr_H D A s.heap (hs_Y a z cO pp 0) H _ := hp
      refine lv_lstore_n (lv' := [(1, .long q_69), (4, .int 1), (3, .int 0), (0, .ref (a 0))]) hx hb dX12_digest_72 rfl hl (by decide) rfl (fun ls hl => ?_)
      refine lv_iinc (v := 2) (lv' := [(4, .int 2), (1, .long q_69), (3, .int 0), (0, .ref (a 0))]) hx hb dX12_digest_73 hl (k := 1) rfl (by decide) (by decide) rfl (fun ls hl => ?_)
      refine lv_goto (tgt := 53) hx hb dX12_digest_76 (by decide) ?_
      refine lv_iload hx hb dX12_digest_53 (lv_at hl 0 rfl) ?_
      refine lv_bipush (v := 10) hx hb dX12_digest_55 (by decide) ?_
      refine lv_icmp_ge (tgt := 79) hx hb dX12_digest_57 (by decide) (fun c9 => absurd c9 (by decide)) (fun _ => ?_)
      refine lv_lload_n hx hb dX12_digest_60 rfl (lv_at hl 1 rfl) ?_
      refine lv_aload_n hx hb dX12_digest_61 rfl (lv_at hl 3 rfl) ?_
      refine lv_iload_n hx hb dX12_digest_62 rfl (lv_at hl 2 rfl) ?_
      refine lv_iload hx hb dX12_digest_63 (lv_at hl 0 rfl) ?_
      refine hs_cVi C0 hKT hp (q0 := 0) (ci := 2) (Cn := RX12) (T := TX12) (N := 4) (rest := [.long q_69]) (n := 2) [] (hs_told_0 l D a z cO pp 0 2 (by unfold vp_in; decide)) rfl rfl rfl (hr_gV hw_240 hw_241 hw_242 hw_119 hw_175) ⟨rfl, rfl⟩ (by decide +kernel) ⟨Nat.le_of_ble_eq_true rfl, Nat.le_of_ble_eq_true rfl⟩ ⟨Nat.le_of_ble_eq_true rfl, Nat.le_of_ble_eq_true rfl⟩ hl.1 rfl rfl (Nat.le_of_ble_eq_true rfl) dX12_digest_65 (fun q_65 u_65 H locs hv_65 hz9 hp => ?_)
      have hz := hs_zz hz hz9
      have hp : hr_H D A s.heap (hs_Y a z cO pp 0) H _ := hp
      refine lv_i2l hx hb dX12_digest_68 rfl ?_
      refine hs_cSl C0 hKT hp (rest := []) (n := 2) [] (hs_X12_add l D z _ (hs_Y a z cO pp 0) q_69 (q_65).toInt64) rfl (hr_gS hw_238 hw_239 hw_119 hw_231) ⟨rfl, rfl⟩ (by decide +kernel) ⟨Nat.le_of_ble_eq_true rfl, Nat.le_of_ble_eq_true rfl⟩ ⟨Nat.le_of_ble_eq_true rfl, Nat.le_of_ble_eq_true rfl⟩ hl.1 rfl rfl (Nat.le_of_ble_eq_true rfl) dX12_digest_69 (fun q_69 u_69 H locs hv_69 hz9 hp => ?_)
      have hz := hs_zz hz hz9
      have hp : hr_H D A s.heap (hs_Y a z cO pp 0) H _ := hp
      refine lv_lstore_n (lv' := [(1, .long q_69), (4, .int 2), (3, .int 0), (0, .ref (a 0))]) hx hb dX12_digest_72 rfl hl (by decide) rfl (fun ls hl => ?_)
      refine lv_iinc (v := 3) (lv' := [(4, .int 3), (1, .long q_69), (3, .int 0), (0, .ref (a 0))]) hx hb dX12_digest_73 hl (k := 1) rfl (by decide) (by decide) rfl (fun ls hl => ?_)
      refine lv_goto (tgt := 53) hx hb dX12_digest_76 (by decide) ?_
      refine lv_iload hx hb dX12_digest_53 (lv_at hl 0 rfl) ?_
      refine lv_bipush (v := 10) hx hb dX12_digest_55 (by decide) ?_
      refine lv_icmp_ge (tgt := 79) hx hb dX12_digest_57 (by decide) (fun c9 => absurd c9 (by decide)) (fun _ => ?_)
      refine lv_lload_n hx hb dX12_digest_60 rfl (lv_at hl 1 rfl) ?_
      refine lv_aload_n hx hb dX12_digest_61 rfl (lv_at hl 3 rfl) ?_
      refine lv_iload_n hx hb dX12_digest_62 rfl (lv_at hl 2 rfl) ?_
      refine lv_iload hx hb dX12_digest_63 (lv_at hl 0 rfl) ?_
      refine hs_cVi C0 hKT hp (q0 := 0) (ci := 2) (Cn := RX12) (T := TX12) (N := 4) (rest := [.long q_69]) (n := 2) [] (hs_told_0 l D a z cO pp 0 3 (by unfold vp_in; decide)) rfl rfl rfl (hr_gV hw_240 hw_241 hw_242 hw_119 hw_175) ⟨rfl, rfl⟩ (by decide +kernel) ⟨Nat.le_of_ble_eq_true rfl, Nat.le_of_ble_eq_true rfl⟩ ⟨Nat.le_of_ble_eq_true rfl, Nat.le_of_ble_eq_true rfl⟩ hl.1 rfl rfl (Nat.le_of_ble_eq_true rfl) dX12_digest_65 (fun q_65 u_65 H locs hv_65 hz9 hp => ?_)
      have hz := hs_zz hz hz9
      have hp : hr_H D A s.heap (hs_Y a z cO pp 0) H _ := hp
      refine lv_i2l hx hb dX12_digest_68 rfl ?_
      refine hs_cSl C0 hKT hp (rest := []) (n := 2) [] (hs_X12_add l D z _ (hs_Y a z cO pp 0) q_69 (q_65).toInt64) rfl (hr_gS hw_238 hw_239 hw_119 hw_231) ⟨rfl, rfl⟩ (by decide +kernel) ⟨Nat.le_of_ble_eq_true rfl, Nat.le_of_ble_eq_true rfl⟩ ⟨Nat.le_of_ble_eq_true rfl, Nat.le_of_ble_eq_true rfl⟩ hl.1 rfl rfl (Nat.le_of_ble_eq_true rfl) dX12_digest_69 (fun q_69 u_69 H locs hv_69 hz9 hp => ?_)
      have hz := hs_zz hz hz9
      have hp : hr_H D A s.heap (hs_Y a z cO pp 0) H _ := hp
      refine lv_lstore_n (lv' := [(1, .long q_69), (4, .int 3), (3, .int 0), (0, .ref (a 0))]) hx hb dX12_digest_72 rfl hl (by decide) rfl (fun ls hl => ?_)
      refine lv_iinc (v := 4) (lv' := [(4, .int 4), (1, .long q_69), (3, .int 0), (0, .ref (a 0))]) hx hb dX12_digest_73 hl (k := 1) rfl (by decide) (by decide) rfl (fun ls hl => ?_)
      refine lv_goto (tgt := 53) hx hb dX12_digest_76 (by decide) ?_
      refine lv_iload hx hb dX12_digest_53 (lv_at hl 0 rfl) ?_
      refine lv_bipush (v := 10) hx hb dX12_digest_55 (by decide) ?_
      refine lv_icmp_ge (tgt := 79) hx hb dX12_digest_57 (by decide) (fun c9 => absurd c9 (by decide)) (fun _ => ?_)
      refine lv_lload_n hx hb dX12_digest_60 rfl (lv_at hl 1 rfl) ?_
      refine lv_aload_n hx hb dX12_digest_61 rfl (lv_at hl 3 rfl) ?_
      refine lv_iload_n hx hb dX12_digest_62 rfl (lv_at hl 2 rfl) ?_
      refine lv_iload hx hb dX12_digest_63 (lv_at hl 0 rfl) ?_
      refine hs_cVi C0 hKT hp (q0 := 0) (ci := 2) (Cn := RX12) (T := TX12) (N := 4) (rest := [.long q_69]) (n := 2) [] (hs_told_0 l D a z cO pp 0 4 (by unfold vp_in; decide)) rfl rfl rfl (hr_gV hw_240 hw_241 hw_242 hw_119 hw_175) ⟨rfl, rfl⟩ (by decide +kernel) ⟨Nat.le_of_ble_eq_true rfl, Nat.le_of_ble_eq_true rfl⟩ ⟨Nat.le_of_ble_eq_true rfl, Nat.le_of_ble_eq_true rfl⟩ hl.1 rfl rfl (Nat.le_of_ble_eq_true rfl) dX12_digest_65 (fun q_65 u_65 H locs hv_65 hz9 hp => ?_)
      have hz := hs_zz hz hz9
      have hp : hr_H D A s.heap (hs_Y a z cO pp 0) H _ := hp
      refine lv_i2l hx hb dX12_digest_68 rfl ?_
      refine hs_cSl C0 hKT hp (rest := []) (n := 2) [] (hs_X12_add l D z _ (hs_Y a z cO pp 0) q_69 (q_65).toInt64) rfl (hr_gS hw_238 hw_239 hw_119 hw_231) ⟨rfl, rfl⟩ (by decide +kernel) ⟨Nat.le_of_ble_eq_true rfl, Nat.le_of_ble_eq_true rfl⟩ ⟨Nat.le_of_ble_eq_true rfl, Nat.le_of_ble_eq_true rfl⟩ hl.1 rfl rfl (Nat.le_of_ble_eq_true rfl) dX12_digest_69 (fun q_69 u_69 H locs hv_69 hz9 hp => ?_)
      have hz := hs_zz hz hz9
      have hp : hr_H D A s.heap (hs_Y a z cO pp 0) H _ := hp
      refine lv_lstore_n (lv' := [(1, .long q_69), (4, .int 4), (3, .int 0), (0, .ref (a 0))]) hx hb dX12_digest_72 rfl hl (by decide) rfl (fun ls hl => ?_)
      refine lv_iinc (v := 5) (lv' := [(4, .int 5), (1, .long q_69), (3, .int 0), (0, .ref (a 0))]) hx hb dX12_digest_73 hl (k := 1) rfl (by decide) (by decide) rfl (fun ls hl => ?_)
      refine lv_goto (tgt := 53) hx hb dX12_digest_76 (by decide) ?_
      refine lv_iload hx hb dX12_digest_53 (lv_at hl 0 rfl) ?_
      refine lv_bipush (v := 10) hx hb dX12_digest_55 (by decide) ?_
      refine lv_icmp_ge (tgt := 79) hx hb dX12_digest_57 (by decide) (fun c9 => absurd c9 (by decide)) (fun _ => ?_)
      refine lv_lload_n hx hb dX12_digest_60 rfl (lv_at hl 1 rfl) ?_
      refine lv_aload_n hx hb dX12_digest_61 rfl (lv_at hl 3 rfl) ?_
      refine lv_iload_n hx hb dX12_digest_62 rfl (lv_at hl 2 rfl) ?_
      refine lv_iload hx hb dX12_digest_63 (lv_at hl 0 rfl) ?_
      refine hs_cVi C0 hKT hp (q0 := 0) (ci := 2) (Cn := RX12) (T := TX12) (N := 4) (rest := [.long q_69]) (n := 2) [] (hs_told_0 l D a z cO pp 0 5 (by unfold vp_in; decide)) rfl rfl rfl (hr_gV hw_240 hw_241 hw_242 hw_119 hw_175) ⟨rfl, rfl⟩ (by decide +kernel) ⟨Nat.le_of_ble_eq_true rfl, Nat.le_of_ble_eq_true rfl⟩ ⟨Nat.le_of_ble_eq_true rfl, Nat.le_of_ble_eq_true rfl⟩ hl.1 rfl rfl (Nat.le_of_ble_eq_true rfl) dX12_digest_65 (fun q_65 u_65 H locs hv_65 hz9 hp => ?_)
      have hz := hs_zz hz hz9
      have hp : hr_H D A s.heap (hs_Y a z cO pp 0) H _ := hp
      refine lv_i2l hx hb dX12_digest_68 rfl ?_
      refine hs_cSl C0 hKT hp (rest := []) (n := 2) [] (hs_X12_add l D z _ (hs_Y a z cO pp 0) q_69 (q_65).toInt64) rfl (hr_gS hw_238 hw_239 hw_119 hw_231) ⟨rfl, rfl⟩ (by decide +kernel) ⟨Nat.le_of_ble_eq_true rfl, Nat.le_of_ble_eq_true rfl⟩ ⟨Nat.le_of_ble_eq_true rfl, Nat.le_of_ble_eq_true rfl⟩ hl.1 rfl rfl (Nat.le_of_ble_eq_true rfl) dX12_digest_69 (fun q_69 u_69 H locs hv_69 hz9 hp => ?_)
      have hz := hs_zz hz hz9
      have hp : hr_H D A s.heap (hs_Y a z cO pp 0) H _ := hp
      refine lv_lstore_n (lv' := [(1, .long q_69), (4, .int 5), (3, .int 0), (0, .ref (a 0))]) hx hb dX12_digest_72 rfl hl (by decide) rfl (fun ls hl => ?_)
      refine lv_iinc (v := 6) (lv' := [(4, .int 6), (1, .long q_69), (3, .int 0), (0, .ref (a 0))]) hx hb dX12_digest_73 hl (k := 1) rfl (by decide) (by decide) rfl (fun ls hl => ?_)
      refine lv_goto (tgt := 53) hx hb dX12_digest_76 (by decide) ?_
      refine lv_iload hx hb dX12_digest_53 (lv_at hl 0 rfl) ?_
      refine lv_bipush (v := 10) hx hb dX12_digest_55 (by decide) ?_
      refine lv_icmp_ge (tgt := 79) hx hb dX12_digest_57 (by decide) (fun c9 => absurd c9 (by decide)) (fun _ => ?_)
      refine lv_lload_n hx hb dX12_digest_60 rfl (lv_at hl 1 rfl) ?_
      refine lv_aload_n hx hb dX12_digest_61 rfl (lv_at hl 3 rfl) ?_
      refine lv_iload_n hx hb dX12_digest_62 rfl (lv_at hl 2 rfl) ?_
      refine lv_iload hx hb dX12_digest_63 (lv_at hl 0 rfl) ?_
      refine hs_cVi C0 hKT hp (q0 := 0) (ci := 2) (Cn := RX12) (T := TX12) (N := 4) (rest := [.long q_69]) (n := 2) [] (hs_told_0 l D a z cO pp 0 6 (by unfold vp_in; decide)) rfl rfl rfl (hr_gV hw_240 hw_241 hw_242 hw_119 hw_175) ⟨rfl, rfl⟩ (by decide +kernel) ⟨Nat.le_of_ble_eq_true rfl, Nat.le_of_ble_eq_true rfl⟩ ⟨Nat.le_of_ble_eq_true rfl, Nat.le_of_ble_eq_true rfl⟩ hl.1 rfl rfl (Nat.le_of_ble_eq_true rfl) dX12_digest_65 (fun q_65 u_65 H locs hv_65 hz9 hp => ?_)
      have hz := hs_zz hz hz9
      have hp : hr_H D A s.heap (hs_Y a z cO pp 0) H _ := hp
      refine lv_i2l hx hb dX12_digest_68 rfl ?_
      refine hs_cSl C0 hKT hp (rest := []) (n := 2) [] (hs_X12_add l D z _ (hs_Y a z cO pp 0) q_69 (q_65).toInt64) rfl (hr_gS hw_238 hw_239 hw_119 hw_231) ⟨rfl, rfl⟩ (by decide +kernel) ⟨Nat.le_of_ble_eq_true rfl, Nat.le_of_ble_eq_true rfl⟩ ⟨Nat.le_of_ble_eq_true rfl, Nat.le_of_ble_eq_true rfl⟩ hl.1 rfl rfl (Nat.le_of_ble_eq_true rfl) dX12_digest_69 (fun q_69 u_69 H locs hv_69 hz9 hp => ?_)
      have hz := hs_zz hz hz9
      have hp : hr_H D A s.heap (hs_Y a z cO pp 0) H _ := hp
      refine lv_lstore_n (lv' := [(1, .long q_69), (4, .int 6), (3, .int 0), (0, .ref (a 0))]) hx hb dX12_digest_72 rfl hl (by decide) rfl (fun ls hl => ?_)
      refine lv_iinc (v := 7) (lv' := [(4, .int 7), (1, .long q_69), (3, .int 0), (0, .ref (a 0))]) hx hb dX12_digest_73 hl (k := 1) rfl (by decide) (by decide) rfl (fun ls hl => ?_)
      refine lv_goto (tgt := 53) hx hb dX12_digest_76 (by decide) ?_
      refine lv_iload hx hb dX12_digest_53 (lv_at hl 0 rfl) ?_
      refine lv_bipush (v := 10) hx hb dX12_digest_55 (by decide) ?_
      refine lv_icmp_ge (tgt := 79) hx hb dX12_digest_57 (by decide) (fun c9 => absurd c9 (by decide)) (fun _ => ?_)
      refine lv_lload_n hx hb dX12_digest_60 rfl (lv_at hl 1 rfl) ?_
      refine lv_aload_n hx hb dX12_digest_61 rfl (lv_at hl 3 rfl) ?_
      refine lv_iload_n hx hb dX12_digest_62 rfl (lv_at hl 2 rfl) ?_
      refine lv_iload hx hb dX12_digest_63 (lv_at hl 0 rfl) ?_
      refine hs_cVi C0 hKT hp (q0 := 0) (ci := 2) (Cn := RX12) (T := TX12) (N := 4) (rest := [.long q_69]) (n := 2) [] (hs_told_0 l D a z cO pp 0 7 (by unfold vp_in; decide)) rfl rfl rfl (hr_gV hw_240 hw_241 hw_242 hw_119 hw_175) ⟨rfl, rfl⟩ (by decide +kernel) ⟨Nat.le_of_ble_eq_true rfl, Nat.le_of_ble_eq_true rfl⟩ ⟨Nat.le_of_ble_eq_true rfl, Nat.le_of_ble_eq_true rfl⟩ hl.1 rfl rfl (Nat.le_of_ble_eq_true rfl) dX12_digest_65 (fun q_65 u_65 H locs hv_65 hz9 hp => ?_)
      have hz := hs_zz hz hz9
      have hp : hr_H D A s.heap (hs_Y a z cO pp 0) H _ := hp
      refine lv_i2l hx hb dX12_digest_68 rfl ?_
      refine hs_cSl C0 hKT hp (rest := []) (n := 2) [] (hs_X12_add l D z _ (hs_Y a z cO pp 0) q_69 (q_65).toInt64) rfl (hr_gS hw_238 hw_239 hw_119 hw_231) ⟨rfl, rfl⟩ (by decide +kernel) ⟨Nat.le_of_ble_eq_true rfl, Nat.le_of_ble_eq_true rfl⟩ ⟨Nat.le_of_ble_eq_true rfl, Nat.le_of_ble_eq_true rfl⟩ hl.1 rfl rfl (Nat.le_of_ble_eq_true rfl) dX12_digest_69 (fun q_69 u_69 H locs hv_69 hz9 hp => ?_)
      have hz := hs_zz hz hz9
      have hp : hr_H D A s.heap (hs_Y a z cO pp 0) H _ := hp
      refine lv_lstore_n (lv' := [(1, .long q_69), (4, .int 7), (3, .int 0), (0, .ref (a 0))]) hx hb dX12_digest_72 rfl hl (by decide) rfl (fun ls hl => ?_)
      refine lv_iinc (v := 8) (lv' := [(4, .int 8), (1, .long q_69), (3, .int 0), (0, .ref (a 0))]) hx hb dX12_digest_73 hl (k := 1) rfl (by decide) (by decide) rfl (fun ls hl => ?_)
      refine lv_goto (tgt := 53) hx hb dX12_digest_76 (by decide) ?_
      refine lv_iload hx hb dX12_digest_53 (lv_at hl 0 rfl) ?_
      refine lv_bipush (v := 10) hx hb dX12_digest_55 (by decide) ?_
      refine lv_icmp_ge (tgt := 79) hx hb dX12_digest_57 (by decide) (fun c9 => absurd c9 (by decide)) (fun _ => ?_)
      refine lv_lload_n hx hb dX12_digest_60 rfl (lv_at hl 1 rfl) ?_
      refine lv_aload_n hx hb dX12_digest_61 rfl (lv_at hl 3 rfl) ?_
      refine lv_iload_n hx hb dX12_digest_62 rfl (lv_at hl 2 rfl) ?_
      refine lv_iload hx hb dX12_digest_63 (lv_at hl 0 rfl) ?_
      refine hs_cVi C0 hKT hp (q0 := 0) (ci := 2) (Cn := RX12) (T := TX12) (N := 4) (rest := [.long q_69]) (n := 2) [] (hs_told_0 l D a z cO pp 0 8 (by unfold vp_in; decide)) rfl rfl rfl (hr_gV hw_240 hw_241 hw_242 hw_119 hw_175) ⟨rfl, rfl⟩ (by decide +kernel) ⟨Nat.le_of_ble_eq_true rfl, Nat.le_of_ble_eq_true rfl⟩ ⟨Nat.le_of_ble_eq_true rfl, Nat.le_of_ble_eq_true rfl⟩ hl.1 rfl rfl (Nat.le_of_ble_eq_true rfl) dX12_digest_65 (fun q_65 u_65 H locs hv_65 hz9 hp => ?_)
      have hz := hs_zz hz hz9
      have hp : hr_H D A s.heap (hs_Y a z cO pp 0) H _ := hp
      refine lv_i2l hx hb dX12_digest_68 rfl ?_
      refine hs_cSl C0 hKT hp (rest := []) (n := 2) [] (hs_X12_add l D z _ (hs_Y a z cO pp 0) q_69 (q_65).toInt64) rfl (hr_gS hw_238 hw_239 hw_119 hw_231) ⟨rfl, rfl⟩ (by decide +kernel) ⟨Nat.le_of_ble_eq_true rfl, Nat.le_of_ble_eq_true rfl⟩ ⟨Nat.le_of_ble_eq_true rfl, Nat.le_of_ble_eq_true rfl⟩ hl.1 rfl rfl (Nat.le_of_ble_eq_true rfl) dX12_digest_69 (fun q_69 u_69 H locs hv_69 hz9 hp => ?_)
      have hz := hs_zz hz hz9
      have hp : hr_H D A s.heap (hs_Y a z cO pp 0) H _ := hp
      refine lv_lstore_n (lv' := [(1, .long q_69), (4, .int 8), (3, .int 0), (0, .ref (a 0))]) hx hb dX12_digest_72 rfl hl (by decide) rfl (fun ls hl => ?_)
      refine lv_iinc (v := 9) (lv' := [(4, .int 9), (1, .long q_69), (3, .int 0), (0, .ref (a 0))]) hx hb dX12_digest_73 hl (k := 1) rfl (by decide) (by decide) rfl (fun ls hl => ?_)
      refine lv_goto (tgt := 53) hx hb dX12_digest_76 (by decide) ?_
      refine lv_iload hx hb dX12_digest_53 (lv_at hl 0 rfl) ?_
      refine lv_bipush (v := 10) hx hb dX12_digest_55 (by decide) ?_
      refine lv_icmp_ge (tgt := 79) hx hb dX12_digest_57 (by decide) (fun c9 => absurd c9 (by decide)) (fun _ => ?_)
      refine lv_lload_n hx hb dX12_digest_60 rfl (lv_at hl 1 rfl) ?_
      refine lv_aload_n hx hb dX12_digest_61 rfl (lv_at hl 3 rfl) ?_
      refine lv_iload_n hx hb dX12_digest_62 rfl (lv_at hl 2 rfl) ?_
      refine lv_iload hx hb dX12_digest_63 (lv_at hl 0 rfl) ?_
      refine hs_cVi C0 hKT hp (q0 := 0) (ci := 2) (Cn := RX12) (T := TX12) (N := 4) (rest := [.long q_69]) (n := 2) [] (hs_told_0 l D a z cO pp 0 9 (by unfold vp_in; decide)) rfl rfl rfl (hr_gV hw_240 hw_241 hw_242 hw_119 hw_175) ⟨rfl, rfl⟩ (by decide +kernel) ⟨Nat.le_of_ble_eq_true rfl, Nat.le_of_ble_eq_true rfl⟩ ⟨Nat.le_of_ble_eq_true rfl, Nat.le_of_ble_eq_true rfl⟩ hl.1 rfl rfl (Nat.le_of_ble_eq_true rfl) dX12_digest_65 (fun q_65 u_65 H locs hv_65 hz9 hp => ?_)
      have hz := hs_zz hz hz9
      have hp : hr_H D A s.heap (hs_Y a z cO pp 0) H _ := hp
      refine lv_i2l hx hb dX12_digest_68 rfl ?_
      refine hs_cSl C0 hKT hp (rest := []) (n := 2) [] (hs_X12_add l D z _ (hs_Y a z cO pp 0) q_69 (q_65).toInt64) rfl (hr_gS hw_238 hw_239 hw_119 hw_231) ⟨rfl, rfl⟩ (by decide +kernel) ⟨Nat.le_of_ble_eq_true rfl, Nat.le_of_ble_eq_true rfl⟩ ⟨Nat.le_of_ble_eq_true rfl, Nat.le_of_ble_eq_true rfl⟩ hl.1 rfl rfl (Nat.le_of_ble_eq_true rfl) dX12_digest_69 (fun q_69 u_69 H locs hv_69 hz9 hp => ?_)
      have hz := hs_zz hz hz9
      have hp : hr_H D A s.heap (hs_Y a z cO pp 0) H _ := hp
      refine lv_lstore_n (lv' := [(1, .long q_69), (4, .int 9), (3, .int 0), (0, .ref (a 0))]) hx hb dX12_digest_72 rfl hl (by decide) rfl (fun ls hl => ?_)
      refine lv_iinc (v := 10) (lv' := [(4, .int 10), (1, .long q_69), (3, .int 0), (0, .ref (a 0))]) hx hb dX12_digest_73 hl (k := 1) rfl (by decide) (by decide) rfl (fun ls hl => ?_)
      refine lv_goto (tgt := 53) hx hb dX12_digest_76 (by decide) ?_
      refine lv_iload hx hb dX12_digest_53 (lv_at hl 0 rfl) ?_
      refine lv_bipush (v := 10) hx hb dX12_digest_55 (by decide) ?_
      refine lv_icmp_ge (tgt := 79) hx hb dX12_digest_57 (by decide) (fun _ => ?_) (fun c9 => absurd c9 (by decide))
      refine lv_lload_n hx hb dX12_digest_79 rfl (lv_at hl 1 rfl) ?_
      refine lv_aload_n hx hb dX12_digest_80 rfl (lv_at hl 3 rfl) ?_
      refine hr_get C0 hp (q0 := 0) (C := RX12) (T := TX12) (N := 4) (ci := 2) rfl rfl hr_uX12 1 (by decide) hw_126 (fun _ h9 => h9) rfl dX12_digest_81 ?_
      refine lv_iload_n hx hb dX12_digest_84 rfl (lv_at hl 2 rfl) ?_
      refine lv_iconst (v := 0) hx hb dX12_digest_85 (by decide) ?_
      refine hs_cVi C0 hKT hp (q0 := 1) (ci := 1) (Cn := RX11) (T := TX11) (N := 5) (rest := [.long q_69]) (n := 2) [] (hs_quality_0 l D a z cO pp 0 0) rfl rfl rfl (hr_gV hw_220 hw_101 hw_102 hw_103 hw_40) ⟨rfl, rfl⟩ (by decide +kernel) ⟨Nat.le_of_ble_eq_true rfl, Nat.le_of_ble_eq_true rfl⟩ ⟨Nat.le_of_ble_eq_true rfl, Nat.le_of_ble_eq_true rfl⟩ hl.1 rfl rfl (Nat.le_of_ble_eq_true rfl) dX12_digest_86 (fun q_86 u_86 H locs hv_86 hz9 hp => ?_)
      have hz := hs_zz hz hz9
      have hp : hr_H D A s.heap (hs_Y a z cO pp 0) H _ := hp
      refine lv_i2l hx hb dX12_digest_89 rfl ?_
      refine hs_cSl C0 hKT hp (rest := []) (n := 2) [] (hs_X12_add l D z _ (hs_Y a z cO pp 0) q_69 (q_86).toInt64) rfl (hr_gS hw_238 hw_239 hw_119 hw_231) ⟨rfl, rfl⟩ (by decide +kernel) ⟨Nat.le_of_ble_eq_true rfl, Nat.le_of_ble_eq_true rfl⟩ ⟨Nat.le_of_ble_eq_true rfl, Nat.le_of_ble_eq_true rfl⟩ hl.1 rfl rfl (Nat.le_of_ble_eq_true rfl) dX12_digest_90 (fun q_90 u_90 H locs hv_90 hz9 hp => ?_)
      have hz := hs_zz hz hz9
      have hp : hr_H D A s.heap (hs_Y a z cO pp 0) H _ := hp
      refine lv_aload_n hx hb dX12_digest_93 rfl (lv_at hl 3 rfl) ?_
      refine hr_get C0 hp (q0 := 0) (C := RX12) (T := TX12) (N := 4) (ci := 2) rfl rfl hr_uX12 1 (by decide) hw_126 (fun _ h9 => h9) rfl dX12_digest_94 ?_
      refine lv_iload_n hx hb dX12_digest_97 rfl (lv_at hl 2 rfl) ?_
      refine lv_bipush (v := 50) hx hb dX12_digest_98 (by decide) ?_
      refine hs_cVi C0 hKT hp (q0 := 1) (ci := 1) (Cn := RX11) (T := TX11) (N := 5) (rest := [.long q_90]) (n := 2) [] (hs_quality_0 l D a z cO pp 0 50) rfl rfl rfl (hr_gV hw_220 hw_101 hw_102 hw_103 hw_40) ⟨rfl, rfl⟩ (by decide +kernel) ⟨Nat.le_of_ble_eq_true rfl, Nat.le_of_ble_eq_true rfl⟩ ⟨Nat.le_of_ble_eq_true rfl, Nat.le_of_ble_eq_true rfl⟩ hl.1 rfl rfl (Nat.le_of_ble_eq_true rfl) dX12_digest_100 (fun q_100 u_100 H locs hv_100 hz9 hp => ?_)
      have hz := hs_zz hz hz9
      have hp : hr_H D A s.heap (hs_Y a z cO pp 0) H _ := hp
      refine lv_i2l hx hb dX12_digest_103 rfl ?_
      refine hs_cSl C0 hKT hp (rest := []) (n := 2) [] (hs_X12_add l D z _ (hs_Y a z cO pp 0) q_90 (q_100).toInt64) rfl (hr_gS hw_238 hw_239 hw_119 hw_231) ⟨rfl, rfl⟩ (by decide +kernel) ⟨Nat.le_of_ble_eq_true rfl, Nat.le_of_ble_eq_true rfl⟩ ⟨Nat.le_of_ble_eq_true rfl, Nat.le_of_ble_eq_true rfl⟩ hl.1 rfl rfl (Nat.le_of_ble_eq_true rfl) dX12_digest_104 (fun q_104 u_104 H locs hv_104 hz9 hp => ?_)
      have hz := hs_zz hz hz9
      have hp : hr_H D A s.heap (hs_Y a z cO pp 0) H _ := hp
      refine lv_lstore_n (lv' := [(1, .long q_104), (4, .int 10), (3, .int 0), (0, .ref (a 0))]) hx hb dX12_digest_107 rfl hl (by decide) rfl (fun ls hl => ?_)
      refine lv_iinc (v := 1) (lv' := [(3, .int 1), (1, .long q_104), (4, .int 10), (0, .ref (a 0))]) hx hb dX12_digest_108 hl (k := 2) rfl (by decide) (by decide) rfl (fun ls hl => ?_)
      refine lv_goto (tgt := 36) hx hb dX12_digest_111 (by decide) ?_
      refine lv_iload_n hx hb dX12_digest_36 rfl (lv_at hl 0 rfl) ?_
      refine lv_aload_n hx hb dX12_digest_37 rfl (lv_at hl 3 rfl) ?_
      refine hr_get C0 hp (q0 := 0) (C := RX12) (T := TX12) (N := 4) (ci := 2) rfl rfl hr_uX12 1 (by decide) hw_126 (fun _ h9 => h9) rfl dX12_digest_38 ?_
      refine hr_get C0 hp (q0 := 1) (C := RX11) (T := TX11) (N := 5) (ci := 1) rfl rfl hr_uX11 0 (by decide) hw_136 (fun _ h9 => h9) rfl dX12_digest_41 ?_
      refine hs_cVi C0 hKT hp (q0 := 2) (ci := 0) (Cn := RJx4a65c) (T := TJx4a65c) (N := 3) (rest := [.int 1]) (n := 0) [] (hs_size_2 l D a z cO pp 0) rfl rfl rfl (hr_gV hw_144 hw_107 hw_108 hw_20 hw_109) ⟨rfl, rfl⟩ (by decide +kernel) ⟨Nat.le_of_ble_eq_true rfl, Nat.le_of_ble_eq_true rfl⟩ ⟨Nat.le_of_ble_eq_true rfl, Nat.le_of_ble_eq_true rfl⟩ hl.1 rfl rfl (Nat.le_of_ble_eq_true rfl) dX12_digest_44 (fun q_44 u_44 H locs hv_44 hz9 hp => ?_)
      have hz := hs_zz hz hz9
      subst hv_44
      have hp : hr_H D A s.heap (hs_Y a z cO pp 0) H _ := hp
      refine lv_icmp_ge (tgt := 114) hx hb dX12_digest_47 (by decide) (fun c9 => absurd c9 (by decide)) (fun _ => ?_)
      refine lv_iconst (v := 0) hx hb dX12_digest_50 (by decide) ?_
      refine lv_istore (lv' := [(4, .int 0), (3, .int 1), (1, .long q_104), (0, .ref (a 0))]) hx hb dX12_digest_51 hl (by decide) rfl (fun ls hl => ?_)
      refine lv_iload hx hb dX12_digest_53 (lv_at hl 0 rfl) ?_
      refine lv_bipush (v := 10) hx hb dX12_digest_55 (by decide) ?_
      refine lv_icmp_ge (tgt := 79) hx hb dX12_digest_57 (by decide) (fun c9 => absurd c9 (by decide)) (fun _ => ?_)
      refine lv_lload_n hx hb dX12_digest_60 rfl (lv_at hl 2 rfl) ?_
      refine lv_aload_n hx hb dX12_digest_61 rfl (lv_at hl 3 rfl) ?_
      refine lv_iload_n hx hb dX12_digest_62 rfl (lv_at hl 1 rfl) ?_
      refine lv_iload hx hb dX12_digest_63 (lv_at hl 0 rfl) ?_
      refine hs_cVi C0 hKT hp (q0 := 0) (ci := 2) (Cn := RX12) (T := TX12) (N := 4) (rest := [.long q_104]) (n := 2) [] (hs_told_1 l D a z cO pp 0 0 (by unfold vp_in; decide)) rfl rfl rfl (hr_gV hw_240 hw_241 hw_242 hw_119 hw_175) ⟨rfl, rfl⟩ (by decide +kernel) ⟨Nat.le_of_ble_eq_true rfl, Nat.le_of_ble_eq_true rfl⟩ ⟨Nat.le_of_ble_eq_true rfl, Nat.le_of_ble_eq_true rfl⟩ hl.1 rfl rfl (Nat.le_of_ble_eq_true rfl) dX12_digest_65 (fun q_65 u_65 H locs hv_65 hz9 hp => ?_)
      have hz := hs_zz hz hz9
      have hp : hr_H D A s.heap (hs_Y a z cO pp 0) H _ := hp
      refine lv_i2l hx hb dX12_digest_68 rfl ?_
      refine hs_cSl C0 hKT hp (rest := []) (n := 2) [] (hs_X12_add l D z _ (hs_Y a z cO pp 0) q_104 (q_65).toInt64) rfl (hr_gS hw_238 hw_239 hw_119 hw_231) ⟨rfl, rfl⟩ (by decide +kernel) ⟨Nat.le_of_ble_eq_true rfl, Nat.le_of_ble_eq_true rfl⟩ ⟨Nat.le_of_ble_eq_true rfl, Nat.le_of_ble_eq_true rfl⟩ hl.1 rfl rfl (Nat.le_of_ble_eq_true rfl) dX12_digest_69 (fun q_69 u_69 H locs hv_69 hz9 hp => ?_)
      have hz := hs_zz hz hz9
      have hp : hr_H D A s.heap (hs_Y a z cO pp 0) H _ := hp
      refine lv_lstore_n (lv' := [(1, .long q_69), (4, .int 0), (3, .int 1), (0, .ref (a 0))]) hx hb dX12_digest_72 rfl hl (by decide) rfl (fun ls hl => ?_)
      refine lv_iinc (v := 1) (lv' := [(4, .int 1), (1, .long q_69), (3, .int 1), (0, .ref (a 0))]) hx hb dX12_digest_73 hl (k := 1) rfl (by decide) (by decide) rfl (fun ls hl => ?_)
      refine lv_goto (tgt := 53) hx hb dX12_digest_76 (by decide) ?_
      refine lv_iload hx hb dX12_digest_53 (lv_at hl 0 rfl) ?_
      refine lv_bipush (v := 10) hx hb dX12_digest_55 (by decide) ?_
      refine lv_icmp_ge (tgt := 79) hx hb dX12_digest_57 (by decide) (fun c9 => absurd c9 (by decide)) (fun _ => ?_)
      refine lv_lload_n hx hb dX12_digest_60 rfl (lv_at hl 1 rfl) ?_
      refine lv_aload_n hx hb dX12_digest_61 rfl (lv_at hl 3 rfl) ?_
      refine lv_iload_n hx hb dX12_digest_62 rfl (lv_at hl 2 rfl) ?_
      refine lv_iload hx hb dX12_digest_63 (lv_at hl 0 rfl) ?_
      refine hs_cVi C0 hKT hp (q0 := 0) (ci := 2) (Cn := RX12) (T := TX12) (N := 4) (rest := [.long q_69]) (n := 2) [] (hs_told_1 l D a z cO pp 0 1 (by unfold vp_in; decide)) rfl rfl rfl (hr_gV hw_240 hw_241 hw_242 hw_119 hw_175) ⟨rfl, rfl⟩ (by decide +kernel) ⟨Nat.le_of_ble_eq_true rfl, Nat.le_of_ble_eq_true rfl⟩ ⟨Nat.le_of_ble_eq_true rfl, Nat.le_of_ble_eq_true rfl⟩ hl.1 rfl rfl (Nat.le_of_ble_eq_true rfl) dX12_digest_65 (fun q_65 u_65 H locs hv_65 hz9 hp => ?_)
      have hz := hs_zz hz hz9
      have hp : hr_H D A s.heap (hs_Y a z cO pp 0) H _ := hp
      refine lv_i2l hx hb dX12_digest_68 rfl ?_
      refine hs_cSl C0 hKT hp (rest := []) (n := 2) [] (hs_X12_add l D z _ (hs_Y a z cO pp 0) q_69 (q_65).toInt64) rfl (hr_gS hw_238 hw_239 hw_119 hw_231) ⟨rfl, rfl⟩ (by decide +kernel) ⟨Nat.le_of_ble_eq_true rfl, Nat.le_of_ble_eq_true rfl⟩ ⟨Nat.le_of_ble_eq_true rfl, Nat.le_of_ble_eq_true rfl⟩ hl.1 rfl rfl (Nat.le_of_ble_eq_true rfl) dX12_digest_69 (fun q_69 u_69 H locs hv_69 hz9 hp => ?_)
      have hz := hs_zz hz hz9
      have hp : hr_H D A s.heap (hs_Y a z cO pp 0) H _ := hp
      refine lv_lstore_n (lv' := [(1, .long q_69), (4, .int 1), (3, .int 1), (0, .ref (a 0))]) hx hb dX12_digest_72 rfl hl (by decide) rfl (fun ls hl => ?_)
      refine lv_iinc (v := 2) (lv' := [(4, .int 2), (1, .long q_69), (3, .int 1), (0, .ref (a 0))]) hx hb dX12_digest_73 hl (k := 1) rfl (by decide) (by decide) rfl (fun ls hl => ?_)
      refine lv_goto (tgt := 53) hx hb dX12_digest_76 (by decide) ?_
      refine lv_iload hx hb dX12_digest_53 (lv_at hl 0 rfl) ?_
      refine lv_bipush (v := 10) hx hb dX12_digest_55 (by decide) ?_
      refine lv_icmp_ge (tgt := 79) hx hb dX12_digest_57 (by decide) (fun c9 => absurd c9 (by decide)) (fun _ => ?_)
      refine lv_lload_n hx hb dX12_digest_60 rfl (lv_at hl 1 rfl) ?_
      refine lv_aload_n hx hb dX12_digest_61 rfl (lv_at hl 3 rfl) ?_
      refine lv_iload_n hx hb dX12_digest_62 rfl (lv_at hl 2 rfl) ?_
      refine lv_iload hx hb dX12_digest_63 (lv_at hl 0 rfl) ?_
      refine hs_cVi C0 hKT hp (q0 := 0) (ci := 2) (Cn := RX12) (T := TX12) (N := 4) (rest := [.long q_69]) (n := 2) [] (hs_told_1 l D a z cO pp 0 2 (by unfold vp_in; decide)) rfl rfl rfl (hr_gV hw_240 hw_241 hw_242 hw_119 hw_175) ⟨rfl, rfl⟩ (by decide +kernel) ⟨Nat.le_of_ble_eq_true rfl, Nat.le_of_ble_eq_true rfl⟩ ⟨Nat.le_of_ble_eq_true rfl, Nat.le_of_ble_eq_true rfl⟩ hl.1 rfl rfl (Nat.le_of_ble_eq_true rfl) dX12_digest_65 (fun q_65 u_65 H locs hv_65 hz9 hp => ?_)
      have hz := hs_zz hz hz9
      have hp : hr_H D A s.heap (hs_Y a z cO pp 0) H _ := hp
      refine lv_i2l hx hb dX12_digest_68 rfl ?_
      refine hs_cSl C0 hKT hp (rest := []) (n := 2) [] (hs_X12_add l D z _ (hs_Y a z cO pp 0) q_69 (q_65).toInt64) rfl (hr_gS hw_238 hw_239 hw_119 hw_231) ⟨rfl, rfl⟩ (by decide +kernel) ⟨Nat.le_of_ble_eq_true rfl, Nat.le_of_ble_eq_true rfl⟩ ⟨Nat.le_of_ble_eq_true rfl, Nat.le_of_ble_eq_true rfl⟩ hl.1 rfl rfl (Nat.le_of_ble_eq_true rfl) dX12_digest_69 (fun q_69 u_69 H locs hv_69 hz9 hp => ?_)
      have hz := hs_zz hz hz9
      have hp : hr_H D A s.heap (hs_Y a z cO pp 0) H _ := hp
      refine lv_lstore_n (lv' := [(1, .long q_69), (4, .int 2), (3, .int 1), (0, .ref (a 0))]) hx hb dX12_digest_72 rfl hl (by decide) rfl (fun ls hl => ?_)
      refine lv_iinc (v := 3) (lv' := [(4, .int 3), (1, .long q_69), (3, .int 1), (0, .ref (a 0))]) hx hb dX12_digest_73 hl (k := 1) rfl (by decide) (by decide) rfl (fun ls hl => ?_)
      refine lv_goto (tgt := 53) hx hb dX12_digest_76 (by decide) ?_
      refine lv_iload hx hb dX12_digest_53 (lv_at hl 0 rfl) ?_
      refine lv_bipush (v := 10) hx hb dX12_digest_55 (by decide) ?_
      refine lv_icmp_ge (tgt := 79) hx hb dX12_digest_57 (by decide) (fun c9 => absurd c9 (by decide)) (fun _ => ?_)
      refine lv_lload_n hx hb dX12_digest_60 rfl (lv_at hl 1 rfl) ?_
      refine lv_aload_n hx hb dX12_digest_61 rfl (lv_at hl 3 rfl) ?_
      refine lv_iload_n hx hb dX12_digest_62 rfl (lv_at hl 2 rfl) ?_
      refine lv_iload hx hb dX12_digest_63 (lv_at hl 0 rfl) ?_
      refine hs_cVi C0 hKT hp (q0 := 0) (ci := 2) (Cn := RX12) (T := TX12) (N := 4) (rest := [.long q_69]) (n := 2) [] (hs_told_1 l D a z cO pp 0 3 (by unfold vp_in; decide)) rfl rfl rfl (hr_gV hw_240 hw_241 hw_242 hw_119 hw_175) ⟨rfl, rfl⟩ (by decide +kernel) ⟨Nat.le_of_ble_eq_true rfl, Nat.le_of_ble_eq_true rfl⟩ ⟨Nat.le_of_ble_eq_true rfl, Nat.le_of_ble_eq_true rfl⟩ hl.1 rfl rfl (Nat.le_of_ble_eq_true rfl) dX12_digest_65 (fun q_65 u_65 H locs hv_65 hz9 hp => ?_)
      have hz := hs_zz hz hz9
      have hp : hr_H D A s.heap (hs_Y a z cO pp 0) H _ := hp
      refine lv_i2l hx hb dX12_digest_68 rfl ?_
      refine hs_cSl C0 hKT hp (rest := []) (n := 2) [] (hs_X12_add l D z _ (hs_Y a z cO pp 0) q_69 (q_65).toInt64) rfl (hr_gS hw_238 hw_239 hw_119 hw_231) ⟨rfl, rfl⟩ (by decide +kernel) ⟨Nat.le_of_ble_eq_true rfl, Nat.le_of_ble_eq_true rfl⟩ ⟨Nat.le_of_ble_eq_true rfl, Nat.le_of_ble_eq_true rfl⟩ hl.1 rfl rfl (Nat.le_of_ble_eq_true rfl) dX12_digest_69 (fun q_69 u_69 H locs hv_69 hz9 hp => ?_)
      have hz := hs_zz hz hz9
      have hp : hr_H D A s.heap (hs_Y a z cO pp 0) H _ := hp
      refine lv_lstore_n (lv' := [(1, .long q_69), (4, .int 3), (3, .int 1), (0, .ref (a 0))]) hx hb dX12_digest_72 rfl hl (by decide) rfl (fun ls hl => ?_)
      refine lv_iinc (v := 4) (lv' := [(4, .int 4), (1, .long q_69), (3, .int 1), (0, .ref (a 0))]) hx hb dX12_digest_73 hl (k := 1) rfl (by decide) (by decide) rfl (fun ls hl => ?_)
      refine lv_goto (tgt := 53) hx hb dX12_digest_76 (by decide) ?_
      refine lv_iload hx hb dX12_digest_53 (lv_at hl 0 rfl) ?_
      refine lv_bipush (v := 10) hx hb dX12_digest_55 (by decide) ?_
      refine lv_icmp_ge (tgt := 79) hx hb dX12_digest_57 (by decide) (fun c9 => absurd c9 (by decide)) (fun _ => ?_)
      refine lv_lload_n hx hb dX12_digest_60 rfl (lv_at hl 1 rfl) ?_
      refine lv_aload_n hx hb dX12_digest_61 rfl (lv_at hl 3 rfl) ?_
      refine lv_iload_n hx hb dX12_digest_62 rfl (lv_at hl 2 rfl) ?_
      refine lv_iload hx hb dX12_digest_63 (lv_at hl 0 rfl) ?_
      refine hs_cVi C0 hKT hp (q0 := 0) (ci := 2) (Cn := RX12) (T := TX12) (N := 4) (rest := [.long q_69]) (n := 2) [] (hs_told_1 l D a z cO pp 0 4 (by unfold vp_in; decide)) rfl rfl rfl (hr_gV hw_240 hw_241 hw_242 hw_119 hw_175) ⟨rfl, rfl⟩ (by decide +kernel) ⟨Nat.le_of_ble_eq_true rfl, Nat.le_of_ble_eq_true rfl⟩ ⟨Nat.le_of_ble_eq_true rfl, Nat.le_of_ble_eq_true rfl⟩ hl.1 rfl rfl (Nat.le_of_ble_eq_true rfl) dX12_digest_65 (fun q_65 u_65 H locs hv_65 hz9 hp => ?_)
      have hz := hs_zz hz hz9
      have hp : hr_H D A s.heap (hs_Y a z cO pp 0) H _ := hp
      refine lv_i2l hx hb dX12_digest_68 rfl ?_
      refine hs_cSl C0 hKT hp (rest := []) (n := 2) [] (hs_X12_add l D z _ (hs_Y a z cO pp 0) q_69 (q_65).toInt64) rfl (hr_gS hw_238 hw_239 hw_119 hw_231) ⟨rfl, rfl⟩ (by decide +kernel) ⟨Nat.le_of_ble_eq_true rfl, Nat.le_of_ble_eq_true rfl⟩ ⟨Nat.le_of_ble_eq_true rfl, Nat.le_of_ble_eq_true rfl⟩ hl.1 rfl rfl (Nat.le_of_ble_eq_true rfl) dX12_digest_69 (fun q_69 u_69 H locs hv_69 hz9 hp => ?_)
      have hz := hs_zz hz hz9
      have hp : hr_H D A s.heap (hs_Y a z cO pp 0) H _ := hp
      refine lv_lstore_n (lv' := [(1, .long q_69), (4, .int 4), (3, .int 1), (0, .ref (a 0))]) hx hb dX12_digest_72 rfl hl (by decide) rfl (fun ls hl => ?_)
      refine lv_iinc (v := 5) (lv' := [(4, .int 5), (1, .long q_69), (3, .int 1), (0, .ref (a 0))]) hx hb dX12_digest_73 hl (k := 1) rfl (by decide) (by decide) rfl (fun ls hl => ?_)
      refine lv_goto (tgt := 53) hx hb dX12_digest_76 (by decide) ?_
      refine lv_iload hx hb dX12_digest_53 (lv_at hl 0 rfl) ?_
      refine lv_bipush (v := 10) hx hb dX12_digest_55 (by decide) ?_
      refine lv_icmp_ge (tgt := 79) hx hb dX12_digest_57 (by decide) (fun c9 => absurd c9 (by decide)) (fun _ => ?_)
      refine lv_lload_n hx hb dX12_digest_60 rfl (lv_at hl 1 rfl) ?_
      refine lv_aload_n hx hb dX12_digest_61 rfl (lv_at hl 3 rfl) ?_
      refine lv_iload_n hx hb dX12_digest_62 rfl (lv_at hl 2 rfl) ?_
      refine lv_iload hx hb dX12_digest_63 (lv_at hl 0 rfl) ?_
      refine hs_cVi C0 hKT hp (q0 := 0) (ci := 2) (Cn := RX12) (T := TX12) (N := 4) (rest := [.long q_69]) (n := 2) [] (hs_told_1 l D a z cO pp 0 5 (by unfold vp_in; decide)) rfl rfl rfl (hr_gV hw_240 hw_241 hw_242 hw_119 hw_175) ⟨rfl, rfl⟩ (by decide +kernel) ⟨Nat.le_of_ble_eq_true rfl, Nat.le_of_ble_eq_true rfl⟩ ⟨Nat.le_of_ble_eq_true rfl, Nat.le_of_ble_eq_true rfl⟩ hl.1 rfl rfl (Nat.le_of_ble_eq_true rfl) dX12_digest_65 (fun q_65 u_65 H locs hv_65 hz9 hp => ?_)
      have hz := hs_zz hz hz9
      have hp : hr_H D A s.heap (hs_Y a z cO pp 0) H _ := hp
      refine lv_i2l hx hb dX12_digest_68 rfl ?_
      refine hs_cSl C0 hKT hp (rest := []) (n := 2) [] (hs_X12_add l D z _ (hs_Y a z cO pp 0) q_69 (q_65).toInt64) rfl (hr_gS hw_238 hw_239 hw_119 hw_231) ⟨rfl, rfl⟩ (by decide +kernel) ⟨Nat.le_of_ble_eq_true rfl, Nat.le_of_ble_eq_true rfl⟩ ⟨Nat.le_of_ble_eq_true rfl, Nat.le_of_ble_eq_true rfl⟩ hl.1 rfl rfl (Nat.le_of_ble_eq_true rfl) dX12_digest_69 (fun q_69 u_69 H locs hv_69 hz9 hp => ?_)
      have hz := hs_zz hz hz9
      have hp : hr_H D A s.heap (hs_Y a z cO pp 0) H _ := hp
      refine lv_lstore_n (lv' := [(1, .long q_69), (4, .int 5), (3, .int 1), (0, .ref (a 0))]) hx hb dX12_digest_72 rfl hl (by decide) rfl (fun ls hl => ?_)
      refine lv_iinc (v := 6) (lv' := [(4, .int 6), (1, .long q_69), (3, .int 1), (0, .ref (a 0))]) hx hb dX12_digest_73 hl (k := 1) rfl (by decide) (by decide) rfl (fun ls hl => ?_)
      refine lv_goto (tgt := 53) hx hb dX12_digest_76 (by decide) ?_
      refine lv_iload hx hb dX12_digest_53 (lv_at hl 0 rfl) ?_
      refine lv_bipush (v := 10) hx hb dX12_digest_55 (by decide) ?_
      refine lv_icmp_ge (tgt := 79) hx hb dX12_digest_57 (by decide) (fun c9 => absurd c9 (by decide)) (fun _ => ?_)
      refine lv_lload_n hx hb dX12_digest_60 rfl (lv_at hl 1 rfl) ?_
      refine lv_aload_n hx hb dX12_digest_61 rfl (lv_at hl 3 rfl) ?_
      refine lv_iload_n hx hb dX12_digest_62 rfl (lv_at hl 2 rfl) ?_
      refine lv_iload hx hb dX12_digest_63 (lv_at hl 0 rfl) ?_
      refine hs_cVi C0 hKT hp (q0 := 0) (ci := 2) (Cn := RX12) (T := TX12) (N := 4) (rest := [.long q_69]) (n := 2) [] (hs_told_1 l D a z cO pp 0 6 (by unfold vp_in; decide)) rfl rfl rfl (hr_gV hw_240 hw_241 hw_242 hw_119 hw_175) ⟨rfl, rfl⟩ (by decide +kernel) ⟨Nat.le_of_ble_eq_true rfl, Nat.le_of_ble_eq_true rfl⟩ ⟨Nat.le_of_ble_eq_true rfl, Nat.le_of_ble_eq_true rfl⟩ hl.1 rfl rfl (Nat.le_of_ble_eq_true rfl) dX12_digest_65 (fun q_65 u_65 H locs hv_65 hz9 hp => ?_)
      have hz := hs_zz hz hz9
      have hp : hr_H D A s.heap (hs_Y a z cO pp 0) H _ := hp
      refine lv_i2l hx hb dX12_digest_68 rfl ?_
      refine hs_cSl C0 hKT hp (rest := []) (n := 2) [] (hs_X12_add l D z _ (hs_Y a z cO pp 0) q_69 (q_65).toInt64) rfl (hr_gS hw_238 hw_239 hw_119 hw_231) ⟨rfl, rfl⟩ (by decide +kernel) ⟨Nat.le_of_ble_eq_true rfl, Nat.le_of_ble_eq_true rfl⟩ ⟨Nat.le_of_ble_eq_true rfl, Nat.le_of_ble_eq_true rfl⟩ hl.1 rfl rfl (Nat.le_of_ble_eq_true rfl) dX12_digest_69 (fun q_69 u_69 H locs hv_69 hz9 hp => ?_)
      have hz := hs_zz hz hz9
      have hp : hr_H D A s.heap (hs_Y a z cO pp 0) H _ := hp
      refine lv_lstore_n (lv' := [(1, .long q_69), (4, .int 6), (3, .int 1), (0, .ref (a 0))]) hx hb dX12_digest_72 rfl hl (by decide) rfl (fun ls hl => ?_)
      refine lv_iinc (v := 7) (lv' := [(4, .int 7), (1, .long q_69), (3, .int 1), (0, .ref (a 0))]) hx hb dX12_digest_73 hl (k := 1) rfl (by decide) (by decide) rfl (fun ls hl => ?_)
      refine lv_goto (tgt := 53) hx hb dX12_digest_76 (by decide) ?_
      refine lv_iload hx hb dX12_digest_53 (lv_at hl 0 rfl) ?_
      refine lv_bipush (v := 10) hx hb dX12_digest_55 (by decide) ?_
      refine lv_icmp_ge (tgt := 79) hx hb dX12_digest_57 (by decide) (fun c9 => absurd c9 (by decide)) (fun _ => ?_)
      refine lv_lload_n hx hb dX12_digest_60 rfl (lv_at hl 1 rfl) ?_
      refine lv_aload_n hx hb dX12_digest_61 rfl (lv_at hl 3 rfl) ?_
      refine lv_iload_n hx hb dX12_digest_62 rfl (lv_at hl 2 rfl) ?_
      refine lv_iload hx hb dX12_digest_63 (lv_at hl 0 rfl) ?_
      refine hs_cVi C0 hKT hp (q0 := 0) (ci := 2) (Cn := RX12) (T := TX12) (N := 4) (rest := [.long q_69]) (n := 2) [] (hs_told_1 l D a z cO pp 0 7 (by unfold vp_in; decide)) rfl rfl rfl (hr_gV hw_240 hw_241 hw_242 hw_119 hw_175) ⟨rfl, rfl⟩ (by decide +kernel) ⟨Nat.le_of_ble_eq_true rfl, Nat.le_of_ble_eq_true rfl⟩ ⟨Nat.le_of_ble_eq_true rfl, Nat.le_of_ble_eq_true rfl⟩ hl.1 rfl rfl (Nat.le_of_ble_eq_true rfl) dX12_digest_65 (fun q_65 u_65 H locs hv_65 hz9 hp => ?_)
      have hz := hs_zz hz hz9
      have hp : hr_H D A s.heap (hs_Y a z cO pp 0) H _ := hp
      refine lv_i2l hx hb dX12_digest_68 rfl ?_
      refine hs_cSl C0 hKT hp (rest := []) (n := 2) [] (hs_X12_add l D z _ (hs_Y a z cO pp 0) q_69 (q_65).toInt64) rfl (hr_gS hw_238 hw_239 hw_119 hw_231) ⟨rfl, rfl⟩ (by decide +kernel) ⟨Nat.le_of_ble_eq_true rfl, Nat.le_of_ble_eq_true rfl⟩ ⟨Nat.le_of_ble_eq_true rfl, Nat.le_of_ble_eq_true rfl⟩ hl.1 rfl rfl (Nat.le_of_ble_eq_true rfl) dX12_digest_69 (fun q_69 u_69 H locs hv_69 hz9 hp => ?_)
      have hz := hs_zz hz hz9
      have hp : hr_H D A s.heap (hs_Y a z cO pp 0) H _ := hp
      refine lv_lstore_n (lv' := [(1, .long q_69), (4, .int 7), (3, .int 1), (0, .ref (a 0))]) hx hb dX12_digest_72 rfl hl (by decide) rfl (fun ls hl => ?_)
      refine lv_iinc (v := 8) (lv' := [(4, .int 8), (1, .long q_69), (3, .int 1), (0, .ref (a 0))]) hx hb dX12_digest_73 hl (k := 1) rfl (by decide) (by decide) rfl (fun ls hl => ?_)
      refine lv_goto (tgt := 53) hx hb dX12_digest_76 (by decide) ?_
      refine lv_iload hx hb dX12_digest_53 (lv_at hl 0 rfl) ?_
      refine lv_bipush (v := 10) hx hb dX12_digest_55 (by decide) ?_
      refine lv_icmp_ge (tgt := 79) hx hb dX12_digest_57 (by decide) (fun c9 => absurd c9 (by decide)) (fun _ => ?_)
      refine lv_lload_n hx hb dX12_digest_60 rfl (lv_at hl 1 rfl) ?_
      refine lv_aload_n hx hb dX12_digest_61 rfl (lv_at hl 3 rfl) ?_
      refine lv_iload_n hx hb dX12_digest_62 rfl (lv_at hl 2 rfl) ?_
      refine lv_iload hx hb dX12_digest_63 (lv_at hl 0 rfl) ?_
      refine hs_cVi C0 hKT hp (q0 := 0) (ci := 2) (Cn := RX12) (T := TX12) (N := 4) (rest := [.long q_69]) (n := 2) [] (hs_told_1 l D a z cO pp 0 8 (by unfold vp_in; decide)) rfl rfl rfl (hr_gV hw_240 hw_241 hw_242 hw_119 hw_175) ⟨rfl, rfl⟩ (by decide +kernel) ⟨Nat.le_of_ble_eq_true rfl, Nat.le_of_ble_eq_true rfl⟩ ⟨Nat.le_of_ble_eq_true rfl, Nat.le_of_ble_eq_true rfl⟩ hl.1 rfl rfl (Nat.le_of_ble_eq_true rfl) dX12_digest_65 (fun q_65 u_65 H locs hv_65 hz9 hp => ?_)
      have hz := hs_zz hz hz9
      have hp : hr_H D A s.heap (hs_Y a z cO pp 0) H _ := hp
      refine lv_i2l hx hb dX12_digest_68 rfl ?_
      refine hs_cSl C0 hKT hp (rest := []) (n := 2) [] (hs_X12_add l D z _ (hs_Y a z cO pp 0) q_69 (q_65).toInt64) rfl (hr_gS hw_238 hw_239 hw_119 hw_231) ⟨rfl, rfl⟩ (by decide +kernel) ⟨Nat.le_of_ble_eq_true rfl, Nat.le_of_ble_eq_true rfl⟩ ⟨Nat.le_of_ble_eq_true rfl, Nat.le_of_ble_eq_true rfl⟩ hl.1 rfl rfl (Nat.le_of_ble_eq_true rfl) dX12_digest_69 (fun q_69 u_69 H locs hv_69 hz9 hp => ?_)
      have hz := hs_zz hz hz9
      have hp : hr_H D A s.heap (hs_Y a z cO pp 0) H _ := hp
      refine lv_lstore_n (lv' := [(1, .long q_69), (4, .int 8), (3, .int 1), (0, .ref (a 0))]) hx hb dX12_digest_72 rfl hl (by decide) rfl (fun ls hl => ?_)
      refine lv_iinc (v := 9) (lv' := [(4, .int 9), (1, .long q_69), (3, .int 1), (0, .ref (a 0))]) hx hb dX12_digest_73 hl (k := 1) rfl (by decide) (by decide) rfl (fun ls hl => ?_)
      refine lv_goto (tgt := 53) hx hb dX12_digest_76 (by decide) ?_
      refine lv_iload hx hb dX12_digest_53 (lv_at hl 0 rfl) ?_
      refine lv_bipush (v := 10) hx hb dX12_digest_55 (by decide) ?_
      refine lv_icmp_ge (tgt := 79) hx hb dX12_digest_57 (by decide) (fun c9 => absurd c9 (by decide)) (fun _ => ?_)
      refine lv_lload_n hx hb dX12_digest_60 rfl (lv_at hl 1 rfl) ?_
      refine lv_aload_n hx hb dX12_digest_61 rfl (lv_at hl 3 rfl) ?_
      refine lv_iload_n hx hb dX12_digest_62 rfl (lv_at hl 2 rfl) ?_
      refine lv_iload hx hb dX12_digest_63 (lv_at hl 0 rfl) ?_
      refine hs_cVi C0 hKT hp (q0 := 0) (ci := 2) (Cn := RX12) (T := TX12) (N := 4) (rest := [.long q_69]) (n := 2) [] (hs_told_1 l D a z cO pp 0 9 (by unfold vp_in; decide)) rfl rfl rfl (hr_gV hw_240 hw_241 hw_242 hw_119 hw_175) ⟨rfl, rfl⟩ (by decide +kernel) ⟨Nat.le_of_ble_eq_true rfl, Nat.le_of_ble_eq_true rfl⟩ ⟨Nat.le_of_ble_eq_true rfl, Nat.le_of_ble_eq_true rfl⟩ hl.1 rfl rfl (Nat.le_of_ble_eq_true rfl) dX12_digest_65 (fun q_65 u_65 H locs hv_65 hz9 hp => ?_)
      have hz := hs_zz hz hz9
      have hp : hr_H D A s.heap (hs_Y a z cO pp 0) H _ := hp
      refine lv_i2l hx hb dX12_digest_68 rfl ?_
      refine hs_cSl C0 hKT hp (rest := []) (n := 2) [] (hs_X12_add l D z _ (hs_Y a z cO pp 0) q_69 (q_65).toInt64) rfl (hr_gS hw_238 hw_239 hw_119 hw_231) ⟨rfl, rfl⟩ (by decide +kernel) ⟨Nat.le_of_ble_eq_true rfl, Nat.le_of_ble_eq_true rfl⟩ ⟨Nat.le_of_ble_eq_true rfl, Nat.le_of_ble_eq_true rfl⟩ hl.1 rfl rfl (Nat.le_of_ble_eq_true rfl) dX12_digest_69 (fun q_69 u_69 H locs hv_69 hz9 hp => ?_)
      have hz := hs_zz hz hz9
      have hp : hr_H D A s.heap (hs_Y a z cO pp 0) H _ := hp
      refine lv_lstore_n (lv' := [(1, .long q_69), (4, .int 9), (3, .int 1), (0, .ref (a 0))]) hx hb dX12_digest_72 rfl hl (by decide) rfl (fun ls hl => ?_)
      refine lv_iinc (v := 10) (lv' := [(4, .int 10), (1, .long q_69), (3, .int 1), (0, .ref (a 0))]) hx hb dX12_digest_73 hl (k := 1) rfl (by decide) (by decide) rfl (fun ls hl => ?_)
      refine lv_goto (tgt := 53) hx hb dX12_digest_76 (by decide) ?_
      refine lv_iload hx hb dX12_digest_53 (lv_at hl 0 rfl) ?_
      refine lv_bipush (v := 10) hx hb dX12_digest_55 (by decide) ?_
      refine lv_icmp_ge (tgt := 79) hx hb dX12_digest_57 (by decide) (fun _ => ?_) (fun c9 => absurd c9 (by decide))
      refine lv_lload_n hx hb dX12_digest_79 rfl (lv_at hl 1 rfl) ?_
      refine lv_aload_n hx hb dX12_digest_80 rfl (lv_at hl 3 rfl) ?_
      refine hr_get C0 hp (q0 := 0) (C := RX12) (T := TX12) (N := 4) (ci := 2) rfl rfl hr_uX12 1 (by decide) hw_126 (fun _ h9 => h9) rfl dX12_digest_81 ?_
      refine lv_iload_n hx hb dX12_digest_84 rfl (lv_at hl 2 rfl) ?_
      refine lv_iconst (v := 0) hx hb dX12_digest_85 (by decide) ?_
      refine hs_cVi C0 hKT hp (q0 := 1) (ci := 1) (Cn := RX11) (T := TX11) (N := 5) (rest := [.long q_69]) (n := 2) [] (hs_quality_1 l D a z cO pp 0 0) rfl rfl rfl (hr_gV hw_220 hw_101 hw_102 hw_103 hw_40) ⟨rfl, rfl⟩ (by decide +kernel) ⟨Nat.le_of_ble_eq_true rfl, Nat.le_of_ble_eq_true rfl⟩ ⟨Nat.le_of_ble_eq_true rfl, Nat.le_of_ble_eq_true rfl⟩ hl.1 rfl rfl (Nat.le_of_ble_eq_true rfl) dX12_digest_86 (fun q_86 u_86 H locs hv_86 hz9 hp => ?_)
      have hz := hs_zz hz hz9
      have hp : hr_H D A s.heap (hs_Y a z cO pp 0) H _ := hp
      refine lv_i2l hx hb dX12_digest_89 rfl ?_
      refine hs_cSl C0 hKT hp (rest := []) (n := 2) [] (hs_X12_add l D z _ (hs_Y a z cO pp 0) q_69 (q_86).toInt64) rfl (hr_gS hw_238 hw_239 hw_119 hw_231) ⟨rfl, rfl⟩ (by decide +kernel) ⟨Nat.le_of_ble_eq_true rfl, Nat.le_of_ble_eq_true rfl⟩ ⟨Nat.le_of_ble_eq_true rfl, Nat.le_of_ble_eq_true rfl⟩ hl.1 rfl rfl (Nat.le_of_ble_eq_true rfl) dX12_digest_90 (fun q_90 u_90 H locs hv_90 hz9 hp => ?_)
      have hz := hs_zz hz hz9
      have hp : hr_H D A s.heap (hs_Y a z cO pp 0) H _ := hp
      refine lv_aload_n hx hb dX12_digest_93 rfl (lv_at hl 3 rfl) ?_
      refine hr_get C0 hp (q0 := 0) (C := RX12) (T := TX12) (N := 4) (ci := 2) rfl rfl hr_uX12 1 (by decide) hw_126 (fun _ h9 => h9) rfl dX12_digest_94 ?_
      refine lv_iload_n hx hb dX12_digest_97 rfl (lv_at hl 2 rfl) ?_
      refine lv_bipush (v := 50) hx hb dX12_digest_98 (by decide) ?_
      refine hs_cVi C0 hKT hp (q0 := 1) (ci := 1) (Cn := RX11) (T := TX11) (N := 5) (rest := [.long q_90]) (n := 2) [] (hs_quality_1 l D a z cO pp 0 50) rfl rfl rfl (hr_gV hw_220 hw_101 hw_102 hw_103 hw_40) ⟨rfl, rfl⟩ (by decide +kernel) ⟨Nat.le_of_ble_eq_true rfl, Nat.le_of_ble_eq_true rfl⟩ ⟨Nat.le_of_ble_eq_true rfl, Nat.le_of_ble_eq_true rfl⟩ hl.1 rfl rfl (Nat.le_of_ble_eq_true rfl) dX12_digest_100 (fun q_100 u_100 H locs hv_100 hz9 hp => ?_)
      have hz := hs_zz hz hz9
      have hp : hr_H D A s.heap (hs_Y a z cO pp 0) H _ := hp
      refine lv_i2l hx hb dX12_digest_103 rfl ?_
      refine hs_cSl C0 hKT hp (rest := []) (n := 2) [] (hs_X12_add l D z _ (hs_Y a z cO pp 0) q_90 (q_100).toInt64) rfl (hr_gS hw_238 hw_239 hw_119 hw_231) ⟨rfl, rfl⟩ (by decide +kernel) ⟨Nat.le_of_ble_eq_true rfl, Nat.le_of_ble_eq_true rfl⟩ ⟨Nat.le_of_ble_eq_true rfl, Nat.le_of_ble_eq_true rfl⟩ hl.1 rfl rfl (Nat.le_of_ble_eq_true rfl) dX12_digest_104 (fun q_104 u_104 H locs hv_104 hz9 hp => ?_)
      have hz := hs_zz hz hz9
      have hp : hr_H D A s.heap (hs_Y a z cO pp 0) H _ := hp
      refine lv_lstore_n (lv' := [(1, .long q_104), (4, .int 10), (3, .int 1), (0, .ref (a 0))]) hx hb dX12_digest_107 rfl hl (by decide) rfl (fun ls hl => ?_)
      refine lv_iinc (v := 2) (lv' := [(3, .int 2), (1, .long q_104), (4, .int 10), (0, .ref (a 0))]) hx hb dX12_digest_108 hl (k := 2) rfl (by decide) (by decide) rfl (fun ls hl => ?_)
      refine lv_goto (tgt := 36) hx hb dX12_digest_111 (by decide) ?_
      refine lv_iload_n hx hb dX12_digest_36 rfl (lv_at hl 0 rfl) ?_
      refine lv_aload_n hx hb dX12_digest_37 rfl (lv_at hl 3 rfl) ?_
      refine hr_get C0 hp (q0 := 0) (C := RX12) (T := TX12) (N := 4) (ci := 2) rfl rfl hr_uX12 1 (by decide) hw_126 (fun _ h9 => h9) rfl dX12_digest_38 ?_
      refine hr_get C0 hp (q0 := 1) (C := RX11) (T := TX11) (N := 5) (ci := 1) rfl rfl hr_uX11 0 (by decide) hw_136 (fun _ h9 => h9) rfl dX12_digest_41 ?_
      refine hs_cVi C0 hKT hp (q0 := 2) (ci := 0) (Cn := RJx4a65c) (T := TJx4a65c) (N := 3) (rest := [.int 2]) (n := 0) [] (hs_size_2 l D a z cO pp 0) rfl rfl rfl (hr_gV hw_144 hw_107 hw_108 hw_20 hw_109) ⟨rfl, rfl⟩ (by decide +kernel) ⟨Nat.le_of_ble_eq_true rfl, Nat.le_of_ble_eq_true rfl⟩ ⟨Nat.le_of_ble_eq_true rfl, Nat.le_of_ble_eq_true rfl⟩ hl.1 rfl rfl (Nat.le_of_ble_eq_true rfl) dX12_digest_44 (fun q_44 u_44 H locs hv_44 hz9 hp => ?_)
      have hz := hs_zz hz hz9
      subst hv_44
      have hp : hr_H D A s.heap (hs_Y a z cO pp 0) H _ := hp
      refine lv_icmp_ge (tgt := 114) hx hb dX12_digest_47 (by decide) (fun _ => ?_) (fun c9 => absurd c9 (by decide))
      refine lv_iconst (v := 0) hx hb dX12_digest_114 (by decide) ?_
      refine lv_istore_n (lv' := [(3, .int 0), (1, .long q_104), (4, .int 10), (0, .ref (a 0))]) hx hb dX12_digest_115 rfl hl (by decide) rfl (fun ls hl => ?_)
      refine lv_iload_n hx hb dX12_digest_116 rfl (lv_at hl 0 rfl) ?_
      refine lv_aload_n hx hb dX12_digest_117 rfl (lv_at hl 3 rfl) ?_
      refine hr_get C0 hp (q0 := 0) (C := RX12) (T := TX12) (N := 4) (ci := 2) rfl rfl hr_uX12 1 (by decide) hw_126 (fun _ h9 => h9) rfl dX12_digest_118 ?_
      refine hr_get C0 hp (q0 := 1) (C := RX11) (T := TX11) (N := 5) (ci := 1) rfl rfl hr_uX11 1 (by decide) hw_177 (fun _ h9 => h9) rfl dX12_digest_121 ?_
      refine hs_cVi C0 hKT hp (q0 := 3) (ci := 0) (Cn := RJx4a65c) (T := TJx4a65c) (N := 3) (rest := [.int 0]) (n := 0) [] (hs_size_3 l D a z cO pp 0) rfl rfl rfl (hr_gV hw_144 hw_107 hw_108 hw_20 hw_109) ⟨rfl, rfl⟩ (by decide +kernel) ⟨Nat.le_of_ble_eq_true rfl, Nat.le_of_ble_eq_true rfl⟩ ⟨Nat.le_of_ble_eq_true rfl, Nat.le_of_ble_eq_true rfl⟩ hl.1 rfl rfl (Nat.le_of_ble_eq_true rfl) dX12_digest_124 (fun q_124 u_124 H locs hv_124 hz9 hp => ?_)
      have hz := hs_zz hz hz9
      subst hv_124
      have hp : hr_H D A s.heap (hs_Y a z cO pp 0) H _ := hp
      refine lv_icmp_ge (tgt := 178) hx hb dX12_digest_127 (by decide) (fun _ => ?_) (fun c9 => absurd c9 (by decide))
      refine lv_iconst (v := 0) hx hb dX12_digest_178 (by decide) ?_
      refine lv_istore_n (lv' := [(3, .int 0), (1, .long q_104), (4, .int 10), (0, .ref (a 0))]) hx hb dX12_digest_179 rfl hl (by decide) rfl (fun ls hl => ?_)
      refine lv_iload_n hx hb dX12_digest_180 rfl (lv_at hl 0 rfl) ?_
      refine lv_aload_n hx hb dX12_digest_181 rfl (lv_at hl 3 rfl) ?_
      refine hr_get C0 hp (q0 := 0) (C := RX12) (T := TX12) (N := 4) (ci := 2) rfl rfl hr_uX12 1 (by decide) hw_126 (fun _ h9 => h9) rfl dX12_digest_182 ?_
      refine hr_get C0 hp (q0 := 1) (C := RX11) (T := TX11) (N := 5) (ci := 1) rfl rfl hr_uX11 2 (by decide) hw_199 (fun _ h9 => h9) rfl dX12_digest_185 ?_
      refine hs_cVi C0 hKT hp (q0 := 4) (ci := 0) (Cn := RJx4a65c) (T := TJx4a65c) (N := 3) (rest := [.int 0]) (n := 0) [] (hs_size_4 l D a z cO pp 0) rfl rfl rfl (hr_gV hw_144 hw_107 hw_108 hw_20 hw_109) ⟨rfl, rfl⟩ (by decide +kernel) ⟨Nat.le_of_ble_eq_true rfl, Nat.le_of_ble_eq_true rfl⟩ ⟨Nat.le_of_ble_eq_true rfl, Nat.le_of_ble_eq_true rfl⟩ hl.1 rfl rfl (Nat.le_of_ble_eq_true rfl) dX12_digest_188 (fun q_188 u_188 H locs hv_188 hz9 hp => ?_)
      have hz := hs_zz hz hz9
      subst hv_188
      have hp : hr_H D A s.heap (hs_Y a z cO pp 0) H _ := hp
      refine lv_icmp_ge (tgt := 254) hx hb dX12_digest_191 (by decide) (fun _ => ?_) (fun c9 => absurd c9 (by decide))
      refine lv_lload_n hx hb dX12_digest_254 rfl (lv_at hl 1 rfl) ?_
      refine lv_aload_n hx hb dX12_digest_255 rfl (lv_at hl 3 rfl) ?_
      refine hr_get C0 hp (q0 := 0) (C := RX12) (T := TX12) (N := 4) (ci := 2) rfl rfl hr_uX12 1 (by decide) hw_126 (fun _ h9 => h9) rfl dX12_digest_256 ?_
      refine lv_bipush (v := 33) hx hb dX12_digest_259 (by decide) ?_
      refine hs_cVi C0 hKT hp (q0 := 1) (ci := 1) (Cn := RX11) (T := TX11) (N := 5) (rest := [.long q_104]) (n := 1) [] (hs_bestHeard l D a z cO pp 0 33) rfl rfl rfl (hr_gV hw_309 hw_292 hw_293 hw_103 hw_110) ⟨rfl, rfl⟩ (by decide +kernel) ⟨Nat.le_of_ble_eq_true rfl, Nat.le_of_ble_eq_true rfl⟩ ⟨Nat.le_of_ble_eq_true rfl, Nat.le_of_ble_eq_true rfl⟩ hl.1 rfl rfl (Nat.le_of_ble_eq_true rfl) dX12_digest_261 (fun q_261 u_261 H locs hv_261 hz9 hp => ?_)
      have hz := hs_zz hz hz9
      have hp : hr_H D A s.heap (hs_Y a z cO pp 0) H _ := hp
      refine lv_i2l hx hb dX12_digest_264 rfl ?_
      refine hs_cSl C0 hKT hp (rest := []) (n := 2) [] (hs_X12_add l D z _ (hs_Y a z cO pp 0) q_104 (q_261).toInt64) rfl (hr_gS hw_238 hw_239 hw_119 hw_231) ⟨rfl, rfl⟩ (by decide +kernel) ⟨Nat.le_of_ble_eq_true rfl, Nat.le_of_ble_eq_true rfl⟩ ⟨Nat.le_of_ble_eq_true rfl, Nat.le_of_ble_eq_true rfl⟩ hl.1 rfl rfl (Nat.le_of_ble_eq_true rfl) dX12_digest_265 (fun q_265 u_265 H locs hv_265 hz9 hp => ?_)
      have hz := hs_zz hz hz9
      have hp : hr_H D A s.heap (hs_Y a z cO pp 0) H _ := hp
      refine lv_aload_n hx hb dX12_digest_268 rfl (lv_at hl 3 rfl) ?_
      refine hr_get C0 hp (q0 := 0) (C := RX12) (T := TX12) (N := 4) (ci := 2) rfl rfl hr_uX12 1 (by decide) hw_126 (fun _ h9 => h9) rfl dX12_digest_269 ?_
      refine lv_bipush (v := 66) hx hb dX12_digest_272 (by decide) ?_
      refine hs_cVi C0 hKT hp (q0 := 1) (ci := 1) (Cn := RX11) (T := TX11) (N := 5) (rest := [.long q_265]) (n := 1) [] (hs_bestHeard l D a z cO pp 0 66) rfl rfl rfl (hr_gV hw_309 hw_292 hw_293 hw_103 hw_110) ⟨rfl, rfl⟩ (by decide +kernel) ⟨Nat.le_of_ble_eq_true rfl, Nat.le_of_ble_eq_true rfl⟩ ⟨Nat.le_of_ble_eq_true rfl, Nat.le_of_ble_eq_true rfl⟩ hl.1 rfl rfl (Nat.le_of_ble_eq_true rfl) dX12_digest_274 (fun q_274 u_274 H locs hv_274 hz9 hp => ?_)
      have hz := hs_zz hz hz9
      have hp : hr_H D A s.heap (hs_Y a z cO pp 0) H _ := hp
      refine lv_i2l hx hb dX12_digest_277 rfl ?_
      refine hs_cSl C0 hKT hp (rest := []) (n := 2) [] (hs_X12_add l D z _ (hs_Y a z cO pp 0) q_265 (q_274).toInt64) rfl (hr_gS hw_238 hw_239 hw_119 hw_231) ⟨rfl, rfl⟩ (by decide +kernel) ⟨Nat.le_of_ble_eq_true rfl, Nat.le_of_ble_eq_true rfl⟩ ⟨Nat.le_of_ble_eq_true rfl, Nat.le_of_ble_eq_true rfl⟩ hl.1 rfl rfl (Nat.le_of_ble_eq_true rfl) dX12_digest_278 (fun q_278 u_278 H locs hv_278 hz9 hp => ?_)
      have hz := hs_zz hz hz9
      have hp : hr_H D A s.heap (hs_Y a z cO pp 0) H _ := hp
      refine lv_aload_n hx hb dX12_digest_281 rfl (lv_at hl 3 rfl) ?_
      refine lv_bipush (v := 30) hx hb dX12_digest_282 (by decide) ?_
      refine lv_iconst (v := 1) hx hb dX12_digest_284 (by decide) ?_
      refine hs_cVi C0 hKT hp (q0 := 0) (ci := 2) (Cn := RX12) (T := TX12) (N := 4) (rest := [.long q_278]) (n := 2) [] (hs_bestFor l D a z cO pp 0) rfl rfl rfl (hr_gV hw_310 hw_311 hw_312 hw_119 hw_223) ⟨rfl, rfl⟩ (by decide +kernel) ⟨Nat.le_of_ble_eq_true rfl, Nat.le_of_ble_eq_true rfl⟩ ⟨Nat.le_of_ble_eq_true rfl, Nat.le_of_ble_eq_true rfl⟩ hl.1 rfl rfl (Nat.le_of_ble_eq_true rfl) dX12_digest_285 (fun q_285 u_285 H locs hv_285 hz9 hp => ?_)
      have hz := hs_zz hz hz9
      have hp : hr_H D A s.heap (hs_Y a z cO pp 0) H _ := hp
      refine lv_i2l hx hb dX12_digest_288 rfl ?_
      refine hs_cSl C0 hKT hp (rest := []) (n := 2) [] (hs_X12_add l D z _ (hs_Y a z cO pp 0) q_278 (q_285).toInt64) rfl (hr_gS hw_238 hw_239 hw_119 hw_231) ⟨rfl, rfl⟩ (by decide +kernel) ⟨Nat.le_of_ble_eq_true rfl, Nat.le_of_ble_eq_true rfl⟩ ⟨Nat.le_of_ble_eq_true rfl, Nat.le_of_ble_eq_true rfl⟩ hl.1 rfl rfl (Nat.le_of_ble_eq_true rfl) dX12_digest_289 (fun q_289 u_289 H locs hv_289 hz9 hp => ?_)
      have hz := hs_zz hz hz9
      have hp : hr_H D A s.heap (hs_Y a z cO pp 0) H _ := hp
      exact hs_lret () C0 hp (by omega) rfl ⟨Nat.le_of_ble_eq_true rfl, Nat.le_of_ble_eq_true rfl⟩ dX12_digest_292 trivial
    · have hlt : i < 15 := Nat.not_le.mp (fun q => c9 ((nI_leI (a := 15) (b := i) (by decide) (by omega)).mpr q))
      refine lv_lload_n hx hb dX12_digest_17 rfl (lv_at hl 1 rfl) ?_
      refine lv_aload_n hx hb dX12_digest_18 rfl (lv_at hl 2 rfl) ?_
      refine lv_iload_n hx hb dX12_digest_19 rfl (lv_at hl 0 rfl) ?_
      refine hs_cVi C0 hKT hp (q0 := 0) (ci := 2) (Cn := RX12) (T := TX12) (N := 4) (rest := [.long d9]) (n := 1) [] (hs_count l D a z cO pp 0 (nI i) (vp_in_nI hlt (by decide))) rfl rfl rfl (hr_gV hw_235 hw_236 hw_237 hw_119 hw_198) ⟨rfl, rfl⟩ (by decide +kernel) ⟨Nat.le_of_ble_eq_true rfl, Nat.le_of_ble_eq_true rfl⟩ ⟨by show 303 * i + 303 ≤ 4896; omega, by show 1223 * i + 1223 ≤ 19865; omega⟩ hl.1 rfl rfl (Nat.le_of_ble_eq_true rfl) dX12_digest_20 (fun q_20 u_20 H locs hv_20 hz9 hp => ?_)
      have hz := hs_zz hz hz9
      have hp : hr_H D A s.heap (hs_Y a z cO pp 0) H _ := hp
      refine lv_i2l hx hb dX12_digest_23 rfl ?_
      refine hs_cSl C0 hKT hp (rest := []) (n := 2) [] (hs_X12_add l D z _ (hs_Y a z cO pp 0) d9 (q_20).toInt64) rfl (hr_gS hw_238 hw_239 hw_119 hw_231) ⟨rfl, rfl⟩ (by decide +kernel) ⟨Nat.le_of_ble_eq_true rfl, Nat.le_of_ble_eq_true rfl⟩ ⟨by show 303 * i + 303 + 0 ≤ 4896; omega, by show 1223 * i + 1223 + 0 ≤ 19865; omega⟩ hl.1 rfl rfl (Nat.le_of_ble_eq_true rfl) dX12_digest_24 (fun q_24 u_24 H locs hv_24 hz9 hp => ?_)
      have hz := hs_zz hz hz9
      have hp : hr_H D A s.heap (hs_Y a z cO pp 0) H _ := hp
      refine lv_lstore_n (lv' := [(1, .long q_24), (3, .int (nI i)), (0, .ref (a 0))]) hx hb dX12_digest_27 rfl hl (by decide) rfl (fun ls hl => ?_)
      refine lv_iinc (v := (nI (i + 1))) (lv' := [(3, .int (nI (i + 1))), (1, .long q_24), (0, .ref (a 0))]) hx hb dX12_digest_28 hl (k := 1) rfl (nI_1 i) (by decide) rfl (fun ls hl => ?_)
      refine lv_goto (tgt := 11) hx hb dX12_digest_31 (by decide) ?_
      refine W.widen (k := 303 * (i + 1)) (n := 1223 * (i + 1)) (by show 303 * i + 303 ≤ _; omega) (by show 1223 * i + 1223 ≤ _; omega) ?_
      exact ih (i + 1) _ _ _ _ (by omega) (by omega) (by omega) hp (lv_sub hl [0, 1, 2] rfl)
  refine lv_aload_n hx hb dX12_digest_0 rfl (lv_at hl 0 rfl) ?_
  refine lv_iconst (v := 0) hx hb dX12_digest_1 (by decide) ?_
  refine hr_put C0 hp (q0 := 0) (C := RX12) (T := TX12) (N := 4) (ci := 2) (ty0 := tyX12) (ty := .int) (Y' := (hs_Y a z cO pp 0)) rfl rfl hr_uX12 tyX12_ok nmX12 0 (by decide) hw_129 (fun _ h9 => h9) rfl (by decide +kernel) rfl rfl (Nat.le_of_ble_eq_true rfl) rfl dX12_digest_2 (fun H locs hp => ?_)
  refine lv_ldc2 (v := 58188) hx hb hown (hts _ hw_234) dX12_digest_5 ?_
  refine lv_lstore_n (lv' := [(1, .long 58188), (0, .ref (a 0))]) hx hb dX12_digest_8 rfl hl (by decide) rfl (fun ls hl => ?_)
  refine lv_iconst (v := 0) hx hb dX12_digest_9 (by decide) ?_
  refine lv_istore_n (lv' := [(3, .int 0), (1, .long 58188), (0, .ref (a 0))]) hx hb dX12_digest_10 rfl hl (by decide) rfl (fun ls hl => ?_)
  exact hL 16 0 _ _ _ _ (by decide) (by decide) hp.2.2.1 hp (lv_sub hl [0, 1, 2] rfl)
