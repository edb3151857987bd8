/-! 13.second: laid by program (wip/gen/mk10.py) -/
def hl_X5_second_12 (r : Nat) (i : Nat) (w_12 : hh_M) : hh_M := (hh_let (hf_X1_move w_12 r i : hh_M) (fun (v_26 : hh_M) => v_26))
def hl_X5_second_37 (r : Nat) (i : Nat) (w_37 : hh_M) : hh_M := (hh_let (hf_X1_isIdle w_37 r i : Int32) (fun (q_51 : Int32) => (if q_51 = 0 then w_37 else (hh_let (hf_X5_chooseMast w_37 r i : hh_M) (fun (v_64 : hh_M) => (hh_let (hf_X5_tellArea v_64 r i : hh_M) (fun (v_74 : hh_M) => v_74)))))))
def hl_X5_second_85 (r : Nat) (i : Nat) (w_85 : hh_M) : hh_M := (hh_let (hf_X5_lookAtLeg w_85 r i 0 : hh_M) (fun (v_109 : hh_M) => (hh_let (hf_X5_lookAtLeg v_109 r i 1 : hh_M) (fun (v_128 : hh_M) => v_128))))
def hl_X5_second_139 (r : Nat) (i : Nat) (w_139 : hh_M) : hh_M := (hh_let (hf_X5_charge w_139 r i : hh_M) (fun (v_154 : hh_M) => v_154))
def hl_X5_second_165 (r : Nat) (i : Nat) (w_165 : hh_M) : hh_M := (hh_let (hf_X5_deliverTexts w_165 r i : hh_M) (fun (v_180 : hh_M) => v_180))
def hf_X5_second (v : hh_M) (r : Nat) : hh_M := (hh_let (hh_up v (hh_rI r) 8 ((v (hh_rI r) 8) + 1) : hh_M) (fun (v_7 : hh_M) => (hh_let (hh_fld (fun (i9 : Nat) (z : hh_M) => hl_X5_second_12 r i9 z) ((v_7 (hh_rI r) 5).toNatClampNeg) v_7 : hh_M) (fun (w_12 : hh_M) => (hh_let (hh_fld (fun (i9 : Nat) (z : hh_M) => hl_X5_second_37 r i9 z) ((w_12 (hh_rI r) 5).toNatClampNeg) w_12 : hh_M) (fun (w_37 : hh_M) => (hh_let (hh_fld (fun (i9 : Nat) (z : hh_M) => hl_X5_second_85 r i9 z) ((w_37 (hh_rI r) 6).toNatClampNeg) w_37 : hh_M) (fun (w_85 : hh_M) => (hh_let (hh_fld (fun (i9 : Nat) (z : hh_M) => hl_X5_second_139 r i9 z) ((w_85 (hh_rI r) 6).toNatClampNeg) w_85 : hh_M) (fun (w_139 : hh_M) => (hh_let (hh_fld (fun (i9 : Nat) (z : hh_M) => hl_X5_second_165 r i9 z) ((w_139 (hh_rI r) 5).toNatClampNeg) w_139 : hh_M) (fun (w_165 : hh_M) => w_165))))))))))))
set_option maxHeartbeats 4000000 in
set_option maxRecDepth 100000 in
theorem hk_X5_second (l : Launch) (D : va_G) (K : Nat → ClassId) (ad : Nat → Nat) {nm : Nat} {nh nc : Nat → Nat} {v : hh_M} (hT : hh_T nm nh nc v) (r : Nat) (hr : r < 2) : hh_Kv l D K ad yX5_second (hh_wm yX5_second cX5_second 2 none) { frames := 3, cells := 0, slots := 0, locals := 74 } [.ref (ad (hh_rI r))] v (fun (v1 : hh_M) => v1 = hf_X5_second v r ∧ (hh_T nm nh nc v1) ∧ hh_F (hh_Pn r (nh r) (nc r)) v v1) := by
  refine hh_Kv_of (by decide) (Nat.le_of_ble_eq_true rfl) ?_
  intro p e s m args below meth c ls A C0 hp hl
  obtain ⟨hx, hb, hr9, hml, hown, hts, hK, hlk, hA⟩ := id C0
  have hnm := hT.1
  have hnh := hT.2.1
  have hnc := hT.2.2.1
  have hbHr := hnh r
  have hbCr := hnc r
  have hl : lv_has ls 2 [(0, .ref (ad (hh_rI r)))] := hl
  refine lv_aload_n hx hb dX5_second_0 rfl (lv_at hl 0 rfl) ?_
  refine lv_dup hx hb dX5_second_1 rfl ?_
  refine hh_get C0 hp (C := RX5) (T := TX5) (N := 10) (ci := 5) (hh_b_r hr) (hh_E_r r) rfl hh_uX5 8 (by decide) hm_114 rfl rfl dX5_second_2 ?_
  refine lv_iconst (v := 1) hx hb dX5_second_5 (by decide) ?_
  refine lv_iadd hx hb dX5_second_6 ?_
  refine hh_put C0 hp (C := RX5) (T := TX5) (N := 10) (ci := 5) (k := 8) (ty := .int) (hh_b_r hr) (hh_E_r r) (hh_pr8 r) rfl hh_uX5 tyX5_ok nmX5 (by decide) hm_114 rfl rfl (by decide +kernel) rfl rfl (Nat.le_of_ble_eq_true rfl) dX5_second_7 (fun H locs hp => ?_)
  obtain ⟨v_7, ev_7⟩ : ∃ z : hh_M, z = hh_up v (hh_rI r) 8 ((v (hh_rI r) 8) + 1) := ⟨_, rfl⟩
  rw [← ev_7] at hp
  have hTv_7 : hh_T nm nh nc v_7 := by rw [ev_7]; exact hh_T_up hT (hh_Rt_r hr (by decide))
  have hFv_7 : hh_F (hh_Pn r (nh r) (nc r)) v v_7 := by rw [ev_7]; exact hh_F_up hh_F_rf (hh_Pn_r (by decide))
  refine lv_iconst (v := 0) hx hb dX5_second_10 (by decide) ?_
  refine lv_istore_n (lv' := [(1, .int 0), (0, .ref (ad (hh_rI r)))]) hx hb dX5_second_11 rfl hl (by decide) rfl (fun ls hl => ?_)
  have hL_12 : ∀ (n i : Nat) (w_12 : hh_M) (H : Heap) (locs : List Loc) (ls : Array Slot), i ≤ nh r → nh r - i < n → w_12 = hh_fld (fun (i9 : Nat) (z : hh_M) => hl_X5_second_12 r i9 z) i v_7 → hh_T nm nh nc w_12 → hh_F (hh_Pn r (nh r) (nc r)) v w_12 → hh_H D K ad A s.heap w_12 H locs → lv_has ls 2 [(1, .int (nI i)), (0, .ref (ad (hh_rI r)))] → W p l e ({ frames := 3, cells := 0, slots := 0, locals := 74 } : Room) s m args below meth c H locs 0 0 (MQ below (va_Qv (fun (v1 : hh_M) => v1 = hf_X5_second v r ∧ (hh_T nm nh nc v1) ∧ hh_F (hh_Pn r (nh r) (nc r)) v v1) (hh_B D K ad A) A) args s 0 0 A) (F0 m 12 ls []) := by
    intro n
    induction n with
    | zero => intro i w_12 H locs ls h1 h2; omega
    | succ n ih =>
      intro i w_12 H locs ls hii hni hsL_12 hTw_12 hFw_12 hp hl
      refine lv_iload_n hx hb dX5_second_12 rfl (lv_at hl 0 rfl) ?_
      refine lv_aload_n hx hb dX5_second_13 rfl (lv_at hl 1 rfl) ?_
      refine hh_get C0 hp (C := RX5) (T := TX5) (N := 10) (ci := 5) (hh_b_r hr) (hh_E_r r) rfl hh_uX5 5 (by decide) hm_111 rfl rfl dX5_second_14 ?_
      refine lv_icmp_ge (tgt := 35) hx hb dX5_second_17 (by decide) (fun c_17 => ?_) (fun c_17 => ?_)
      · have hbc_17 : (w_12 (hh_rI r) 5) = nI (nh r) := hh_T_r5 hTw_12 r
        rw [hbc_17] at c_17
        have hc_17 := (nI_leI (a := nh r) (b := i) (by omega) (by omega))
        have hltc_17 : nh r ≤ i := by exact hc_17.mp c_17
        have hNL_12 : i = nh r := by omega
        rw [hNL_12] at hsL_12
        have hsL_12 : w_12 = hh_fld (fun (i9 : Nat) (z : hh_M) => hl_X5_second_12 r i9 z) ((v_7 (hh_rI r) 5).toNatClampNeg) v_7 := by rw [hsL_12, show (v_7 (hh_rI r) 5).toNatClampNeg = nh r from by rw [hh_T_r5 hTv_7 r]; exact nI_clamp (by have := hnh r; omega)]
        have ew_12 : w_12 = hh_fld (fun (i9 : Nat) (z : hh_M) => hl_X5_second_12 r i9 z) ((v_7 (hh_rI r) 5).toNatClampNeg) v_7 := hsL_12
        clear ih hsL_12
        refine lv_iconst (v := 0) hx hb dX5_second_35 (by decide) ?_
        refine lv_istore_n (lv' := [(1, .int 0), (0, .ref (ad (hh_rI r)))]) hx hb dX5_second_36 rfl hl (by decide) rfl (fun ls hl => ?_)
        have hL_37 : ∀ (n i : Nat) (w_37 : hh_M) (H : Heap) (locs : List Loc) (ls : Array Slot), i ≤ nh r → nh r - i < n → w_37 = hh_fld (fun (i9 : Nat) (z : hh_M) => hl_X5_second_37 r i9 z) i w_12 → hh_T nm nh nc w_37 → hh_F (hh_Pn r (nh r) (nc r)) v w_37 → hh_H D K ad A s.heap w_37 H locs → lv_has ls 2 [(1, .int (nI i)), (0, .ref (ad (hh_rI r)))] → W p l e ({ frames := 3, cells := 0, slots := 0, locals := 74 } : Room) s m args below meth c H locs 0 0 (MQ below (va_Qv (fun (v1 : hh_M) => v1 = hf_X5_second v r ∧ (hh_T nm nh nc v1) ∧ hh_F (hh_Pn r (nh r) (nc r)) v v1) (hh_B D K ad A) A) args s 0 0 A) (F0 m 37 ls []) := by
          intro n
          induction n with
          | zero => intro i w_37 H locs ls h1 h2; omega
          | succ n ih =>
            intro i w_37 H locs ls hii hni hsL_37 hTw_37 hFw_37 hp hl
            refine lv_iload_n hx hb dX5_second_37 rfl (lv_at hl 0 rfl) ?_
            refine lv_aload_n hx hb dX5_second_38 rfl (lv_at hl 1 rfl) ?_
            refine hh_get C0 hp (C := RX5) (T := TX5) (N := 10) (ci := 5) (hh_b_r hr) (hh_E_r r) rfl hh_uX5 5 (by decide) hm_111 rfl rfl dX5_second_39 ?_
            refine lv_icmp_ge (tgt := 83) hx hb dX5_second_42 (by decide) (fun c_42 => ?_) (fun c_42 => ?_)
            · have hbc_42 : (w_37 (hh_rI r) 5) = nI (nh r) := hh_T_r5 hTw_37 r
              rw [hbc_42] at c_42
              have hc_42 := (nI_leI (a := nh r) (b := i) (by omega) (by omega))
              have hltc_42 : nh r ≤ i := by exact hc_42.mp c_42
              have hNL_37 : i = nh r := by omega
              rw [hNL_37] at hsL_37
              have hsL_37 : w_37 = hh_fld (fun (i9 : Nat) (z : hh_M) => hl_X5_second_37 r i9 z) ((w_12 (hh_rI r) 5).toNatClampNeg) w_12 := by rw [hsL_37, show (w_12 (hh_rI r) 5).toNatClampNeg = nh r from by rw [hh_T_r5 hTw_12 r]; exact nI_clamp (by have := hnh r; omega)]
              have ew_37 : w_37 = hh_fld (fun (i9 : Nat) (z : hh_M) => hl_X5_second_37 r i9 z) ((w_12 (hh_rI r) 5).toNatClampNeg) w_12 := hsL_37
              clear ih hsL_37
              refine lv_iconst (v := 0) hx hb dX5_second_83 (by decide) ?_
              refine lv_istore_n (lv' := [(1, .int 0), (0, .ref (ad (hh_rI r)))]) hx hb dX5_second_84 rfl hl (by decide) rfl (fun ls hl => ?_)
              have hL_85 : ∀ (n i : Nat) (w_85 : hh_M) (H : Heap) (locs : List Loc) (ls : Array Slot), i ≤ nc r → nc r - i < n → w_85 = hh_fld (fun (i9 : Nat) (z : hh_M) => hl_X5_second_85 r i9 z) i w_37 → hh_T nm nh nc w_85 → hh_F (hh_Pn r (nh r) (nc r)) v w_85 → hh_H D K ad A s.heap w_85 H locs → lv_has ls 2 [(1, .int (nI i)), (0, .ref (ad (hh_rI r)))] → W p l e ({ frames := 3, cells := 0, slots := 0, locals := 74 } : Room) s m args below meth c H locs 0 0 (MQ below (va_Qv (fun (v1 : hh_M) => v1 = hf_X5_second v r ∧ (hh_T nm nh nc v1) ∧ hh_F (hh_Pn r (nh r) (nc r)) v v1) (hh_B D K ad A) A) args s 0 0 A) (F0 m 85 ls []) := by
                intro n
                induction n with
                | zero => intro i w_85 H locs ls h1 h2; omega
                | succ n ih =>
                  intro i w_85 H locs ls hii hni hsL_85 hTw_85 hFw_85 hp hl
                  refine lv_iload_n hx hb dX5_second_85 rfl (lv_at hl 0 rfl) ?_
                  refine lv_aload_n hx hb dX5_second_86 rfl (lv_at hl 1 rfl) ?_
                  refine hh_get C0 hp (C := RX5) (T := TX5) (N := 10) (ci := 5) (hh_b_r hr) (hh_E_r r) rfl hh_uX5 6 (by decide) hm_112 rfl rfl dX5_second_87 ?_
                  refine lv_icmp_ge (tgt := 137) hx hb dX5_second_90 (by decide) (fun c_90 => ?_) (fun c_90 => ?_)
                  · have hbc_90 : (w_85 (hh_rI r) 6) = nI (nc r) := hh_T_r6 hTw_85 r
                    rw [hbc_90] at c_90
                    have hc_90 := (nI_leI (a := nc r) (b := i) (by omega) (by omega))
                    have hltc_90 : nc r ≤ i := by exact hc_90.mp c_90
                    have hNL_85 : i = nc r := by omega
                    rw [hNL_85] at hsL_85
                    have hsL_85 : w_85 = hh_fld (fun (i9 : Nat) (z : hh_M) => hl_X5_second_85 r i9 z) ((w_37 (hh_rI r) 6).toNatClampNeg) w_37 := by rw [hsL_85, show (w_37 (hh_rI r) 6).toNatClampNeg = nc r from by rw [hh_T_r6 hTw_37 r]; exact nI_clamp (by have := hnc r; omega)]
                    have ew_85 : w_85 = hh_fld (fun (i9 : Nat) (z : hh_M) => hl_X5_second_85 r i9 z) ((w_37 (hh_rI r) 6).toNatClampNeg) w_37 := hsL_85
                    clear ih hsL_85
                    refine lv_iconst (v := 0) hx hb dX5_second_137 (by decide) ?_
                    refine lv_istore_n (lv' := [(1, .int 0), (0, .ref (ad (hh_rI r)))]) hx hb dX5_second_138 rfl hl (by decide) rfl (fun ls hl => ?_)
                    have hL_139 : ∀ (n i : Nat) (w_139 : hh_M) (H : Heap) (locs : List Loc) (ls : Array Slot), i ≤ nc r → nc r - i < n → w_139 = hh_fld (fun (i9 : Nat) (z : hh_M) => hl_X5_second_139 r i9 z) i w_85 → hh_T nm nh nc w_139 → hh_F (hh_Pn r (nh r) (nc r)) v w_139 → hh_H D K ad A s.heap w_139 H locs → lv_has ls 2 [(1, .int (nI i)), (0, .ref (ad (hh_rI r)))] → W p l e ({ frames := 3, cells := 0, slots := 0, locals := 74 } : Room) s m args below meth c H locs 0 0 (MQ below (va_Qv (fun (v1 : hh_M) => v1 = hf_X5_second v r ∧ (hh_T nm nh nc v1) ∧ hh_F (hh_Pn r (nh r) (nc r)) v v1) (hh_B D K ad A) A) args s 0 0 A) (F0 m 139 ls []) := by
                      intro n
                      induction n with
                      | zero => intro i w_139 H locs ls h1 h2; omega
                      | succ n ih =>
                        intro i w_139 H locs ls hii hni hsL_139 hTw_139 hFw_139 hp hl
                        refine lv_iload_n hx hb dX5_second_139 rfl (lv_at hl 0 rfl) ?_
                        refine lv_aload_n hx hb dX5_second_140 rfl (lv_at hl 1 rfl) ?_
                        refine hh_get C0 hp (C := RX5) (T := TX5) (N := 10) (ci := 5) (hh_b_r hr) (hh_E_r r) rfl hh_uX5 6 (by decide) hm_112 rfl rfl dX5_second_141 ?_
                        refine lv_icmp_ge (tgt := 163) hx hb dX5_second_144 (by decide) (fun c_144 => ?_) (fun c_144 => ?_)
                        · have hbc_144 : (w_139 (hh_rI r) 6) = nI (nc r) := hh_T_r6 hTw_139 r
                          rw [hbc_144] at c_144
                          have hc_144 := (nI_leI (a := nc r) (b := i) (by omega) (by omega))
                          have hltc_144 : nc r ≤ i := by exact hc_144.mp c_144
                          have hNL_139 : i = nc r := by omega
                          rw [hNL_139] at hsL_139
                          have hsL_139 : w_139 = hh_fld (fun (i9 : Nat) (z : hh_M) => hl_X5_second_139 r i9 z) ((w_85 (hh_rI r) 6).toNatClampNeg) w_85 := by rw [hsL_139, show (w_85 (hh_rI r) 6).toNatClampNeg = nc r from by rw [hh_T_r6 hTw_85 r]; exact nI_clamp (by have := hnc r; omega)]
                          have ew_139 : w_139 = hh_fld (fun (i9 : Nat) (z : hh_M) => hl_X5_second_139 r i9 z) ((w_85 (hh_rI r) 6).toNatClampNeg) w_85 := hsL_139
                          clear ih hsL_139
                          refine lv_iconst (v := 0) hx hb dX5_second_163 (by decide) ?_
                          refine lv_istore_n (lv' := [(1, .int 0), (0, .ref (ad (hh_rI r)))]) hx hb dX5_second_164 rfl hl (by decide) rfl (fun ls hl => ?_)
                          have hL_165 : ∀ (n i : Nat) (w_165 : hh_M) (H : Heap) (locs : List Loc) (ls : Array Slot), i ≤ nh r → nh r - i < n → w_165 = hh_fld (fun (i9 : Nat) (z : hh_M) => hl_X5_second_165 r i9 z) i w_139 → hh_T nm nh nc w_165 → hh_F (hh_Pn r (nh r) (nc r)) v w_165 → hh_H D K ad A s.heap w_165 H locs → lv_has ls 2 [(1, .int (nI i)), (0, .ref (ad (hh_rI r)))] → W p l e ({ frames := 3, cells := 0, slots := 0, locals := 74 } : Room) s m args below meth c H locs 0 0 (MQ below (va_Qv (fun (v1 : hh_M) => v1 = hf_X5_second v r ∧ (hh_T nm nh nc v1) ∧ hh_F (hh_Pn r (nh r) (nc r)) v v1) (hh_B D K ad A) A) args s 0 0 A) (F0 m 165 ls []) := by
                            intro n
                            induction n with
                            | zero => intro i w_165 H locs ls h1 h2; omega
                            | succ n ih =>
                              intro i w_165 H locs ls hii hni hsL_165 hTw_165 hFw_165 hp hl
                              refine lv_iload_n hx hb dX5_second_165 rfl (lv_at hl 0 rfl) ?_
                              refine lv_aload_n hx hb dX5_second_166 rfl (lv_at hl 1 rfl) ?_
                              refine hh_get C0 hp (C := RX5) (T := TX5) (N := 10) (ci := 5) (hh_b_r hr) (hh_E_r r) rfl hh_uX5 5 (by decide) hm_111 rfl rfl dX5_second_167 ?_
                              refine lv_icmp_ge (tgt := 189) hx hb dX5_second_170 (by decide) (fun c_170 => ?_) (fun c_170 => ?_)
                              · have hbc_170 : (w_165 (hh_rI r) 5) = nI (nh r) := hh_T_r5 hTw_165 r
                                rw [hbc_170] at c_170
                                have hc_170 := (nI_leI (a := nh r) (b := i) (by omega) (by omega))
                                have hltc_170 : nh r ≤ i := by exact hc_170.mp c_170
                                have hNL_165 : i = nh r := by omega
                                rw [hNL_165] at hsL_165
                                have hsL_165 : w_165 = hh_fld (fun (i9 : Nat) (z : hh_M) => hl_X5_second_165 r i9 z) ((w_139 (hh_rI r) 5).toNatClampNeg) w_139 := by rw [hsL_165, show (w_139 (hh_rI r) 5).toNatClampNeg = nh r from by rw [hh_T_r5 hTw_139 r]; exact nI_clamp (by have := hnh r; omega)]
                                have ew_165 : w_165 = hh_fld (fun (i9 : Nat) (z : hh_M) => hl_X5_second_165 r i9 z) ((w_139 (hh_rI r) 5).toNatClampNeg) w_139 := hsL_165
                                clear ih hsL_165
                                exact hh_vret C0 hp dX5_second_189 ⟨(by show _ = _; unfold hf_X5_second; rw [hh_let_eq ev_7, hh_let_eq ew_12, hh_let_eq ew_37, hh_let_eq ew_85, hh_let_eq ew_139, hh_let_eq ew_165]), hTw_165, hFw_165⟩
                              · have hbc_170 : (w_165 (hh_rI r) 5) = nI (nh r) := hh_T_r5 hTw_165 r
                                rw [hbc_170] at c_170
                                have hc_170 := (nI_leI (a := nh r) (b := i) (by omega) (by omega))
                                have hltc_170 : i < nh r := by exact Nat.not_le.mp (fun z => c_170 (hc_170.mpr z))
                                have hbH := hnh r
                                refine lv_aload_n hx hb dX5_second_173 rfl (lv_at hl 1 rfl) ?_
                                refine lv_aload_n hx hb dX5_second_174 rfl (lv_at hl 1 rfl) ?_
                                refine hh_get C0 hp (C := RX5) (T := TX5) (N := 10) (ci := 5) (hh_b_r hr) (hh_E_r r) rfl hh_uX5 3 (by decide) hm_101 rfl rfl dX5_second_175 ?_
                                refine lv_iload_n hx hb dX5_second_178 rfl (lv_at hl 0 rfl) ?_
                                refine hh_aal C0 hp (t0 := 3) (f := (hh_hI r)) (hh_b_H hr) (hh_E_H r) rfl rfl (vp_in_nI (by omega) (by decide)) (nI_clamp (by omega)) dX5_second_179 ?_
                                refine hh_cVv C0 hp (As := [.ref (ad (hh_hI r i))]) (rest := []) (C := RX5) (T := TX5) (N := 10) (ci := 5) (n := 1) (hk_X5_deliverTexts l D K ad hTw_165 r i hr (by omega : i < 8)) rfl (hh_b_r hr) (hh_E_r r) (hh_gV hm_242 hm_243 hm_244 hm_128 hm_245) ⟨rfl, rfl⟩ (by decide +kernel) ⟨Nat.le_of_ble_eq_true rfl, Nat.le_of_ble_eq_true rfl⟩ ⟨Nat.zero_le _, Nat.zero_le _⟩ hl.1 rfl rfl (Nat.le_of_ble_eq_true rfl) dX5_second_180 (fun v_180 H locs hv_180 hp => ?_)
                                obtain ⟨ev_180, hTv_180, hF9⟩ := hv_180
                                have hFv_180 : hh_F (hh_Pn r (nh r) (nc r)) v v_180 := hh_F.tr hFw_165 (hh_F.mo hF9 (fun j k hj => by first | exact hj | (obtain ⟨rfl, hj⟩ := hj; (first | exact ⟨rfl, hj⟩ | exact Or.inl ⟨rfl, hj⟩ | exact Or.inr (Or.inl ⟨rfl, hj⟩) | exact Or.inr (Or.inr ⟨rfl, hj⟩) | exact hh_Pn_k hj | exact hh_Pn_h (by first | assumption | omega) hj | exact hh_Pn_c (by first | assumption | omega) hj | exact hh_Pn_g (by first | assumption | omega) (by decide) hj); done) | (rcases hj with ⟨rfl, hj⟩ | ⟨rfl, hj⟩ | ⟨rfl, hj⟩ <;> first | exact hh_Pn_c (by first | assumption | omega) hj | exact hh_Pn_g (by first | assumption | omega) (by decide) hj) | (have hj := hj; simp only [hh_fu_s] at hj; first | exact hj | exact Or.inl hj) | exact Or.inr hj | exact Or.inl hj | (rw [(rfl : True = True), (rfl : True = True)] at hj; exact hj)))
                                clear hF9
                                refine lv_iinc (v := (nI (i + 1))) (lv' := [(1, .int (nI (i + 1))), (0, .ref (ad (hh_rI r)))]) hx hb dX5_second_183 hl (k := 0) rfl (nI_1 i) (by decide) rfl (fun ls hl => ?_)
                                refine lv_goto (tgt := 165) hx hb dX5_second_186 (by decide) ?_
                                exact ih (i + 1) v_180 _ _ _ (by omega) (by omega) (by rw [hh_fld, ← hsL_165]; show _ = hl_X5_second_165 r i w_165; unfold hl_X5_second_165; rw [hh_let_eq ev_180]) hTv_180 hFv_180 hp (lv_sub hl [0, 1] rfl)
                          exact hL_165 (nh r + 1) 0 w_139 _ _ _ (Nat.zero_le _) (by omega) rfl hTw_139 hFw_139 hp (lv_sub hl [0, 1] rfl)
                        · have hbc_144 : (w_139 (hh_rI r) 6) = nI (nc r) := hh_T_r6 hTw_139 r
                          rw [hbc_144] at c_144
                          have hc_144 := (nI_leI (a := nc r) (b := i) (by omega) (by omega))
                          have hltc_144 : i < nc r := by exact Nat.not_le.mp (fun z => c_144 (hc_144.mpr z))
                          have hbC := hnc r
                          refine lv_aload_n hx hb dX5_second_147 rfl (lv_at hl 1 rfl) ?_
                          refine lv_aload_n hx hb dX5_second_148 rfl (lv_at hl 1 rfl) ?_
                          refine hh_get C0 hp (C := RX5) (T := TX5) (N := 10) (ci := 5) (hh_b_r hr) (hh_E_r r) rfl hh_uX5 4 (by decide) hm_105 rfl rfl dX5_second_149 ?_
                          refine lv_iload_n hx hb dX5_second_152 rfl (lv_at hl 0 rfl) ?_
                          refine hh_aal C0 hp (t0 := 4) (f := (hh_cI r)) (hh_b_C hr) (hh_E_C r) rfl rfl (vp_in_nI (by omega) (by decide)) (nI_clamp (by omega)) dX5_second_153 ?_
                          refine hh_cVv C0 hp (As := [.ref (ad (hh_cI r i))]) (rest := []) (C := RX5) (T := TX5) (N := 10) (ci := 5) (n := 1) (hk_X5_charge l D K ad hTw_139 r i hr (by omega : i < 24) (by first | assumption | omega | simp [hh_fu])) rfl (hh_b_r hr) (hh_E_r r) (hh_gV hm_225 hm_226 hm_227 hm_128 hm_228) ⟨rfl, rfl⟩ (by decide +kernel) ⟨Nat.le_of_ble_eq_true rfl, Nat.le_of_ble_eq_true rfl⟩ ⟨Nat.zero_le _, Nat.zero_le _⟩ hl.1 rfl rfl (Nat.le_of_ble_eq_true rfl) dX5_second_154 (fun v_154 H locs hv_154 hp => ?_)
                          obtain ⟨ev_154, hTv_154, hF9⟩ := hv_154
                          have hFv_154 : hh_F (hh_Pn r (nh r) (nc r)) v v_154 := hh_F.tr hFw_139 (hh_F.mo hF9 (fun j k hj => by first | exact hj | (obtain ⟨rfl, hj⟩ := hj; (first | exact ⟨rfl, hj⟩ | exact Or.inl ⟨rfl, hj⟩ | exact Or.inr (Or.inl ⟨rfl, hj⟩) | exact Or.inr (Or.inr ⟨rfl, hj⟩) | exact hh_Pn_k hj | exact hh_Pn_h (by first | assumption | omega) hj | exact hh_Pn_c (by first | assumption | omega) hj | exact hh_Pn_g (by first | assumption | omega) (by decide) hj); done) | (rcases hj with ⟨rfl, hj⟩ | ⟨rfl, hj⟩ | ⟨rfl, hj⟩ <;> first | exact hh_Pn_c (by first | assumption | omega) hj | exact hh_Pn_g (by first | assumption | omega) (by decide) hj) | (have hj := hj; simp only [hh_fu_s] at hj; first | exact hj | exact Or.inl hj) | exact Or.inr hj | exact Or.inl hj | (rw [(rfl : True = True), (rfl : True = True)] at hj; exact hj)))
                          clear hF9
                          refine lv_iinc (v := (nI (i + 1))) (lv' := [(1, .int (nI (i + 1))), (0, .ref (ad (hh_rI r)))]) hx hb dX5_second_157 hl (k := 0) rfl (nI_1 i) (by decide) rfl (fun ls hl => ?_)
                          refine lv_goto (tgt := 139) hx hb dX5_second_160 (by decide) ?_
                          exact ih (i + 1) v_154 _ _ _ (by omega) (by omega) (by rw [hh_fld, ← hsL_139]; show _ = hl_X5_second_139 r i w_139; unfold hl_X5_second_139; rw [hh_let_eq ev_154]) hTv_154 hFv_154 hp (lv_sub hl [0, 1] rfl)
                    exact hL_139 (nc r + 1) 0 w_85 _ _ _ (Nat.zero_le _) (by omega) rfl hTw_85 hFw_85 hp (lv_sub hl [0, 1] rfl)
                  · have hbc_90 : (w_85 (hh_rI r) 6) = nI (nc r) := hh_T_r6 hTw_85 r
                    rw [hbc_90] at c_90
                    have hc_90 := (nI_leI (a := nc r) (b := i) (by omega) (by omega))
                    have hltc_90 : i < nc r := by exact Nat.not_le.mp (fun z => c_90 (hc_90.mpr z))
                    have hbC := hnc r
                    refine lv_aload_n hx hb dX5_second_93 rfl (lv_at hl 1 rfl) ?_
                    refine lv_aload_n hx hb dX5_second_94 rfl (lv_at hl 1 rfl) ?_
                    refine hh_get C0 hp (C := RX5) (T := TX5) (N := 10) (ci := 5) (hh_b_r hr) (hh_E_r r) rfl hh_uX5 4 (by decide) hm_105 rfl rfl dX5_second_95 ?_
                    refine lv_iload_n hx hb dX5_second_98 rfl (lv_at hl 0 rfl) ?_
                    refine hh_aal C0 hp (t0 := 4) (f := (hh_cI r)) (hh_b_C hr) (hh_E_C r) rfl rfl (vp_in_nI (by omega) (by decide)) (nI_clamp (by omega)) dX5_second_99 ?_
                    refine lv_aload_n hx hb dX5_second_100 rfl (lv_at hl 1 rfl) ?_
                    refine hh_get C0 hp (C := RX5) (T := TX5) (N := 10) (ci := 5) (hh_b_r hr) (hh_E_r r) rfl hh_uX5 4 (by decide) hm_105 rfl rfl dX5_second_101 ?_
                    refine lv_iload_n hx hb dX5_second_104 rfl (lv_at hl 0 rfl) ?_
                    refine hh_aal C0 hp (t0 := 4) (f := (hh_cI r)) (hh_b_C hr) (hh_E_C r) rfl rfl (vp_in_nI (by omega) (by decide)) (nI_clamp (by omega)) dX5_second_105 ?_
                    refine hh_get C0 hp (C := RX0) (T := TX0) (N := 7) (ci := 0) (hh_b_c hr (by omega : i < 24)) (hh_E_c r (by omega : i < 24)) rfl hh_uX0 0 (by decide) hm_159 rfl rfl dX5_second_106 ?_
                    refine hh_cVv C0 hp (As := [.ref (ad (hh_cI r i)), .ref (ad (hh_gI r i 0))]) (rest := []) (C := RX5) (T := TX5) (N := 10) (ci := 5) (n := 2) (hk_X5_lookAtLeg l D K ad hTw_85 r i 0 hr (by omega : i < 24) (by decide : 0 < 2) (by first | assumption | omega | simp [hh_fu])) rfl (hh_b_r hr) (hh_E_r r) (hh_gV hm_181 hm_182 hm_183 hm_128 hm_184) ⟨rfl, rfl⟩ (by decide +kernel) ⟨Nat.le_of_ble_eq_true rfl, Nat.le_of_ble_eq_true rfl⟩ ⟨Nat.zero_le _, Nat.zero_le _⟩ hl.1 rfl rfl (Nat.le_of_ble_eq_true rfl) dX5_second_109 (fun v_109 H locs hv_109 hp => ?_)
                    obtain ⟨ev_109, hTv_109, hF9⟩ := hv_109
                    have hFv_109 : hh_F (hh_Pn r (nh r) (nc r)) v v_109 := hh_F.tr hFw_85 (hh_F.mo hF9 (fun j k hj => by first | exact hj | (obtain ⟨rfl, hj⟩ := hj; (first | exact ⟨rfl, hj⟩ | exact Or.inl ⟨rfl, hj⟩ | exact Or.inr (Or.inl ⟨rfl, hj⟩) | exact Or.inr (Or.inr ⟨rfl, hj⟩) | exact hh_Pn_k hj | exact hh_Pn_h (by first | assumption | omega) hj | exact hh_Pn_c (by first | assumption | omega) hj | exact hh_Pn_g (by first | assumption | omega) (by decide) hj); done) | (rcases hj with ⟨rfl, hj⟩ | ⟨rfl, hj⟩ | ⟨rfl, hj⟩ <;> first | exact hh_Pn_c (by first | assumption | omega) hj | exact hh_Pn_g (by first | assumption | omega) (by decide) hj) | (have hj := hj; simp only [hh_fu_s] at hj; first | exact hj | exact Or.inl hj) | exact Or.inr hj | exact Or.inl hj | (rw [(rfl : True = True), (rfl : True = True)] at hj; exact hj)))
                    clear hF9
                    refine lv_aload_n hx hb dX5_second_112 rfl (lv_at hl 1 rfl) ?_
                    refine lv_aload_n hx hb dX5_second_113 rfl (lv_at hl 1 rfl) ?_
                    refine hh_get C0 hp (C := RX5) (T := TX5) (N := 10) (ci := 5) (hh_b_r hr) (hh_E_r r) rfl hh_uX5 4 (by decide) hm_105 rfl rfl dX5_second_114 ?_
                    refine lv_iload_n hx hb dX5_second_117 rfl (lv_at hl 0 rfl) ?_
                    refine hh_aal C0 hp (t0 := 4) (f := (hh_cI r)) (hh_b_C hr) (hh_E_C r) rfl rfl (vp_in_nI (by omega) (by decide)) (nI_clamp (by omega)) dX5_second_118 ?_
                    refine lv_aload_n hx hb dX5_second_119 rfl (lv_at hl 1 rfl) ?_
                    refine hh_get C0 hp (C := RX5) (T := TX5) (N := 10) (ci := 5) (hh_b_r hr) (hh_E_r r) rfl hh_uX5 4 (by decide) hm_105 rfl rfl dX5_second_120 ?_
                    refine lv_iload_n hx hb dX5_second_123 rfl (lv_at hl 0 rfl) ?_
                    refine hh_aal C0 hp (t0 := 4) (f := (hh_cI r)) (hh_b_C hr) (hh_E_C r) rfl rfl (vp_in_nI (by omega) (by decide)) (nI_clamp (by omega)) dX5_second_124 ?_
                    refine hh_get C0 hp (C := RX0) (T := TX0) (N := 7) (ci := 0) (hh_b_c hr (by omega : i < 24)) (hh_E_c r (by omega : i < 24)) rfl hh_uX0 1 (by decide) hm_160 rfl rfl dX5_second_125 ?_
                    refine hh_cVv C0 hp (As := [.ref (ad (hh_cI r i)), .ref (ad (hh_gI r i 1))]) (rest := []) (C := RX5) (T := TX5) (N := 10) (ci := 5) (n := 2) (hk_X5_lookAtLeg l D K ad hTv_109 r i 1 hr (by omega : i < 24) (by decide : 1 < 2) (by first | assumption | omega | simp [hh_fu])) rfl (hh_b_r hr) (hh_E_r r) (hh_gV hm_181 hm_182 hm_183 hm_128 hm_184) ⟨rfl, rfl⟩ (by decide +kernel) ⟨Nat.le_of_ble_eq_true rfl, Nat.le_of_ble_eq_true rfl⟩ ⟨Nat.zero_le _, Nat.zero_le _⟩ hl.1 rfl rfl (Nat.le_of_ble_eq_true rfl) dX5_second_128 (fun v_128 H locs hv_128 hp => ?_)
                    obtain ⟨ev_128, hTv_128, hF9⟩ := hv_128
                    have hFv_128 : hh_F (hh_Pn r (nh r) (nc r)) v v_128 := hh_F.tr hFv_109 (hh_F.mo hF9 (fun j k hj => by first | exact hj | (obtain ⟨rfl, hj⟩ := hj; (first | exact ⟨rfl, hj⟩ | exact Or.inl ⟨rfl, hj⟩ | exact Or.inr (Or.inl ⟨rfl, hj⟩) | exact Or.inr (Or.inr ⟨rfl, hj⟩) | exact hh_Pn_k hj | exact hh_Pn_h (by first | assumption | omega) hj | exact hh_Pn_c (by first | assumption | omega) hj | exact hh_Pn_g (by first | assumption | omega) (by decide) hj); done) | (rcases hj with ⟨rfl, hj⟩ | ⟨rfl, hj⟩ | ⟨rfl, hj⟩ <;> first | exact hh_Pn_c (by first | assumption | omega) hj | exact hh_Pn_g (by first | assumption | omega) (by decide) hj) | (have hj := hj; simp only [hh_fu_s] at hj; first | exact hj | exact Or.inl hj) | exact Or.inr hj | exact Or.inl hj | (rw [(rfl : True = True), (rfl : True = True)] at hj; exact hj)))
                    clear hF9
                    refine lv_iinc (v := (nI (i + 1))) (lv' := [(1, .int (nI (i + 1))), (0, .ref (ad (hh_rI r)))]) hx hb dX5_second_131 hl (k := 0) rfl (nI_1 i) (by decide) rfl (fun ls hl => ?_)
                    refine lv_goto (tgt := 85) hx hb dX5_second_134 (by decide) ?_
                    exact ih (i + 1) v_128 _ _ _ (by omega) (by omega) (by rw [hh_fld, ← hsL_85]; show _ = hl_X5_second_85 r i w_85; unfold hl_X5_second_85; rw [hh_let_eq ev_109, hh_let_eq ev_128]) hTv_128 hFv_128 hp (lv_sub hl [0, 1] rfl)
              exact hL_85 (nc r + 1) 0 w_37 _ _ _ (Nat.zero_le _) (by omega) rfl hTw_37 hFw_37 hp (lv_sub hl [0, 1] rfl)
            · have hbc_42 : (w_37 (hh_rI r) 5) = nI (nh r) := hh_T_r5 hTw_37 r
              rw [hbc_42] at c_42
              have hc_42 := (nI_leI (a := nh r) (b := i) (by omega) (by omega))
              have hltc_42 : i < nh r := by exact Nat.not_le.mp (fun z => c_42 (hc_42.mpr z))
              have hbH := hnh r
              refine lv_aload_n hx hb dX5_second_45 rfl (lv_at hl 1 rfl) ?_
              refine hh_get C0 hp (C := RX5) (T := TX5) (N := 10) (ci := 5) (hh_b_r hr) (hh_E_r r) rfl hh_uX5 3 (by decide) hm_101 rfl rfl dX5_second_46 ?_
              refine lv_iload_n hx hb dX5_second_49 rfl (lv_at hl 0 rfl) ?_
              refine hh_aal C0 hp (t0 := 3) (f := (hh_hI r)) (hh_b_H hr) (hh_E_H r) rfl rfl (vp_in_nI (by omega) (by decide)) (nI_clamp (by omega)) dX5_second_50 ?_
              refine hh_cVi C0 hp (As := []) (rest := []) (C := RX1) (T := TX1) (N := 13) (ci := 1) (n := 0) (hk_X1_isIdle l D K ad hTw_37 r i hr (by omega : i < 8)) rfl (hh_b_h hr (by omega : i < 8)) (hh_E_h r (by omega : i < 8)) (hh_gV hm_164 hm_165 hm_166 hm_103 hm_38) ⟨rfl, rfl⟩ (by decide +kernel) ⟨Nat.le_of_ble_eq_true rfl, Nat.le_of_ble_eq_true rfl⟩ ⟨Nat.zero_le _, Nat.zero_le _⟩ hl.1 rfl rfl (Nat.le_of_ble_eq_true rfl) dX5_second_51 (fun q_51 v_51 H locs hv_51 hp => ?_)
              obtain ⟨eq_51, hv9⟩ := hv_51
              rw [hv9] at hp; clear hv9
              refine lv_if_eq (tgt := 77) hx hb dX5_second_54 (by decide) (fun c_54 => ?_) (fun c_54 => ?_)
              · refine lv_iinc (v := (nI (i + 1))) (lv' := [(1, .int (nI (i + 1))), (0, .ref (ad (hh_rI r)))]) hx hb dX5_second_77 hl (k := 0) rfl (nI_1 i) (by decide) rfl (fun ls hl => ?_)
                refine lv_goto (tgt := 37) hx hb dX5_second_80 (by decide) ?_
                exact ih (i + 1) w_37 _ _ _ (by omega) (by omega) (by rw [hh_fld, ← hsL_37]; show _ = hl_X5_second_37 r i w_37; unfold hl_X5_second_37; rw [hh_let_eq eq_51, if_pos c_54]) hTw_37 hFw_37 hp (lv_sub hl [0, 1] rfl)
              · refine lv_aload_n hx hb dX5_second_57 rfl (lv_at hl 1 rfl) ?_
                refine lv_aload_n hx hb dX5_second_58 rfl (lv_at hl 1 rfl) ?_
                refine hh_get C0 hp (C := RX5) (T := TX5) (N := 10) (ci := 5) (hh_b_r hr) (hh_E_r r) rfl hh_uX5 3 (by decide) hm_101 rfl rfl dX5_second_59 ?_
                refine lv_iload_n hx hb dX5_second_62 rfl (lv_at hl 0 rfl) ?_
                refine hh_aal C0 hp (t0 := 3) (f := (hh_hI r)) (hh_b_H hr) (hh_E_H r) rfl rfl (vp_in_nI (by omega) (by decide)) (nI_clamp (by omega)) dX5_second_63 ?_
                refine hh_cVv C0 hp (As := [.ref (ad (hh_hI r i))]) (rest := []) (C := RX5) (T := TX5) (N := 10) (ci := 5) (n := 1) (hk_X5_chooseMast l D K ad hTw_37 r i hr (by omega : i < 8)) rfl (hh_b_r hr) (hh_E_r r) (hh_gV hm_167 hm_168 hm_169 hm_128 hm_170) ⟨rfl, rfl⟩ (by decide +kernel) ⟨Nat.le_of_ble_eq_true rfl, Nat.le_of_ble_eq_true rfl⟩ ⟨Nat.zero_le _, Nat.zero_le _⟩ hl.1 rfl rfl (Nat.le_of_ble_eq_true rfl) dX5_second_64 (fun v_64 H locs hv_64 hp => ?_)
                obtain ⟨ev_64, hTv_64, hF9⟩ := hv_64
                have hFv_64 : hh_F (hh_Pn r (nh r) (nc r)) v v_64 := hh_F.tr hFw_37 (hh_F.mo hF9 (fun j k hj => by first | exact hj | (obtain ⟨rfl, hj⟩ := hj; (first | exact ⟨rfl, hj⟩ | exact Or.inl ⟨rfl, hj⟩ | exact Or.inr (Or.inl ⟨rfl, hj⟩) | exact Or.inr (Or.inr ⟨rfl, hj⟩) | exact hh_Pn_k hj | exact hh_Pn_h (by first | assumption | omega) hj | exact hh_Pn_c (by first | assumption | omega) hj | exact hh_Pn_g (by first | assumption | omega) (by decide) hj); done) | (rcases hj with ⟨rfl, hj⟩ | ⟨rfl, hj⟩ | ⟨rfl, hj⟩ <;> first | exact hh_Pn_c (by first | assumption | omega) hj | exact hh_Pn_g (by first | assumption | omega) (by decide) hj) | (have hj := hj; simp only [hh_fu_s] at hj; first | exact hj | exact Or.inl hj) | exact Or.inr hj | exact Or.inl hj | (rw [(rfl : True = True), (rfl : True = True)] at hj; exact hj)))
                clear hF9
                refine lv_aload_n hx hb dX5_second_67 rfl (lv_at hl 1 rfl) ?_
                refine lv_aload_n hx hb dX5_second_68 rfl (lv_at hl 1 rfl) ?_
                refine hh_get C0 hp (C := RX5) (T := TX5) (N := 10) (ci := 5) (hh_b_r hr) (hh_E_r r) rfl hh_uX5 3 (by decide) hm_101 rfl rfl dX5_second_69 ?_
                refine lv_iload_n hx hb dX5_second_72 rfl (lv_at hl 0 rfl) ?_
                refine hh_aal C0 hp (t0 := 3) (f := (hh_hI r)) (hh_b_H hr) (hh_E_H r) rfl rfl (vp_in_nI (by omega) (by decide)) (nI_clamp (by omega)) dX5_second_73 ?_
                refine hh_cVv C0 hp (As := [.ref (ad (hh_hI r i))]) (rest := []) (C := RX5) (T := TX5) (N := 10) (ci := 5) (n := 1) (hk_X5_tellArea l D K ad hTv_64 r i hr (by omega : i < 8)) rfl (hh_b_r hr) (hh_E_r r) (hh_gV hm_172 hm_173 hm_174 hm_128 hm_175) ⟨rfl, rfl⟩ (by decide +kernel) ⟨Nat.le_of_ble_eq_true rfl, Nat.le_of_ble_eq_true rfl⟩ ⟨Nat.zero_le _, Nat.zero_le _⟩ hl.1 rfl rfl (Nat.le_of_ble_eq_true rfl) dX5_second_74 (fun v_74 H locs hv_74 hp => ?_)
                obtain ⟨ev_74, hTv_74, hF9⟩ := hv_74
                have hFv_74 : hh_F (hh_Pn r (nh r) (nc r)) v v_74 := hh_F.tr hFv_64 (hh_F.mo hF9 (fun j k hj => by first | exact hj | (obtain ⟨rfl, hj⟩ := hj; (first | exact ⟨rfl, hj⟩ | exact Or.inl ⟨rfl, hj⟩ | exact Or.inr (Or.inl ⟨rfl, hj⟩) | exact Or.inr (Or.inr ⟨rfl, hj⟩) | exact hh_Pn_k hj | exact hh_Pn_h (by first | assumption | omega) hj | exact hh_Pn_c (by first | assumption | omega) hj | exact hh_Pn_g (by first | assumption | omega) (by decide) hj); done) | (rcases hj with ⟨rfl, hj⟩ | ⟨rfl, hj⟩ | ⟨rfl, hj⟩ <;> first | exact hh_Pn_c (by first | assumption | omega) hj | exact hh_Pn_g (by first | assumption | omega) (by decide) hj) | (have hj := hj; simp only [hh_fu_s] at hj; first | exact hj | exact Or.inl hj) | exact Or.inr hj | exact Or.inl hj | (rw [(rfl : True = True), (rfl : True = True)] at hj; exact hj)))
                clear hF9
                refine lv_iinc (v := (nI (i + 1))) (lv' := [(1, .int (nI (i + 1))), (0, .ref (ad (hh_rI r)))]) hx hb dX5_second_77 hl (k := 0) rfl (nI_1 i) (by decide) rfl (fun ls hl => ?_)
                refine lv_goto (tgt := 37) hx hb dX5_second_80 (by decide) ?_
                exact ih (i + 1) v_74 _ _ _ (by omega) (by omega) (by rw [hh_fld, ← hsL_37]; show _ = hl_X5_second_37 r i w_37; unfold hl_X5_second_37; rw [hh_let_eq eq_51, if_neg c_54, hh_let_eq ev_64, hh_let_eq ev_74]) hTv_74 hFv_74 hp (lv_sub hl [0, 1] rfl)
        exact hL_37 (nh r + 1) 0 w_12 _ _ _ (Nat.zero_le _) (by omega) rfl hTw_12 hFw_12 hp (lv_sub hl [0, 1] rfl)
      · have hbc_17 : (w_12 (hh_rI r) 5) = nI (nh r) := hh_T_r5 hTw_12 r
        rw [hbc_17] at c_17
        have hc_17 := (nI_leI (a := nh r) (b := i) (by omega) (by omega))
        have hltc_17 : i < nh r := by exact Nat.not_le.mp (fun z => c_17 (hc_17.mpr z))
        have hbH := hnh r
        refine lv_aload_n hx hb dX5_second_20 rfl (lv_at hl 1 rfl) ?_
        refine hh_get C0 hp (C := RX5) (T := TX5) (N := 10) (ci := 5) (hh_b_r hr) (hh_E_r r) rfl hh_uX5 3 (by decide) hm_101 rfl rfl dX5_second_21 ?_
        refine lv_iload_n hx hb dX5_second_24 rfl (lv_at hl 0 rfl) ?_
        refine hh_aal C0 hp (t0 := 3) (f := (hh_hI r)) (hh_b_H hr) (hh_E_H r) rfl rfl (vp_in_nI (by omega) (by decide)) (nI_clamp (by omega)) dX5_second_25 ?_
        refine hh_cVv C0 hp (As := []) (rest := []) (C := RX1) (T := TX1) (N := 13) (ci := 1) (n := 0) (hk_X1_move l D K ad hTw_12 r i hr (by omega : i < 8)) rfl (hh_b_h hr (by omega : i < 8)) (hh_E_h r (by omega : i < 8)) (hh_gV hm_161 hm_162 hm_163 hm_103 hm_40) ⟨rfl, rfl⟩ (by decide +kernel) ⟨Nat.le_of_ble_eq_true rfl, Nat.le_of_ble_eq_true rfl⟩ ⟨Nat.zero_le _, Nat.zero_le _⟩ hl.1 rfl rfl (Nat.le_of_ble_eq_true rfl) dX5_second_26 (fun v_26 H locs hv_26 hp => ?_)
        obtain ⟨ev_26, hTv_26, hF9⟩ := hv_26
        have hFv_26 : hh_F (hh_Pn r (nh r) (nc r)) v v_26 := hh_F.tr hFw_12 (hh_F.mo hF9 (fun j k hj => by first | exact hj | (obtain ⟨rfl, hj⟩ := hj; (first | exact ⟨rfl, hj⟩ | exact Or.inl ⟨rfl, hj⟩ | exact Or.inr (Or.inl ⟨rfl, hj⟩) | exact Or.inr (Or.inr ⟨rfl, hj⟩) | exact hh_Pn_k hj | exact hh_Pn_h (by first | assumption | omega) hj | exact hh_Pn_c (by first | assumption | omega) hj | exact hh_Pn_g (by first | assumption | omega) (by decide) hj); done) | (rcases hj with ⟨rfl, hj⟩ | ⟨rfl, hj⟩ | ⟨rfl, hj⟩ <;> first | exact hh_Pn_c (by first | assumption | omega) hj | exact hh_Pn_g (by first | assumption | omega) (by decide) hj) | (have hj := hj; simp only [hh_fu_s] at hj; first | exact hj | exact Or.inl hj) | exact Or.inr hj | exact Or.inl hj | (rw [(rfl : True = True), (rfl : True = True)] at hj; exact hj)))
        clear hF9
        refine lv_iinc (v := (nI (i + 1))) (lv' := [(1, .int (nI (i + 1))), (0, .ref (ad (hh_rI r)))]) hx hb dX5_second_29 hl (k := 0) rfl (nI_1 i) (by decide) rfl (fun ls hl => ?_)
        refine lv_goto (tgt := 12) hx hb dX5_second_32 (by decide) ?_
        exact ih (i + 1) v_26 _ _ _ (by omega) (by omega) (by rw [hh_fld, ← hsL_12]; show _ = hl_X5_second_12 r i w_12; unfold hl_X5_second_12; rw [hh_let_eq ev_26]) hTv_26 hFv_26 hp (lv_sub hl [0, 1] rfl)
  exact hL_12 (nh r + 1) 0 v_7 _ _ _ (Nat.zero_le _) (by omega) rfl hTv_7 hFv_7 hp (lv_sub hl [0, 1] rfl)
def hl_X5_callsThat_4 (v : hh_M) (r : Nat) (ended : Int32) (i : Nat) (a4_2 : Int32) : Int32 := (if (v (hh_cI r i) 6) = ended then (hh_let ((a4_2 + 1) : Int32) (fun (x_25 : Int32) => x_25)) else a4_2)
def hf_X5_callsThat (v : hh_M) (r : Nat) (ended : Int32) : Int32 := (hh_let (hh_fld (fun (i9 : Nat) (z : Int32) => hl_X5_callsThat_4 v r ended i9 z) ((v (hh_rI r) 6).toNatClampNeg) 0 : Int32) (fun (a4_2 : Int32) => a4_2))
set_option maxHeartbeats 4000000 in
set_option maxRecDepth 100000 in
theorem hk_X5_callsThat (l : Launch) (D : va_G) (K : Nat → ClassId) (ad : Nat → Nat) {nm : Nat} {nh nc : Nat → Nat} {v : hh_M} (hT : hh_T nm nh nc v) (r : Nat) (ended : Int32) (hr : r < 2) : hh_Ki l D K ad yX5_callsThat (hh_wm yX5_callsThat cX5_callsThat 4 (some .int)) { frames := 0, cells := 0, slots := 0, locals := 0 } [.ref (ad (hh_rI r)), .int ended] v (fun (q : Int32) (v1 : hh_M) => q = hf_X5_callsThat v r ended ∧ v1 = v) := by
  refine hh_Ki_of (by decide) (Nat.le_of_ble_eq_true rfl) ?_
  intro p e s m args below meth c ls A C0 hp hl
  obtain ⟨hx, hb, hr9, hml, hown, hts, hK, hlk, hA⟩ := id C0
  have hnm := hT.1
  have hnh := hT.2.1
  have hnc := hT.2.2.1
  have hbHr := hnh r
  have hbCr := hnc r
  have hl : lv_has ls 4 [(0, .ref (ad (hh_rI r))), (1, .int ended)] := hl
  refine lv_iconst (v := 0) hx hb dX5_callsThat_0 (by decide) ?_
  refine lv_istore_n (lv' := [(2, .int 0), (0, .ref (ad (hh_rI r))), (1, .int ended)]) hx hb dX5_callsThat_1 rfl hl (by decide) rfl (fun ls hl => ?_)
  refine lv_iconst (v := 0) hx hb dX5_callsThat_2 (by decide) ?_
  refine lv_istore_n (lv' := [(3, .int 0), (2, .int 0), (0, .ref (ad (hh_rI r))), (1, .int ended)]) hx hb dX5_callsThat_3 rfl hl (by decide) rfl (fun ls hl => ?_)
  have hL_4 : ∀ (n i : Nat) (a4_2 : Int32) (H : Heap) (locs : List Loc) (ls : Array Slot), i ≤ nc r → nc r - i < n → a4_2 = hh_fld (fun (i9 : Nat) (z : Int32) => hl_X5_callsThat_4 v r ended i9 z) i 0 → hh_H D K ad A s.heap v H locs → lv_has ls 4 [(3, .int (nI i)), (2, .int a4_2), (0, .ref (ad (hh_rI r))), (1, .int ended)] → W p l e ({ frames := 0, cells := 0, slots := 0, locals := 0 } : Room) s m args below meth c H locs 0 0 (MQ below (va_Qi (fun (q : Int32) (v1 : hh_M) => q = hf_X5_callsThat v r ended ∧ v1 = v) (hh_B D K ad A) A) args s 0 0 A) (F0 m 4 ls []) := by
    intro n
    induction n with
    | zero => intro i a4_2 H locs ls h1 h2; omega
    | succ n ih =>
      intro i a4_2 H locs ls hii hni hsL_4 hp hl
      refine lv_iload_n hx hb dX5_callsThat_4 rfl (lv_at hl 0 rfl) ?_
      refine lv_aload_n hx hb dX5_callsThat_5 rfl (lv_at hl 2 rfl) ?_
      refine hh_get C0 hp (C := RX5) (T := TX5) (N := 10) (ci := 5) (hh_b_r hr) (hh_E_r r) rfl hh_uX5 6 (by decide) hm_112 rfl rfl dX5_callsThat_6 ?_
      refine lv_icmp_ge (tgt := 34) hx hb dX5_callsThat_9 (by decide) (fun c_9 => ?_) (fun c_9 => ?_)
      · have hbc_9 : (v (hh_rI r) 6) = nI (nc r) := hh_T_r6 hT r
        rw [hbc_9] at c_9
        have hc_9 := (nI_leI (a := nc r) (b := i) (by omega) (by omega))
        have hltc_9 : nc r ≤ i := by exact hc_9.mp c_9
        have hNL_4 : i = nc r := by omega
        rw [hNL_4] at hsL_4
        have hsL_4 : a4_2 = hh_fld (fun (i9 : Nat) (z : Int32) => hl_X5_callsThat_4 v r ended i9 z) ((v (hh_rI r) 6).toNatClampNeg) 0 := by rw [hsL_4, show (v (hh_rI r) 6).toNatClampNeg = nc r from by rw [hh_T_r6 hT r]; exact nI_clamp (by have := hnc r; omega)]
        have ea4_2 : a4_2 = hh_fld (fun (i9 : Nat) (z : Int32) => hl_X5_callsThat_4 v r ended i9 z) ((v (hh_rI r) 6).toNatClampNeg) 0 := hsL_4
        clear ih hsL_4
        refine lv_iload_n hx hb dX5_callsThat_34 rfl (lv_at hl 1 rfl) ?_
        exact hh_iret C0 hp dX5_callsThat_35 ⟨(by unfold hf_X5_callsThat; rw [hh_let_eq ea4_2]), rfl⟩
      · have hbc_9 : (v (hh_rI r) 6) = nI (nc r) := hh_T_r6 hT r
        rw [hbc_9] at c_9
        have hc_9 := (nI_leI (a := nc r) (b := i) (by omega) (by omega))
        have hltc_9 : i < nc r := by exact Nat.not_le.mp (fun z => c_9 (hc_9.mpr z))
        have hbC := hnc r
        refine lv_aload_n hx hb dX5_callsThat_12 rfl (lv_at hl 2 rfl) ?_
        refine hh_get C0 hp (C := RX5) (T := TX5) (N := 10) (ci := 5) (hh_b_r hr) (hh_E_r r) rfl hh_uX5 4 (by decide) hm_105 rfl rfl dX5_callsThat_13 ?_
        refine lv_iload_n hx hb dX5_callsThat_16 rfl (lv_at hl 0 rfl) ?_
        refine hh_aal C0 hp (t0 := 4) (f := (hh_cI r)) (hh_b_C hr) (hh_E_C r) rfl rfl (vp_in_nI (by omega) (by decide)) (nI_clamp (by omega)) dX5_callsThat_17 ?_
        refine hh_get C0 hp (C := RX0) (T := TX0) (N := 7) (ci := 0) (hh_b_c hr (by omega : i < 24)) (hh_E_c r (by omega : i < 24)) rfl hh_uX0 6 (by decide) hm_185 rfl rfl dX5_callsThat_18 ?_
        refine lv_iload_n hx hb dX5_callsThat_21 rfl (lv_at hl 3 rfl) ?_
        refine lv_icmp_ne (tgt := 28) hx hb dX5_callsThat_22 (by decide) (fun c_22 => ?_) (fun c_22 => ?_)
        · refine lv_iinc (v := (nI (i + 1))) (lv' := [(3, .int (nI (i + 1))), (2, .int a4_2), (0, .ref (ad (hh_rI r))), (1, .int ended)]) hx hb dX5_callsThat_28 hl (k := 0) rfl (nI_1 i) (by decide) rfl (fun ls hl => ?_)
          refine lv_goto (tgt := 4) hx hb dX5_callsThat_31 (by decide) ?_
          exact ih (i + 1) a4_2 _ _ _ (by omega) (by omega) (by rw [hh_fld, ← hsL_4]; show _ = hl_X5_callsThat_4 v r ended i a4_2; unfold hl_X5_callsThat_4; rw [if_neg c_22]) hp (lv_sub hl [0, 1, 2, 3] rfl)
        · obtain ⟨x_25, ex_25⟩ : ∃ z : Int32, z = (a4_2 + 1) := ⟨_, rfl⟩
          refine lv_iinc (v := x_25) (lv' := [(2, .int x_25), (3, .int (nI i)), (0, .ref (ad (hh_rI r))), (1, .int ended)]) hx hb dX5_callsThat_25 hl (k := 1) rfl (by rw [ex_25]; rfl) (by decide) rfl (fun ls hl => ?_)
          refine lv_iinc (v := (nI (i + 1))) (lv' := [(3, .int (nI (i + 1))), (2, .int x_25), (0, .ref (ad (hh_rI r))), (1, .int ended)]) hx hb dX5_callsThat_28 hl (k := 1) rfl (nI_1 i) (by decide) rfl (fun ls hl => ?_)
          refine lv_goto (tgt := 4) hx hb dX5_callsThat_31 (by decide) ?_
          exact ih (i + 1) x_25 _ _ _ (by omega) (by omega) (by rw [hh_fld, ← hsL_4]; show _ = hl_X5_callsThat_4 v r ended i a4_2; unfold hl_X5_callsThat_4; rw [if_pos c_22, hh_let_eq ex_25]) hp (lv_sub hl [0, 1, 2, 3] rfl)
  exact hL_4 (nc r + 1) 0 0 _ _ _ (Nat.zero_le _) (by omega) rfl hp (lv_sub hl [0, 1, 2, 3] rfl)
def hl_X5_sumOfCalls_4 (v : hh_M) (r : Nat) (what : Int32) (i : Nat) (a4_2 : Int32) : Int32 := (hh_let (hf_X0_fact v r i what : Int32) (fun (q_20 : Int32) => (hh_let ((a4_2 + q_20) : Int32) (fun (x_24 : Int32) => x_24))))
def hf_X5_sumOfCalls (v : hh_M) (r : Nat) (what : Int32) : Int32 := (hh_let (hh_fld (fun (i9 : Nat) (z : Int32) => hl_X5_sumOfCalls_4 v r what i9 z) ((v (hh_rI r) 6).toNatClampNeg) 0 : Int32) (fun (a4_2 : Int32) => a4_2))
set_option maxHeartbeats 4000000 in
set_option maxRecDepth 100000 in
theorem hk_X5_sumOfCalls (l : Launch) (D : va_G) (K : Nat → ClassId) (ad : Nat → Nat) {nm : Nat} {nh nc : Nat → Nat} {v : hh_M} (hT : hh_T nm nh nc v) (r : Nat) (what : Int32) (hr : r < 2) : hh_Ki l D K ad yX5_sumOfCalls (hh_wm yX5_sumOfCalls cX5_sumOfCalls 4 (some .int)) { frames := 1, cells := 0, slots := 0, locals := 21 } [.ref (ad (hh_rI r)), .int what] v (fun (q : Int32) (v1 : hh_M) => q = hf_X5_sumOfCalls v r what ∧ v1 = v) := by
  refine hh_Ki_of (by decide) (Nat.le_of_ble_eq_true rfl) ?_
  intro p e s m args below meth c ls A C0 hp hl
  obtain ⟨hx, hb, hr9, hml, hown, hts, hK, hlk, hA⟩ := id C0
  have hnm := hT.1
  have hnh := hT.2.1
  have hnc := hT.2.2.1
  have hbHr := hnh r
  have hbCr := hnc r
  have hl : lv_has ls 4 [(0, .ref (ad (hh_rI r))), (1, .int what)] := hl
  refine lv_iconst (v := 0) hx hb dX5_sumOfCalls_0 (by decide) ?_
  refine lv_istore_n (lv' := [(2, .int 0), (0, .ref (ad (hh_rI r))), (1, .int what)]) hx hb dX5_sumOfCalls_1 rfl hl (by decide) rfl (fun ls hl => ?_)
  refine lv_iconst (v := 0) hx hb dX5_sumOfCalls_2 (by decide) ?_
  refine lv_istore_n (lv' := [(3, .int 0), (2, .int 0), (0, .ref (ad (hh_rI r))), (1, .int what)]) hx hb dX5_sumOfCalls_3 rfl hl (by decide) rfl (fun ls hl => ?_)
  have hL_4 : ∀ (n i : Nat) (a4_2 : Int32) (H : Heap) (locs : List Loc) (ls : Array Slot), i ≤ nc r → nc r - i < n → a4_2 = hh_fld (fun (i9 : Nat) (z : Int32) => hl_X5_sumOfCalls_4 v r what i9 z) i 0 → hh_H D K ad A s.heap v H locs → lv_has ls 4 [(3, .int (nI i)), (2, .int a4_2), (0, .ref (ad (hh_rI r))), (1, .int what)] → W p l e ({ frames := 1, cells := 0, slots := 0, locals := 21 } : Room) s m args below meth c H locs 0 0 (MQ below (va_Qi (fun (q : Int32) (v1 : hh_M) => q = hf_X5_sumOfCalls v r what ∧ v1 = v) (hh_B D K ad A) A) args s 0 0 A) (F0 m 4 ls []) := by
    intro n
    induction n with
    | zero => intro i a4_2 H locs ls h1 h2; omega
    | succ n ih =>
      intro i a4_2 H locs ls hii hni hsL_4 hp hl
      refine lv_iload_n hx hb dX5_sumOfCalls_4 rfl (lv_at hl 0 rfl) ?_
      refine lv_aload_n hx hb dX5_sumOfCalls_5 rfl (lv_at hl 2 rfl) ?_
      refine hh_get C0 hp (C := RX5) (T := TX5) (N := 10) (ci := 5) (hh_b_r hr) (hh_E_r r) rfl hh_uX5 6 (by decide) hm_112 rfl rfl dX5_sumOfCalls_6 ?_
      refine lv_icmp_ge (tgt := 31) hx hb dX5_sumOfCalls_9 (by decide) (fun c_9 => ?_) (fun c_9 => ?_)
      · have hbc_9 : (v (hh_rI r) 6) = nI (nc r) := hh_T_r6 hT r
        rw [hbc_9] at c_9
        have hc_9 := (nI_leI (a := nc r) (b := i) (by omega) (by omega))
        have hltc_9 : nc r ≤ i := by exact hc_9.mp c_9
        have hNL_4 : i = nc r := by omega
        rw [hNL_4] at hsL_4
        have hsL_4 : a4_2 = hh_fld (fun (i9 : Nat) (z : Int32) => hl_X5_sumOfCalls_4 v r what i9 z) ((v (hh_rI r) 6).toNatClampNeg) 0 := by rw [hsL_4, show (v (hh_rI r) 6).toNatClampNeg = nc r from by rw [hh_T_r6 hT r]; exact nI_clamp (by have := hnc r; omega)]
        have ea4_2 : a4_2 = hh_fld (fun (i9 : Nat) (z : Int32) => hl_X5_sumOfCalls_4 v r what i9 z) ((v (hh_rI r) 6).toNatClampNeg) 0 := hsL_4
        clear ih hsL_4
        refine lv_iload_n hx hb dX5_sumOfCalls_31 rfl (lv_at hl 1 rfl) ?_
        exact hh_iret C0 hp dX5_sumOfCalls_32 ⟨(by unfold hf_X5_sumOfCalls; rw [hh_let_eq ea4_2]), rfl⟩
      · have hbc_9 : (v (hh_rI r) 6) = nI (nc r) := hh_T_r6 hT r
        rw [hbc_9] at c_9
        have hc_9 := (nI_leI (a := nc r) (b := i) (by omega) (by omega))
        have hltc_9 : i < nc r := by exact Nat.not_le.mp (fun z => c_9 (hc_9.mpr z))
        have hbC := hnc r
        refine lv_iload_n hx hb dX5_sumOfCalls_12 rfl (lv_at hl 1 rfl) ?_
        refine lv_aload_n hx hb dX5_sumOfCalls_13 rfl (lv_at hl 2 rfl) ?_
        refine hh_get C0 hp (C := RX5) (T := TX5) (N := 10) (ci := 5) (hh_b_r hr) (hh_E_r r) rfl hh_uX5 4 (by decide) hm_105 rfl rfl dX5_sumOfCalls_14 ?_
        refine lv_iload_n hx hb dX5_sumOfCalls_17 rfl (lv_at hl 0 rfl) ?_
        refine hh_aal C0 hp (t0 := 4) (f := (hh_cI r)) (hh_b_C hr) (hh_E_C r) rfl rfl (vp_in_nI (by omega) (by decide)) (nI_clamp (by omega)) dX5_sumOfCalls_18 ?_
        refine lv_iload_n hx hb dX5_sumOfCalls_19 rfl (lv_at hl 3 rfl) ?_
        refine hh_cVi C0 hp (As := [.int what]) (rest := [.int a4_2]) (C := RX0) (T := TX0) (N := 7) (ci := 0) (n := 1) (hk_X0_fact l D K ad hT r i what hr (by omega : i < 24)) rfl (hh_b_c hr (by omega : i < 24)) (hh_E_c r (by omega : i < 24)) (hh_gV hm_269 hm_270 hm_271 hm_107 hm_30) ⟨rfl, rfl⟩ (by decide +kernel) ⟨Nat.le_of_ble_eq_true rfl, Nat.le_of_ble_eq_true rfl⟩ ⟨Nat.zero_le _, Nat.zero_le _⟩ hl.1 rfl rfl (Nat.le_of_ble_eq_true rfl) dX5_sumOfCalls_20 (fun q_20 v_20 H locs hv_20 hp => ?_)
        obtain ⟨eq_20, hv9⟩ := hv_20
        rw [hv9] at hp; clear hv9
        refine lv_iadd hx hb dX5_sumOfCalls_23 ?_
        refine lv_topi (fun x_24 ex_24 => ?_)
        refine lv_istore_n (lv' := [(2, .int x_24), (3, .int (nI i)), (0, .ref (ad (hh_rI r))), (1, .int what)]) hx hb dX5_sumOfCalls_24 rfl hl (by decide) rfl (fun ls hl => ?_)
        refine lv_iinc (v := (nI (i + 1))) (lv' := [(3, .int (nI (i + 1))), (2, .int x_24), (0, .ref (ad (hh_rI r))), (1, .int what)]) hx hb dX5_sumOfCalls_25 hl (k := 1) rfl (nI_1 i) (by decide) rfl (fun ls hl => ?_)
        refine lv_goto (tgt := 4) hx hb dX5_sumOfCalls_28 (by decide) ?_
        exact ih (i + 1) x_24 _ _ _ (by omega) (by omega) (by rw [hh_fld, ← hsL_4]; show _ = hl_X5_sumOfCalls_4 v r what i a4_2; unfold hl_X5_sumOfCalls_4; rw [hh_let_eq eq_20, hh_let_eq ex_24]) hp (lv_sub hl [0, 1, 2, 3] rfl)
  exact hL_4 (nc r + 1) 0 0 _ _ _ (Nat.zero_le _) (by omega) rfl hp (lv_sub hl [0, 1, 2, 3] rfl)
def hl_X5_sumOfHandsets_4 (v : hh_M) (r : Nat) (what : Int32) (i : Nat) (a4_2 : Int32) : Int32 := (hh_let (hf_X1_fact v r i what : Int32) (fun (q_20 : Int32) => (hh_let ((a4_2 + q_20) : Int32) (fun (x_24 : Int32) => x_24))))
def hf_X5_sumOfHandsets (v : hh_M) (r : Nat) (what : Int32) : Int32 := (hh_let (hh_fld (fun (i9 : Nat) (z : Int32) => hl_X5_sumOfHandsets_4 v r what i9 z) ((v (hh_rI r) 5).toNatClampNeg) 0 : Int32) (fun (a4_2 : Int32) => a4_2))
set_option maxHeartbeats 4000000 in
set_option maxRecDepth 100000 in
theorem hk_X5_sumOfHandsets (l : Launch) (D : va_G) (K : Nat → ClassId) (ad : Nat → Nat) {nm : Nat} {nh nc : Nat → Nat} {v : hh_M} (hT : hh_T nm nh nc v) (r : Nat) (what : Int32) (hr : r < 2) : hh_Ki l D K ad yX5_sumOfHandsets (hh_wm yX5_sumOfHandsets cX5_sumOfHandsets 4 (some .int)) { frames := 1, cells := 0, slots := 0, locals := 21 } [.ref (ad (hh_rI r)), .int what] v (fun (q : Int32) (v1 : hh_M) => q = hf_X5_sumOfHandsets v r what ∧ v1 = v) := by
  refine hh_Ki_of (by decide) (Nat.le_of_ble_eq_true rfl) ?_
  intro p e s m args below meth c ls A C0 hp hl
  obtain ⟨hx, hb, hr9, hml, hown, hts, hK, hlk, hA⟩ := id C0
  have hnm := hT.1
  have hnh := hT.2.1
  have hnc := hT.2.2.1
  have hbHr := hnh r
  have hbCr := hnc r
  have hl : lv_has ls 4 [(0, .ref (ad (hh_rI r))), (1, .int what)] := hl
  refine lv_iconst (v := 0) hx hb dX5_sumOfHandsets_0 (by decide) ?_
  refine lv_istore_n (lv' := [(2, .int 0), (0, .ref (ad (hh_rI r))), (1, .int what)]) hx hb dX5_sumOfHandsets_1 rfl hl (by decide) rfl (fun ls hl => ?_)
  refine lv_iconst (v := 0) hx hb dX5_sumOfHandsets_2 (by decide) ?_
  refine lv_istore_n (lv' := [(3, .int 0), (2, .int 0), (0, .ref (ad (hh_rI r))), (1, .int what)]) hx hb dX5_sumOfHandsets_3 rfl hl (by decide) rfl (fun ls hl => ?_)
  have hL_4 : ∀ (n i : Nat) (a4_2 : Int32) (H : Heap) (locs : List Loc) (ls : Array Slot), i ≤ nh r → nh r - i < n → a4_2 = hh_fld (fun (i9 : Nat) (z : Int32) => hl_X5_sumOfHandsets_4 v r what i9 z) i 0 → hh_H D K ad A s.heap v H locs → lv_has ls 4 [(3, .int (nI i)), (2, .int a4_2), (0, .ref (ad (hh_rI r))), (1, .int what)] → W p l e ({ frames := 1, cells := 0, slots := 0, locals := 21 } : Room) s m args below meth c H locs 0 0 (MQ below (va_Qi (fun (q : Int32) (v1 : hh_M) => q = hf_X5_sumOfHandsets v r what ∧ v1 = v) (hh_B D K ad A) A) args s 0 0 A) (F0 m 4 ls []) := by
    intro n
    induction n with
    | zero => intro i a4_2 H locs ls h1 h2; omega
    | succ n ih =>
      intro i a4_2 H locs ls hii hni hsL_4 hp hl
      refine lv_iload_n hx hb dX5_sumOfHandsets_4 rfl (lv_at hl 0 rfl) ?_
      refine lv_aload_n hx hb dX5_sumOfHandsets_5 rfl (lv_at hl 2 rfl) ?_
      refine hh_get C0 hp (C := RX5) (T := TX5) (N := 10) (ci := 5) (hh_b_r hr) (hh_E_r r) rfl hh_uX5 5 (by decide) hm_111 rfl rfl dX5_sumOfHandsets_6 ?_
      refine lv_icmp_ge (tgt := 31) hx hb dX5_sumOfHandsets_9 (by decide) (fun c_9 => ?_) (fun c_9 => ?_)
      · have hbc_9 : (v (hh_rI r) 5) = nI (nh r) := hh_T_r5 hT r
        rw [hbc_9] at c_9
        have hc_9 := (nI_leI (a := nh r) (b := i) (by omega) (by omega))
        have hltc_9 : nh r ≤ i := by exact hc_9.mp c_9
        have hNL_4 : i = nh r := by omega
        rw [hNL_4] at hsL_4
        have hsL_4 : a4_2 = hh_fld (fun (i9 : Nat) (z : Int32) => hl_X5_sumOfHandsets_4 v r what i9 z) ((v (hh_rI r) 5).toNatClampNeg) 0 := by rw [hsL_4, show (v (hh_rI r) 5).toNatClampNeg = nh r from by rw [hh_T_r5 hT r]; exact nI_clamp (by have := hnh r; omega)]
        have ea4_2 : a4_2 = hh_fld (fun (i9 : Nat) (z : Int32) => hl_X5_sumOfHandsets_4 v r what i9 z) ((v (hh_rI r) 5).toNatClampNeg) 0 := hsL_4
        clear ih hsL_4
        refine lv_iload_n hx hb dX5_sumOfHandsets_31 rfl (lv_at hl 1 rfl) ?_
        exact hh_iret C0 hp dX5_sumOfHandsets_32 ⟨(by unfold hf_X5_sumOfHandsets; rw [hh_let_eq ea4_2]), rfl⟩
      · have hbc_9 : (v (hh_rI r) 5) = nI (nh r) := hh_T_r5 hT r
        rw [hbc_9] at c_9
        have hc_9 := (nI_leI (a := nh r) (b := i) (by omega) (by omega))
        have hltc_9 : i < nh r := by exact Nat.not_le.mp (fun z => c_9 (hc_9.mpr z))
        have hbH := hnh r
        refine lv_iload_n hx hb dX5_sumOfHandsets_12 rfl (lv_at hl 1 rfl) ?_
        refine lv_aload_n hx hb dX5_sumOfHandsets_13 rfl (lv_at hl 2 rfl) ?_
        refine hh_get C0 hp (C := RX5) (T := TX5) (N := 10) (ci := 5) (hh_b_r hr) (hh_E_r r) rfl hh_uX5 3 (by decide) hm_101 rfl rfl dX5_sumOfHandsets_14 ?_
        refine lv_iload_n hx hb dX5_sumOfHandsets_17 rfl (lv_at hl 0 rfl) ?_
        refine hh_aal C0 hp (t0 := 3) (f := (hh_hI r)) (hh_b_H hr) (hh_E_H r) rfl rfl (vp_in_nI (by omega) (by decide)) (nI_clamp (by omega)) dX5_sumOfHandsets_18 ?_
        refine lv_iload_n hx hb dX5_sumOfHandsets_19 rfl (lv_at hl 3 rfl) ?_
        refine hh_cVi C0 hp (As := [.int what]) (rest := [.int a4_2]) (C := RX1) (T := TX1) (N := 13) (ci := 1) (n := 1) (hk_X1_fact l D K ad hT r i what hr (by omega : i < 8)) rfl (hh_b_h hr (by omega : i < 8)) (hh_E_h r (by omega : i < 8)) (hh_gV hm_273 hm_274 hm_275 hm_103 hm_51) ⟨rfl, rfl⟩ (by decide +kernel) ⟨Nat.le_of_ble_eq_true rfl, Nat.le_of_ble_eq_true rfl⟩ ⟨Nat.zero_le _, Nat.zero_le _⟩ hl.1 rfl rfl (Nat.le_of_ble_eq_true rfl) dX5_sumOfHandsets_20 (fun q_20 v_20 H locs hv_20 hp => ?_)
        obtain ⟨eq_20, hv9⟩ := hv_20
        rw [hv9] at hp; clear hv9
        refine lv_iadd hx hb dX5_sumOfHandsets_23 ?_
        refine lv_topi (fun x_24 ex_24 => ?_)
        refine lv_istore_n (lv' := [(2, .int x_24), (3, .int (nI i)), (0, .ref (ad (hh_rI r))), (1, .int what)]) hx hb dX5_sumOfHandsets_24 rfl hl (by decide) rfl (fun ls hl => ?_)
        refine lv_iinc (v := (nI (i + 1))) (lv' := [(3, .int (nI (i + 1))), (2, .int x_24), (0, .ref (ad (hh_rI r))), (1, .int what)]) hx hb dX5_sumOfHandsets_25 hl (k := 1) rfl (nI_1 i) (by decide) rfl (fun ls hl => ?_)
        refine lv_goto (tgt := 4) hx hb dX5_sumOfHandsets_28 (by decide) ?_
        exact ih (i + 1) x_24 _ _ _ (by omega) (by omega) (by rw [hh_fld, ← hsL_4]; show _ = hl_X5_sumOfHandsets_4 v r what i a4_2; unfold hl_X5_sumOfHandsets_4; rw [hh_let_eq eq_20, hh_let_eq ex_24]) hp (lv_sub hl [0, 1, 2, 3] rfl)
  exact hL_4 (nh r + 1) 0 0 _ _ _ (Nat.zero_le _) (by omega) rfl hp (lv_sub hl [0, 1, 2, 3] rfl)
def hl_X5_campersOn_4 (v : hh_M) (r : Nat) (mast : Int32) (i : Nat) (a4_2 : Int32) : Int32 := (hh_let (hf_X1_isIdle v r i : Int32) (fun (q_18 : Int32) => (if q_18 = 0 then a4_2 else (if (v (hh_hI r i) 5) = mast then (hh_let ((a4_2 + 1) : Int32) (fun (x_37 : Int32) => x_37)) else a4_2))))
def hf_X5_campersOn (v : hh_M) (r : Nat) (mast : Int32) : Int32 := (hh_let (hh_fld (fun (i9 : Nat) (z : Int32) => hl_X5_campersOn_4 v r mast i9 z) ((v (hh_rI r) 5).toNatClampNeg) 0 : Int32) (fun (a4_2 : Int32) => a4_2))
set_option maxHeartbeats 4000000 in
set_option maxRecDepth 100000 in
theorem hk_X5_campersOn (l : Launch) (D : va_G) (K : Nat → ClassId) (ad : Nat → Nat) {nm : Nat} {nh nc : Nat → Nat} {v : hh_M} (hT : hh_T nm nh nc v) (r : Nat) (mast : Int32) (hr : r < 2) : hh_Ki l D K ad yX5_campersOn (hh_wm yX5_campersOn cX5_campersOn 4 (some .int)) { frames := 1, cells := 0, slots := 0, locals := 20 } [.ref (ad (hh_rI r)), .int mast] v (fun (q : Int32) (v1 : hh_M) => q = hf_X5_campersOn v r mast ∧ v1 = v) := by
  refine hh_Ki_of (by decide) (Nat.le_of_ble_eq_true rfl) ?_
  intro p e s m args below meth c ls A C0 hp hl
  obtain ⟨hx, hb, hr9, hml, hown, hts, hK, hlk, hA⟩ := id C0
  have hnm := hT.1
  have hnh := hT.2.1
  have hnc := hT.2.2.1
  have hbHr := hnh r
  have hbCr := hnc r
  have hl : lv_has ls 4 [(0, .ref (ad (hh_rI r))), (1, .int mast)] := hl
  refine lv_iconst (v := 0) hx hb dX5_campersOn_0 (by decide) ?_
  refine lv_istore_n (lv' := [(2, .int 0), (0, .ref (ad (hh_rI r))), (1, .int mast)]) hx hb dX5_campersOn_1 rfl hl (by decide) rfl (fun ls hl => ?_)
  refine lv_iconst (v := 0) hx hb dX5_campersOn_2 (by decide) ?_
  refine lv_istore_n (lv' := [(3, .int 0), (2, .int 0), (0, .ref (ad (hh_rI r))), (1, .int mast)]) hx hb dX5_campersOn_3 rfl hl (by decide) rfl (fun ls hl => ?_)
  have hL_4 : ∀ (n i : Nat) (a4_2 : Int32) (H : Heap) (locs : List Loc) (ls : Array Slot), i ≤ nh r → nh r - i < n → a4_2 = hh_fld (fun (i9 : Nat) (z : Int32) => hl_X5_campersOn_4 v r mast i9 z) i 0 → hh_H D K ad A s.heap v H locs → lv_has ls 4 [(3, .int (nI i)), (2, .int a4_2), (0, .ref (ad (hh_rI r))), (1, .int mast)] → W p l e ({ frames := 1, cells := 0, slots := 0, locals := 20 } : Room) s m args below meth c H locs 0 0 (MQ below (va_Qi (fun (q : Int32) (v1 : hh_M) => q = hf_X5_campersOn v r mast ∧ v1 = v) (hh_B D K ad A) A) args s 0 0 A) (F0 m 4 ls []) := by
    intro n
    induction n with
    | zero => intro i a4_2 H locs ls h1 h2; omega
    | succ n ih =>
      intro i a4_2 H locs ls hii hni hsL_4 hp hl
      refine lv_iload_n hx hb dX5_campersOn_4 rfl (lv_at hl 0 rfl) ?_
      refine lv_aload_n hx hb dX5_campersOn_5 rfl (lv_at hl 2 rfl) ?_
      refine hh_get C0 hp (C := RX5) (T := TX5) (N := 10) (ci := 5) (hh_b_r hr) (hh_E_r r) rfl hh_uX5 5 (by decide) hm_111 rfl rfl dX5_campersOn_6 ?_
      refine lv_icmp_ge (tgt := 46) hx hb dX5_campersOn_9 (by decide) (fun c_9 => ?_) (fun c_9 => ?_)
      · have hbc_9 : (v (hh_rI r) 5) = nI (nh r) := hh_T_r5 hT r
        rw [hbc_9] at c_9
        have hc_9 := (nI_leI (a := nh r) (b := i) (by omega) (by omega))
        have hltc_9 : nh r ≤ i := by exact hc_9.mp c_9
        have hNL_4 : i = nh r := by omega
        rw [hNL_4] at hsL_4
        have hsL_4 : a4_2 = hh_fld (fun (i9 : Nat) (z : Int32) => hl_X5_campersOn_4 v r mast i9 z) ((v (hh_rI r) 5).toNatClampNeg) 0 := by rw [hsL_4, show (v (hh_rI r) 5).toNatClampNeg = nh r from by rw [hh_T_r5 hT r]; exact nI_clamp (by have := hnh r; omega)]
        have ea4_2 : a4_2 = hh_fld (fun (i9 : Nat) (z : Int32) => hl_X5_campersOn_4 v r mast i9 z) ((v (hh_rI r) 5).toNatClampNeg) 0 := hsL_4
        clear ih hsL_4
        refine lv_iload_n hx hb dX5_campersOn_46 rfl (lv_at hl 1 rfl) ?_
        exact hh_iret C0 hp dX5_campersOn_47 ⟨(by unfold hf_X5_campersOn; rw [hh_let_eq ea4_2]), rfl⟩
      · have hbc_9 : (v (hh_rI r) 5) = nI (nh r) := hh_T_r5 hT r
        rw [hbc_9] at c_9
        have hc_9 := (nI_leI (a := nh r) (b := i) (by omega) (by omega))
        have hltc_9 : i < nh r := by exact Nat.not_le.mp (fun z => c_9 (hc_9.mpr z))
        have hbH := hnh r
        refine lv_aload_n hx hb dX5_campersOn_12 rfl (lv_at hl 2 rfl) ?_
        refine hh_get C0 hp (C := RX5) (T := TX5) (N := 10) (ci := 5) (hh_b_r hr) (hh_E_r r) rfl hh_uX5 3 (by decide) hm_101 rfl rfl dX5_campersOn_13 ?_
        refine lv_iload_n hx hb dX5_campersOn_16 rfl (lv_at hl 0 rfl) ?_
        refine hh_aal C0 hp (t0 := 3) (f := (hh_hI r)) (hh_b_H hr) (hh_E_H r) rfl rfl (vp_in_nI (by omega) (by decide)) (nI_clamp (by omega)) dX5_campersOn_17 ?_
        refine hh_cVi C0 hp (As := []) (rest := []) (C := RX1) (T := TX1) (N := 13) (ci := 1) (n := 0) (hk_X1_isIdle l D K ad hT r i hr (by omega : i < 8)) rfl (hh_b_h hr (by omega : i < 8)) (hh_E_h r (by omega : i < 8)) (hh_gV hm_164 hm_165 hm_166 hm_103 hm_38) ⟨rfl, rfl⟩ (by decide +kernel) ⟨Nat.le_of_ble_eq_true rfl, Nat.le_of_ble_eq_true rfl⟩ ⟨Nat.zero_le _, Nat.zero_le _⟩ hl.1 rfl rfl (Nat.le_of_ble_eq_true rfl) dX5_campersOn_18 (fun q_18 v_18 H locs hv_18 hp => ?_)
        obtain ⟨eq_18, hv9⟩ := hv_18
        rw [hv9] at hp; clear hv9
        refine lv_if_eq (tgt := 40) hx hb dX5_campersOn_21 (by decide) (fun c_21 => ?_) (fun c_21 => ?_)
        · refine lv_iinc (v := (nI (i + 1))) (lv' := [(3, .int (nI (i + 1))), (2, .int a4_2), (0, .ref (ad (hh_rI r))), (1, .int mast)]) hx hb dX5_campersOn_40 hl (k := 0) rfl (nI_1 i) (by decide) rfl (fun ls hl => ?_)
          refine lv_goto (tgt := 4) hx hb dX5_campersOn_43 (by decide) ?_
          exact ih (i + 1) a4_2 _ _ _ (by omega) (by omega) (by rw [hh_fld, ← hsL_4]; show _ = hl_X5_campersOn_4 v r mast i a4_2; unfold hl_X5_campersOn_4; rw [hh_let_eq eq_18, if_pos c_21]) hp (lv_sub hl [0, 1, 2, 3] rfl)
        · refine lv_aload_n hx hb dX5_campersOn_24 rfl (lv_at hl 2 rfl) ?_
          refine hh_get C0 hp (C := RX5) (T := TX5) (N := 10) (ci := 5) (hh_b_r hr) (hh_E_r r) rfl hh_uX5 3 (by decide) hm_101 rfl rfl dX5_campersOn_25 ?_
          refine lv_iload_n hx hb dX5_campersOn_28 rfl (lv_at hl 0 rfl) ?_
          refine hh_aal C0 hp (t0 := 3) (f := (hh_hI r)) (hh_b_H hr) (hh_E_H r) rfl rfl (vp_in_nI (by omega) (by decide)) (nI_clamp (by omega)) dX5_campersOn_29 ?_
          refine hh_get C0 hp (C := RX1) (T := TX1) (N := 13) (ci := 1) (hh_b_h hr (by omega : i < 8)) (hh_E_h r (by omega : i < 8)) rfl hh_uX1 5 (by decide) hm_140 rfl rfl dX5_campersOn_30 ?_
          refine lv_iload_n hx hb dX5_campersOn_33 rfl (lv_at hl 3 rfl) ?_
          refine lv_icmp_ne (tgt := 40) hx hb dX5_campersOn_34 (by decide) (fun c_34 => ?_) (fun c_34 => ?_)
          · refine lv_iinc (v := (nI (i + 1))) (lv' := [(3, .int (nI (i + 1))), (2, .int a4_2), (0, .ref (ad (hh_rI r))), (1, .int mast)]) hx hb dX5_campersOn_40 hl (k := 0) rfl (nI_1 i) (by decide) rfl (fun ls hl => ?_)
            refine lv_goto (tgt := 4) hx hb dX5_campersOn_43 (by decide) ?_
            exact ih (i + 1) a4_2 _ _ _ (by omega) (by omega) (by rw [hh_fld, ← hsL_4]; show _ = hl_X5_campersOn_4 v r mast i a4_2; unfold hl_X5_campersOn_4; rw [hh_let_eq eq_18, if_neg c_21, if_neg c_34]) hp (lv_sub hl [0, 1, 2, 3] rfl)
          · obtain ⟨x_37, ex_37⟩ : ∃ z : Int32, z = (a4_2 + 1) := ⟨_, rfl⟩
            refine lv_iinc (v := x_37) (lv' := [(2, .int x_37), (3, .int (nI i)), (0, .ref (ad (hh_rI r))), (1, .int mast)]) hx hb dX5_campersOn_37 hl (k := 1) rfl (by rw [ex_37]; rfl) (by decide) rfl (fun ls hl => ?_)
            refine lv_iinc (v := (nI (i + 1))) (lv' := [(3, .int (nI (i + 1))), (2, .int x_37), (0, .ref (ad (hh_rI r))), (1, .int mast)]) hx hb dX5_campersOn_40 hl (k := 1) rfl (nI_1 i) (by decide) rfl (fun ls hl => ?_)
            refine lv_goto (tgt := 4) hx hb dX5_campersOn_43 (by decide) ?_
            exact ih (i + 1) x_37 _ _ _ (by omega) (by omega) (by rw [hh_fld, ← hsL_4]; show _ = hl_X5_campersOn_4 v r mast i a4_2; unfold hl_X5_campersOn_4; rw [hh_let_eq eq_18, if_neg c_21, if_pos c_34, hh_let_eq ex_37]) hp (lv_sub hl [0, 1, 2, 3] rfl)
  exact hL_4 (nh r + 1) 0 0 _ _ _ (Nat.zero_le _) (by omega) rfl hp (lv_sub hl [0, 1, 2, 3] rfl)
