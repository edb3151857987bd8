/-! 19.digest: laid by program (wip/gen/mk10.py) -/
def hl_X7_addMasts_20 (v : hh_M) (i : Nat) (j : Nat) (a20_3 : Int64) : Int64 := (hh_let (hf_X7_ofMast v (nI i) (nI j) : Int32) (fun (q_37 : Int32) => (hh_let (((a20_3 * 31) + q_37.toInt64) : Int64) (fun (x_42 : Int64) => x_42))))
def hl_X7_addMasts_5 (v : hh_M) (i : Nat) (a5_3 : Int64) : Int64 := (hh_let (hh_fld (fun (i9 : Nat) (z : Int64) => hl_X7_addMasts_20 v i i9 z) 10 a5_3 : Int64) (fun (a20_3 : Int64) => (hh_let (hf_X7_quality v (nI i) 0 : Int32) (fun (q_58 : Int32) => (hh_let (((a20_3 * 31) + q_58.toInt64) : Int64) (fun (x_63 : Int64) => (hh_let (hf_X7_quality v (nI i) 50 : Int32) (fun (q_74 : Int32) => (hh_let (((x_63 * 31) + q_74.toInt64) : Int64) (fun (x_79 : Int64) => x_79))))))))))
def hf_X7_addMasts (v : hh_M) (start : Int64) : Int64 := (hh_let (hh_fld (fun (i9 : Nat) (z : Int64) => hl_X7_addMasts_5 v i9 z) ((v 1 2).toNatClampNeg) start : Int64) (fun (a5_3 : Int64) => a5_3))
set_option maxHeartbeats 4000000 in
set_option maxRecDepth 100000 in
theorem hk_X7_addMasts (l : Launch) (D : va_G) (K : Nat → ClassId) (ad : Nat → Nat) {nm : Nat} {nh nc : Nat → Nat} {v : hh_M} (hT : hh_T nm nh nc v) (start : Int64) : hh_Kl l D K ad yX7_addMasts (hh_wm yX7_addMasts cX7_addMasts 7 (some .long)) { frames := 3, cells := 0, slots := 0, locals := 65 } [.ref (ad 0), .long start] v (fun (q : Int64) (v1 : hh_M) => q = hf_X7_addMasts v start ∧ v1 = v) := by
  refine hh_Kl_of (by decide) (Nat.le_of_ble_eq_true rfl) ?_
  intro p e s m args below meth c ls A C0 hp hl
  obtain ⟨hx, hb, hr9, hml, hown, hts, hK, hlk, hA⟩ := id C0
  have hnm := hT.1
  have hnh := hT.2.1
  have hnc := hT.2.2.1
  have hbH0 := hnh 0
  have hbC0 := hnc 0
  have hbH1 := hnh 1
  have hbC1 := hnc 1
  have hl : lv_has ls 7 [(0, .ref (ad 0)), (1, .long start)] := hl
  refine lv_lload_n hx hb dX7_addMasts_0 rfl (lv_at hl 1 rfl) ?_
  refine lv_lstore_n (lv' := [(3, .long start), (0, .ref (ad 0)), (1, .long start)]) hx hb dX7_addMasts_1 rfl hl (by decide) rfl (fun ls hl => ?_)
  refine lv_iconst (v := 0) hx hb dX7_addMasts_2 (by decide) ?_
  refine lv_istore (lv' := [(5, .int 0), (3, .long start), (0, .ref (ad 0)), (1, .long start)]) hx hb dX7_addMasts_3 hl (by decide) rfl (fun ls hl => ?_)
  have hL_5 : ∀ (n i : Nat) (a5_3 : Int64) (H : Heap) (locs : List Loc) (ls : Array Slot), i ≤ nm → nm - i < n → a5_3 = hh_fld (fun (i9 : Nat) (z : Int64) => hl_X7_addMasts_5 v i9 z) i start → hh_H D K ad A s.heap v H locs → lv_has ls 7 [(5, .int (nI i)), (3, .long a5_3), (0, .ref (ad 0)), (1, .long start)] → W p l e ({ frames := 3, cells := 0, slots := 0, locals := 65 } : Room) s m args below meth c H locs 0 0 (MQ below (va_Ql (fun (q : Int64) (v1 : hh_M) => q = hf_X7_addMasts v start ∧ v1 = v) (hh_B D K ad A) A) args s 0 0 A) (F0 m 5 ls []) := by
    intro n
    induction n with
    | zero => intro i a5_3 H locs ls h1 h2; omega
    | succ n ih =>
      intro i a5_3 H locs ls hii hni hsL_5 hp hl
      refine lv_iload hx hb dX7_addMasts_5 (lv_at hl 0 rfl) ?_
      refine lv_aload_n hx hb dX7_addMasts_7 rfl (lv_at hl 2 rfl) ?_
      refine hh_get C0 hp (C := RX7) (T := TX7) (N := 4) (ci := 7) (by decide) hh_E_0 rfl hh_uX7 0 (by decide) hm_310 rfl rfl dX7_addMasts_8 ?_
      refine hh_get C0 hp (C := RX4) (T := TX4) (N := 3) (ci := 4) (by decide) hh_E_1 rfl hh_uX4 2 (by decide) hm_324 rfl rfl dX7_addMasts_11 ?_
      refine lv_icmp_ge (tgt := 86) hx hb dX7_addMasts_14 (by decide) (fun c_14 => ?_) (fun c_14 => ?_)
      · have hbc_14 : (v 1 2) = nI nm := hh_T_M hT
        rw [hbc_14] at c_14
        have hc_14 := (nI_leI (a := nm) (b := i) (by omega) (by omega))
        have hltc_14 : nm ≤ i := by exact hc_14.mp c_14
        have hNL_5 : i = nm := by omega
        rw [hNL_5] at hsL_5
        have hsL_5 : a5_3 = hh_fld (fun (i9 : Nat) (z : Int64) => hl_X7_addMasts_5 v i9 z) ((v 1 2).toNatClampNeg) start := by rw [hsL_5, show (v 1 2).toNatClampNeg = nm from by rw [hh_T_M hT]; exact nI_clamp (by omega)]
        have ea5_3 : a5_3 = hh_fld (fun (i9 : Nat) (z : Int64) => hl_X7_addMasts_5 v i9 z) ((v 1 2).toNatClampNeg) start := hsL_5
        clear ih hsL_5
        refine lv_lload_n hx hb dX7_addMasts_86 rfl (lv_at hl 1 rfl) ?_
        exact hh_lret C0 hp dX7_addMasts_87 ⟨(by unfold hf_X7_addMasts; rw [hh_let_eq ea5_3]), rfl⟩
      · have hbc_14 : (v 1 2) = nI nm := hh_T_M hT
        rw [hbc_14] at c_14
        have hc_14 := (nI_leI (a := nm) (b := i) (by omega) (by omega))
        have hltc_14 : i < nm := by exact Nat.not_le.mp (fun z => c_14 (hc_14.mpr z))
        refine lv_iconst (v := 0) hx hb dX7_addMasts_17 (by decide) ?_
        refine lv_istore (lv' := [(6, .int 0), (5, .int (nI i)), (3, .long a5_3), (0, .ref (ad 0)), (1, .long start)]) hx hb dX7_addMasts_18 hl (by decide) rfl (fun ls hl => ?_)
        have hL_20 : ∀ (n j : Nat) (a20_3 : Int64) (H : Heap) (locs : List Loc) (ls : Array Slot), j ≤ 10 → 10 - j < n → a20_3 = hh_fld (fun (i9 : Nat) (z : Int64) => hl_X7_addMasts_20 v i i9 z) j a5_3 → hh_H D K ad A s.heap v H locs → lv_has ls 7 [(6, .int (nI j)), (5, .int (nI i)), (3, .long a20_3), (0, .ref (ad 0)), (1, .long start)] → W p l e ({ frames := 3, cells := 0, slots := 0, locals := 65 } : Room) s m args below meth c H locs 0 0 (MQ below (va_Ql (fun (q : Int64) (v1 : hh_M) => q = hf_X7_addMasts v start ∧ v1 = v) (hh_B D K ad A) A) args s 0 0 A) (F0 m 20 ls []) := by
          intro n
          induction n with
          | zero => intro j a20_3 H locs ls h1 h2; omega
          | succ n ih =>
            intro j a20_3 H locs ls hij hnj hsL_20 hp hl
            refine lv_iload hx hb dX7_addMasts_20 (lv_at hl 0 rfl) ?_
            refine lv_bipush (v := 9) hx hb dX7_addMasts_22 (by decide) ?_
            refine lv_icmp_gt (tgt := 49) hx hb dX7_addMasts_24 (by decide) (fun c_24 => ?_) (fun c_24 => ?_)
            · have hbc_24 : 9 = nI 9 := rfl
              rw [hbc_24] at c_24
              have hc_24 := (nI_ltI (a := 9) (b := j) (by omega) (by omega))
              have hltc_24 : 10 ≤ j := by have := hc_24.mp c_24; omega
              have hNL_20 : j = 10 := by omega
              rw [hNL_20] at hsL_20
              have ea20_3 : a20_3 = hh_fld (fun (i9 : Nat) (z : Int64) => hl_X7_addMasts_20 v i i9 z) 10 a5_3 := hsL_20
              clear ih hsL_20
              refine lv_lload_n hx hb dX7_addMasts_49 rfl (lv_at hl 2 rfl) ?_
              refine lv_ldc2 (v := 31) hx hb hown (hts _ hm_447) dX7_addMasts_50 ?_
              refine lv_lmul hx hb dX7_addMasts_53 ?_
              refine lv_aload_n hx hb dX7_addMasts_54 rfl (lv_at hl 3 rfl) ?_
              refine lv_iload hx hb dX7_addMasts_55 (lv_at hl 1 rfl) ?_
              refine lv_iconst (v := 0) hx hb dX7_addMasts_57 (by decide) ?_
              refine hh_cVi C0 hp (As := [.int (nI i), .int 0]) (rest := [.long (a20_3 * 31)]) (C := RX7) (T := TX7) (N := 4) (ci := 7) (n := 2) (hk_X7_quality l D K ad hT (nI i) 0 (nI_pos' (by omega)) (nI_lt (by omega) (by omega)) (by decide) (by decide)) rfl (by decide) hh_E_0 (hh_gV hm_458 hm_459 hm_460 hm_335 hm_397) ⟨rfl, rfl⟩ (by decide +kernel) ⟨Nat.le_of_ble_eq_true rfl, Nat.le_of_ble_eq_true rfl⟩ ⟨Nat.zero_le _, Nat.zero_le _⟩ hl.1 rfl rfl (Nat.le_of_ble_eq_true rfl) dX7_addMasts_58 (fun q_58 v_58 H locs hv_58 hp => ?_)
              obtain ⟨eq_58, hv9⟩ := hv_58
              rw [hv9] at hp; clear hv9
              refine lv_i2l (v := q_58.toInt64) hx hb dX7_addMasts_61 rfl ?_
              refine lv_ladd hx hb dX7_addMasts_62 ?_
              refine lv_topl (fun x_63 ex_63 => ?_)
              refine lv_lstore_n (lv' := [(3, .long x_63), (6, .int (nI j)), (5, .int (nI i)), (0, .ref (ad 0)), (1, .long start)]) hx hb dX7_addMasts_63 rfl hl (by decide) rfl (fun ls hl => ?_)
              refine lv_lload_n hx hb dX7_addMasts_64 rfl (lv_at hl 0 rfl) ?_
              refine lv_ldc2 (v := 31) hx hb hown (hts _ hm_447) dX7_addMasts_65 ?_
              refine lv_lmul hx hb dX7_addMasts_68 ?_
              refine lv_aload_n hx hb dX7_addMasts_69 rfl (lv_at hl 3 rfl) ?_
              refine lv_iload hx hb dX7_addMasts_70 (lv_at hl 2 rfl) ?_
              refine lv_bipush (v := 50) hx hb dX7_addMasts_72 (by decide) ?_
              refine hh_cVi C0 hp (As := [.int (nI i), .int 50]) (rest := [.long (x_63 * 31)]) (C := RX7) (T := TX7) (N := 4) (ci := 7) (n := 2) (hk_X7_quality l D K ad hT (nI i) 50 (nI_pos' (by omega)) (nI_lt (by omega) (by omega)) (by decide) (by decide)) rfl (by decide) hh_E_0 (hh_gV hm_458 hm_459 hm_460 hm_335 hm_397) ⟨rfl, rfl⟩ (by decide +kernel) ⟨Nat.le_of_ble_eq_true rfl, Nat.le_of_ble_eq_true rfl⟩ ⟨Nat.zero_le _, Nat.zero_le _⟩ hl.1 rfl rfl (Nat.le_of_ble_eq_true rfl) dX7_addMasts_74 (fun q_74 v_74 H locs hv_74 hp => ?_)
              obtain ⟨eq_74, hv9⟩ := hv_74
              rw [hv9] at hp; clear hv9
              refine lv_i2l (v := q_74.toInt64) hx hb dX7_addMasts_77 rfl ?_
              refine lv_ladd hx hb dX7_addMasts_78 ?_
              refine lv_topl (fun x_79 ex_79 => ?_)
              refine lv_lstore_n (lv' := [(3, .long x_79), (6, .int (nI j)), (5, .int (nI i)), (0, .ref (ad 0)), (1, .long start)]) hx hb dX7_addMasts_79 rfl hl (by decide) rfl (fun ls hl => ?_)
              refine lv_iinc (v := (nI (i + 1))) (lv' := [(5, .int (nI (i + 1))), (3, .long x_79), (6, .int (nI j)), (0, .ref (ad 0)), (1, .long start)]) hx hb dX7_addMasts_80 hl (k := 2) rfl (nI_1 i) (by decide) rfl (fun ls hl => ?_)
              refine lv_goto (tgt := 5) hx hb dX7_addMasts_83 (by decide) ?_
              exact ih (i + 1) x_79 _ _ _ (by omega) (by omega) (by rw [hh_fld, ← hsL_5]; show _ = hl_X7_addMasts_5 v i a5_3; unfold hl_X7_addMasts_5; rw [hh_let_eq ea20_3, hh_let_eq eq_58, hh_let_eq ex_63, hh_let_eq eq_74, hh_let_eq ex_79]) hp (lv_sub hl [0, 1, 3, 4] rfl)
            · have hbc_24 : 9 = nI 9 := rfl
              rw [hbc_24] at c_24
              have hc_24 := (nI_ltI (a := 9) (b := j) (by omega) (by omega))
              have hltc_24 : j < 10 := by have : ¬ 9 < j := fun z => c_24 (hc_24.mpr z); omega
              refine lv_lload_n hx hb dX7_addMasts_27 rfl (lv_at hl 2 rfl) ?_
              refine lv_ldc2 (v := 31) hx hb hown (hts _ hm_447) dX7_addMasts_28 ?_
              refine lv_lmul hx hb dX7_addMasts_31 ?_
              refine lv_aload_n hx hb dX7_addMasts_32 rfl (lv_at hl 3 rfl) ?_
              refine lv_iload hx hb dX7_addMasts_33 (lv_at hl 1 rfl) ?_
              refine lv_iload hx hb dX7_addMasts_35 (lv_at hl 0 rfl) ?_
              refine hh_cVi C0 hp (As := [.int (nI i), .int (nI j)]) (rest := [.long (a20_3 * 31)]) (C := RX7) (T := TX7) (N := 4) (ci := 7) (n := 2) (hk_X7_ofMast l D K ad hT (nI i) (nI j) (nI_pos' (by omega)) (nI_lt (by omega) (by omega)) (nI_pos' (by omega)) (show nI j ≤ nI 9 from nI_le (by omega) (by decide))) rfl (by decide) hh_E_0 (hh_gV hm_455 hm_456 hm_457 hm_335 hm_401) ⟨rfl, rfl⟩ (by decide +kernel) ⟨Nat.le_of_ble_eq_true rfl, Nat.le_of_ble_eq_true rfl⟩ ⟨Nat.zero_le _, Nat.zero_le _⟩ hl.1 rfl rfl (Nat.le_of_ble_eq_true rfl) dX7_addMasts_37 (fun q_37 v_37 H locs hv_37 hp => ?_)
              obtain ⟨eq_37, hv9⟩ := hv_37
              rw [hv9] at hp; clear hv9
              refine lv_i2l (v := q_37.toInt64) hx hb dX7_addMasts_40 rfl ?_
              refine lv_ladd hx hb dX7_addMasts_41 ?_
              refine lv_topl (fun x_42 ex_42 => ?_)
              refine lv_lstore_n (lv' := [(3, .long x_42), (6, .int (nI j)), (5, .int (nI i)), (0, .ref (ad 0)), (1, .long start)]) hx hb dX7_addMasts_42 rfl hl (by decide) rfl (fun ls hl => ?_)
              refine lv_iinc (v := (nI (j + 1))) (lv' := [(6, .int (nI (j + 1))), (3, .long x_42), (5, .int (nI i)), (0, .ref (ad 0)), (1, .long start)]) hx hb dX7_addMasts_43 hl (k := 1) rfl (nI_1 j) (by decide) rfl (fun ls hl => ?_)
              refine lv_goto (tgt := 20) hx hb dX7_addMasts_46 (by decide) ?_
              exact ih (j + 1) x_42 _ _ _ (by omega) (by omega) (by rw [hh_fld, ← hsL_20]; show _ = hl_X7_addMasts_20 v i j a20_3; unfold hl_X7_addMasts_20; rw [hh_let_eq eq_37, hh_let_eq ex_42]) hp (lv_sub hl [0, 2, 1, 3, 4] rfl)
        exact hL_20 (10 + 1) 0 a5_3 _ _ _ (Nat.zero_le _) (by omega) rfl hp (lv_sub hl [0, 1, 2, 3, 4] rfl)
  exact hL_5 (nm + 1) 0 start _ _ _ (Nat.zero_le _) (by omega) rfl hp (lv_sub hl [0, 1, 2, 3] rfl)
def hl_X7_addHandsets_20 (w_5 : hh_M) (i : Nat) (j : Nat) (a20_3 : Int64) : Int64 := (hh_let (hf_X7_ofHandset w_5 (nI i) (nI j) : Int32) (fun (q_37 : Int32) => (hh_let (((a20_3 * 31) + q_37.toInt64) : Int64) (fun (x_42 : Int64) => x_42))))
def hl_X7_addHandsets_5 (i : Nat) (a5_3 : Int64) (w_5 : hh_M) : Int64 × hh_M := (hh_let (hh_fld (fun (i9 : Nat) (z : Int64) => hl_X7_addHandsets_20 w_5 i i9 z) 11 a5_3 : Int64) (fun (a20_3 : Int64) => (hh_let ((hf_X7_wouldBeOn w_5 (nI i) 8).1 : Int32) (fun (q_59 : Int32) => (hh_let ((hf_X7_wouldBeOn w_5 (nI i) 8).2 : hh_M) (fun (v_59 : hh_M) => (hh_let (((a20_3 * 31) + q_59.toInt64) : Int64) (fun (x_64 : Int64) => (x_64, v_59)))))))))
def hf_X7_addHandsets (v : hh_M) (start : Int64) : Int64 × hh_M := (hh_let ((hh_fld (fun (i9 : Nat) (z : Int64 × hh_M) => hl_X7_addHandsets_5 i9 z.1 z.2) ((v (hh_rI 0) 5).toNatClampNeg) (start, v)).1 : Int64) (fun (a5_3 : Int64) => (hh_let ((hh_fld (fun (i9 : Nat) (z : Int64 × hh_M) => hl_X7_addHandsets_5 i9 z.1 z.2) ((v (hh_rI 0) 5).toNatClampNeg) (start, v)).2 : hh_M) (fun (w_5 : hh_M) => (a5_3, w_5)))))
set_option maxHeartbeats 4000000 in
set_option maxRecDepth 100000 in
theorem hk_X7_addHandsets (l : Launch) (D : va_G) (K : Nat → ClassId) (ad : Nat → Nat) {nm : Nat} {nh nc : Nat → Nat} {v : hh_M} (hT : hh_T nm nh nc v) (start : Int64) (h10 : nh 1 ≤ nh 0) : hh_Kl l D K ad yX7_addHandsets (hh_wm yX7_addHandsets cX7_addHandsets 7 (some .long)) { frames := 5, cells := 0, slots := 0, locals := 118 } [.ref (ad 0), .long start] v (fun (q : Int64) (v1 : hh_M) => (q, v1) = hf_X7_addHandsets v start ∧ (hh_TT nm (nh 0) (nc 0) v1) ∧ hh_F (hh_Pq (nh 0) (nc 0)) v v1) := by
  refine hh_Kl_of (by decide) (Nat.le_of_ble_eq_true rfl) ?_
  intro p e s m args below meth c ls A C0 hp hl
  obtain ⟨hx, hb, hr9, hml, hown, hts, hK, hlk, hA⟩ := id C0
  have hnm := hT.1
  have hnh := hT.2.1
  have hnc := hT.2.2.1
  have hbH0 := hnh 0
  have hbC0 := hnc 0
  have hbH1 := hnh 1
  have hbC1 := hnc 1
  have hl : lv_has ls 7 [(0, .ref (ad 0)), (1, .long start)] := hl
  refine lv_lload_n hx hb dX7_addHandsets_0 rfl (lv_at hl 1 rfl) ?_
  refine lv_lstore_n (lv' := [(3, .long start), (0, .ref (ad 0)), (1, .long start)]) hx hb dX7_addHandsets_1 rfl hl (by decide) rfl (fun ls hl => ?_)
  refine lv_iconst (v := 0) hx hb dX7_addHandsets_2 (by decide) ?_
  refine lv_istore (lv' := [(5, .int 0), (3, .long start), (0, .ref (ad 0)), (1, .long start)]) hx hb dX7_addHandsets_3 hl (by decide) rfl (fun ls hl => ?_)
  have hL_5 : ∀ (n i : Nat) (a5_3 : Int64) (w_5 : hh_M) (H : Heap) (locs : List Loc) (ls : Array Slot), i ≤ nh 0 → nh 0 - i < n → (a5_3, w_5) = hh_fld (fun (i9 : Nat) (z : Int64 × hh_M) => hl_X7_addHandsets_5 i9 z.1 z.2) i (start, v) → hh_TT nm (nh 0) (nc 0) w_5 → hh_F (hh_Pq (nh 0) (nc 0)) v w_5 → hh_H D K ad A s.heap w_5 H locs → lv_has ls 7 [(5, .int (nI i)), (3, .long a5_3), (0, .ref (ad 0)), (1, .long start)] → W p l e ({ frames := 5, cells := 0, slots := 0, locals := 118 } : Room) s m args below meth c H locs 0 0 (MQ below (va_Ql (fun (q : Int64) (v1 : hh_M) => (q, v1) = hf_X7_addHandsets v start ∧ (hh_TT nm (nh 0) (nc 0) v1) ∧ hh_F (hh_Pq (nh 0) (nc 0)) v v1) (hh_B D K ad A) A) args s 0 0 A) (F0 m 5 ls []) := by
    intro n
    induction n with
    | zero => intro i a5_3 w_5 H locs ls h1 h2; omega
    | succ n ih =>
      intro i a5_3 w_5 H locs ls hii hni hsL_5 hTw_5 hFw_5 hp hl
      obtain ⟨nh_5, nc_5, hTw_5, en_5, ec_5, eo_5⟩ := hTw_5
      refine lv_iload hx hb dX7_addHandsets_5 (lv_at hl 0 rfl) ?_
      refine lv_aload_n hx hb dX7_addHandsets_7 rfl (lv_at hl 2 rfl) ?_
      refine hh_get C0 hp (C := RX7) (T := TX7) (N := 4) (ci := 7) (by decide) hh_E_0 rfl hh_uX7 1 (by decide) hm_313 rfl rfl dX7_addHandsets_8 ?_
      refine hh_get C0 hp (C := RX5) (T := TX5) (N := 10) (ci := 5) (hh_b_r (by decide : 0 < 2)) (hh_E_r 0) rfl hh_uX5 5 (by decide) hm_341 rfl rfl dX7_addHandsets_11 ?_
      refine lv_icmp_ge (tgt := 71) hx hb dX7_addHandsets_14 (by decide) (fun c_14 => ?_) (fun c_14 => ?_)
      · have hbc_14 : (w_5 (hh_rI 0) 5) = nI (nh 0) := (hh_T_r5 hTw_5 0).trans (by rw [en_5])
        rw [hbc_14] at c_14
        have hc_14 := (nI_leI (a := nh 0) (b := i) (by omega) (by omega))
        have hltc_14 : nh 0 ≤ i := by exact hc_14.mp c_14
        have hNL_5 : i = nh 0 := by omega
        rw [hNL_5] at hsL_5
        have hsL_5 : (a5_3, w_5) = hh_fld (fun (i9 : Nat) (z : Int64 × hh_M) => hl_X7_addHandsets_5 i9 z.1 z.2) ((v (hh_rI 0) 5).toNatClampNeg) (start, v) := by rw [hsL_5, show (v (hh_rI 0) 5).toNatClampNeg = nh 0 from by rw [hh_T_r5 hT 0]; exact nI_clamp (by omega)]
        have ea5_3 : a5_3 = (hh_fld (fun (i9 : Nat) (z : Int64 × hh_M) => hl_X7_addHandsets_5 i9 z.1 z.2) ((v (hh_rI 0) 5).toNatClampNeg) (start, v)).1 := congrArg (fun z => z.1) hsL_5
        have ew_5 : w_5 = (hh_fld (fun (i9 : Nat) (z : Int64 × hh_M) => hl_X7_addHandsets_5 i9 z.1 z.2) ((v (hh_rI 0) 5).toNatClampNeg) (start, v)).2 := congrArg (fun z => z.2) hsL_5
        clear ih hsL_5
        refine lv_lload_n hx hb dX7_addHandsets_71 rfl (lv_at hl 1 rfl) ?_
        exact hh_lret C0 hp dX7_addHandsets_72 ⟨(by show (_, _) = _; unfold hf_X7_addHandsets; rw [hh_let_eq ea5_3, hh_let_eq ew_5]), ⟨_, _, hTw_5, en_5, ec_5, eo_5⟩, hFw_5⟩
      · have hbc_14 : (w_5 (hh_rI 0) 5) = nI (nh 0) := (hh_T_r5 hTw_5 0).trans (by rw [en_5])
        rw [hbc_14] at c_14
        have hc_14 := (nI_leI (a := nh 0) (b := i) (by omega) (by omega))
        have hltc_14 : i < nh 0 := by exact Nat.not_le.mp (fun z => c_14 (hc_14.mpr z))
        refine lv_iconst (v := 0) hx hb dX7_addHandsets_17 (by decide) ?_
        refine lv_istore (lv' := [(6, .int 0), (5, .int (nI i)), (3, .long a5_3), (0, .ref (ad 0)), (1, .long start)]) hx hb dX7_addHandsets_18 hl (by decide) rfl (fun ls hl => ?_)
        have hL_20 : ∀ (n j : Nat) (a20_3 : Int64) (H : Heap) (locs : List Loc) (ls : Array Slot), j ≤ 11 → 11 - j < n → a20_3 = hh_fld (fun (i9 : Nat) (z : Int64) => hl_X7_addHandsets_20 w_5 i i9 z) j a5_3 → hh_H D K ad A s.heap w_5 H locs → lv_has ls 7 [(6, .int (nI j)), (5, .int (nI i)), (3, .long a20_3), (0, .ref (ad 0)), (1, .long start)] → W p l e ({ frames := 5, cells := 0, slots := 0, locals := 118 } : Room) s m args below meth c H locs 0 0 (MQ below (va_Ql (fun (q : Int64) (v1 : hh_M) => (q, v1) = hf_X7_addHandsets v start ∧ (hh_TT nm (nh 0) (nc 0) v1) ∧ hh_F (hh_Pq (nh 0) (nc 0)) v v1) (hh_B D K ad A) A) args s 0 0 A) (F0 m 20 ls []) := by
          intro n
          induction n with
          | zero => intro j a20_3 H locs ls h1 h2; omega
          | succ n ih =>
            intro j a20_3 H locs ls hij hnj hsL_20 hp hl
            refine lv_iload hx hb dX7_addHandsets_20 (lv_at hl 0 rfl) ?_
            refine lv_bipush (v := 10) hx hb dX7_addHandsets_22 (by decide) ?_
            refine lv_icmp_gt (tgt := 49) hx hb dX7_addHandsets_24 (by decide) (fun c_24 => ?_) (fun c_24 => ?_)
            · have hbc_24 : 10 = nI 10 := rfl
              rw [hbc_24] at c_24
              have hc_24 := (nI_ltI (a := 10) (b := j) (by omega) (by omega))
              have hltc_24 : 11 ≤ j := by have := hc_24.mp c_24; omega
              have hNL_20 : j = 11 := by omega
              rw [hNL_20] at hsL_20
              have ea20_3 : a20_3 = hh_fld (fun (i9 : Nat) (z : Int64) => hl_X7_addHandsets_20 w_5 i i9 z) 11 a5_3 := hsL_20
              clear ih hsL_20
              refine lv_lload_n hx hb dX7_addHandsets_49 rfl (lv_at hl 2 rfl) ?_
              refine lv_ldc2 (v := 31) hx hb hown (hts _ hm_447) dX7_addHandsets_50 ?_
              refine lv_lmul hx hb dX7_addHandsets_53 ?_
              refine lv_aload_n hx hb dX7_addHandsets_54 rfl (lv_at hl 3 rfl) ?_
              refine lv_iload hx hb dX7_addHandsets_55 (lv_at hl 1 rfl) ?_
              refine lv_bipush (v := 8) hx hb dX7_addHandsets_57 (by decide) ?_
              refine hh_cVi C0 hp (As := [.int (nI i), .int 8]) (rest := [.long (a20_3 * 31)]) (C := RX7) (T := TX7) (N := 4) (ci := 7) (n := 2) (hk_X7_wouldBeOn l D K ad hTw_5 (nI i) 8 (nI_pos' (by omega)) (nI_lt (by omega) (by omega)) (by decide) (by decide) (by first | assumption | omega | simp [hh_fu])) rfl (by decide) hh_E_0 (hh_gV hm_468 hm_469 hm_470 hm_335 hm_436) ⟨rfl, rfl⟩ (by decide +kernel) ⟨Nat.le_of_ble_eq_true rfl, Nat.le_of_ble_eq_true rfl⟩ ⟨Nat.zero_le _, Nat.zero_le _⟩ hl.1 rfl rfl (Nat.le_of_ble_eq_true rfl) dX7_addHandsets_59 (fun q_59 v_59 H locs hv_59 hp => ?_)
              obtain ⟨h9, hTv_59, hF9, hpq_59a⟩ := hv_59
              have eq_59 : q_59 = (hf_X7_wouldBeOn w_5 (nI i) 8).1 := congrArg Prod.fst h9
              have ev_59 : v_59 = (hf_X7_wouldBeOn w_5 (nI i) 8).2 := congrArg Prod.snd h9
              clear h9
              have hFv_59 : hh_F (hh_Pq (nh 0) (nc 0)) v v_59 := hh_F.tr hFw_5 (hh_F.mo hF9 (fun j k hj => by first | exact hj | (obtain ⟨rfl, hj⟩ := hj; (first | exact ⟨rfl, hj⟩ | exact Or.inl ⟨rfl, hj⟩ | exact Or.inr (Or.inl ⟨rfl, hj⟩) | exact Or.inr (Or.inr ⟨rfl, hj⟩) | exact hh_Pn_k hj | exact hh_Pn_h (by first | assumption | omega) hj | exact hh_Pn_c (by first | assumption | omega) hj | exact hh_Pn_g (by first | assumption | omega) (by decide) hj); done) | (rcases hj with ⟨rfl, hj⟩ | ⟨rfl, hj⟩ | ⟨rfl, hj⟩ <;> first | exact hh_Pn_c (by first | assumption | omega) hj | exact hh_Pn_g (by first | assumption | omega) (by decide) hj) | (have hj := hj; simp only [hh_fu_s] at hj; first | exact hj | exact Or.inl hj) | exact Or.inr hj | exact Or.inl hj | (rw [en_5, ec_5] at hj; exact hj)))
              clear hF9
              refine lv_i2l (v := q_59.toInt64) hx hb dX7_addHandsets_62 rfl ?_
              refine lv_ladd hx hb dX7_addHandsets_63 ?_
              refine lv_topl (fun x_64 ex_64 => ?_)
              refine lv_lstore_n (lv' := [(3, .long x_64), (6, .int (nI j)), (5, .int (nI i)), (0, .ref (ad 0)), (1, .long start)]) hx hb dX7_addHandsets_64 rfl hl (by decide) rfl (fun ls hl => ?_)
              refine lv_iinc (v := (nI (i + 1))) (lv' := [(5, .int (nI (i + 1))), (3, .long x_64), (6, .int (nI j)), (0, .ref (ad 0)), (1, .long start)]) hx hb dX7_addHandsets_65 hl (k := 2) rfl (nI_1 i) (by decide) rfl (fun ls hl => ?_)
              refine lv_goto (tgt := 5) hx hb dX7_addHandsets_68 (by decide) ?_
              exact ih (i + 1) x_64 v_59 _ _ _ (by omega) (by omega) (by rw [hh_fld, ← hsL_5]; show _ = hl_X7_addHandsets_5 i a5_3 w_5; unfold hl_X7_addHandsets_5; rw [hh_let_eq ea20_3, hh_let_eq eq_59, hh_let_eq ev_59, hh_let_eq ex_64]) ⟨_, _, hTv_59, en_5, ec_5, (Nat.le_of_eq en_5)⟩ hFv_59 hp (lv_sub hl [0, 1, 3, 4] rfl)
            · have hbc_24 : 10 = nI 10 := rfl
              rw [hbc_24] at c_24
              have hc_24 := (nI_ltI (a := 10) (b := j) (by omega) (by omega))
              have hltc_24 : j < 11 := by have : ¬ 10 < j := fun z => c_24 (hc_24.mpr z); omega
              refine lv_lload_n hx hb dX7_addHandsets_27 rfl (lv_at hl 2 rfl) ?_
              refine lv_ldc2 (v := 31) hx hb hown (hts _ hm_447) dX7_addHandsets_28 ?_
              refine lv_lmul hx hb dX7_addHandsets_31 ?_
              refine lv_aload_n hx hb dX7_addHandsets_32 rfl (lv_at hl 3 rfl) ?_
              refine lv_iload hx hb dX7_addHandsets_33 (lv_at hl 1 rfl) ?_
              refine lv_iload hx hb dX7_addHandsets_35 (lv_at hl 0 rfl) ?_
              refine hh_cVi C0 hp (As := [.int (nI i), .int (nI j)]) (rest := [.long (a20_3 * 31)]) (C := RX7) (T := TX7) (N := 4) (ci := 7) (n := 2) (hk_X7_ofHandset l D K ad hTw_5 (nI i) (nI j) (nI_pos' (by omega)) (nI_lt (by omega) (by omega)) (nI_pos' (by omega)) (show nI j ≤ nI 10 from nI_le (by omega) (by decide))) rfl (by decide) hh_E_0 (hh_gV hm_465 hm_466 hm_467 hm_335 hm_409) ⟨rfl, rfl⟩ (by decide +kernel) ⟨Nat.le_of_ble_eq_true rfl, Nat.le_of_ble_eq_true rfl⟩ ⟨Nat.zero_le _, Nat.zero_le _⟩ hl.1 rfl rfl (Nat.le_of_ble_eq_true rfl) dX7_addHandsets_37 (fun q_37 v_37 H locs hv_37 hp => ?_)
              obtain ⟨eq_37, hv9⟩ := hv_37
              rw [hv9] at hp; clear hv9
              refine lv_i2l (v := q_37.toInt64) hx hb dX7_addHandsets_40 rfl ?_
              refine lv_ladd hx hb dX7_addHandsets_41 ?_
              refine lv_topl (fun x_42 ex_42 => ?_)
              refine lv_lstore_n (lv' := [(3, .long x_42), (6, .int (nI j)), (5, .int (nI i)), (0, .ref (ad 0)), (1, .long start)]) hx hb dX7_addHandsets_42 rfl hl (by decide) rfl (fun ls hl => ?_)
              refine lv_iinc (v := (nI (j + 1))) (lv' := [(6, .int (nI (j + 1))), (3, .long x_42), (5, .int (nI i)), (0, .ref (ad 0)), (1, .long start)]) hx hb dX7_addHandsets_43 hl (k := 1) rfl (nI_1 j) (by decide) rfl (fun ls hl => ?_)
              refine lv_goto (tgt := 20) hx hb dX7_addHandsets_46 (by decide) ?_
              exact ih (j + 1) x_42 _ _ _ (by omega) (by omega) (by rw [hh_fld, ← hsL_20]; show _ = hl_X7_addHandsets_20 w_5 i j a20_3; unfold hl_X7_addHandsets_20; rw [hh_let_eq eq_37, hh_let_eq ex_42]) hp (lv_sub hl [0, 2, 1, 3, 4] rfl)
        exact hL_20 (11 + 1) 0 a5_3 _ _ _ (Nat.zero_le _) (by omega) rfl hp (lv_sub hl [0, 1, 2, 3, 4] rfl)
  exact hL_5 (nh 0 + 1) 0 start v _ _ _ (Nat.zero_le _) (by omega) rfl ⟨_, _, hT, rfl, rfl, h10⟩ hh_F_rf hp (lv_sub hl [0, 1, 2, 3] rfl)
def hl_X7_addCalls_20 (w_5 : hh_M) (i : Nat) (j : Nat) (a20_3 : Int64) : Int64 := (hh_let (hf_X7_ofCall w_5 (nI i) (nI j) : Int32) (fun (q_37 : Int32) => (hh_let (((a20_3 * 31) + q_37.toInt64) : Int64) (fun (x_42 : Int64) => x_42))))
def hl_X7_addCalls_5 (i : Nat) (a5_3 : Int64) (w_5 : hh_M) : Int64 × hh_M := (hh_let (hh_fld (fun (i9 : Nat) (z : Int64) => hl_X7_addCalls_20 w_5 i i9 z) 9 a5_3 : Int64) (fun (a20_3 : Int64) => (hh_let ((hf_X7_endsIn w_5 (nI i) 20).1 : Int32) (fun (q_59 : Int32) => (hh_let ((hf_X7_endsIn w_5 (nI i) 20).2 : hh_M) (fun (v_59 : hh_M) => (hh_let (((a20_3 * 31) + q_59.toInt64) : Int64) (fun (x_64 : Int64) => (x_64, v_59)))))))))
def hf_X7_addCalls (v : hh_M) (start : Int64) : Int64 × hh_M := (hh_let ((hh_fld (fun (i9 : Nat) (z : Int64 × hh_M) => hl_X7_addCalls_5 i9 z.1 z.2) ((v (hh_rI 0) 6).toNatClampNeg) (start, v)).1 : Int64) (fun (a5_3 : Int64) => (hh_let ((hh_fld (fun (i9 : Nat) (z : Int64 × hh_M) => hl_X7_addCalls_5 i9 z.1 z.2) ((v (hh_rI 0) 6).toNatClampNeg) (start, v)).2 : hh_M) (fun (w_5 : hh_M) => (a5_3, w_5)))))
set_option maxHeartbeats 4000000 in
set_option maxRecDepth 100000 in
theorem hk_X7_addCalls (l : Launch) (D : va_G) (K : Nat → ClassId) (ad : Nat → Nat) {nm : Nat} {nh nc : Nat → Nat} {v : hh_M} (hT : hh_T nm nh nc v) (start : Int64) (h10 : nh 1 ≤ nh 0) : hh_Kl l D K ad yX7_addCalls (hh_wm yX7_addCalls cX7_addCalls 7 (some .long)) { frames := 5, cells := 0, slots := 0, locals := 118 } [.ref (ad 0), .long start] v (fun (q : Int64) (v1 : hh_M) => (q, v1) = hf_X7_addCalls v start ∧ (hh_TT nm (nh 0) (nc 0) v1) ∧ hh_F (hh_Pq (nh 0) (nc 0)) v v1) := by
  refine hh_Kl_of (by decide) (Nat.le_of_ble_eq_true rfl) ?_
  intro p e s m args below meth c ls A C0 hp hl
  obtain ⟨hx, hb, hr9, hml, hown, hts, hK, hlk, hA⟩ := id C0
  have hnm := hT.1
  have hnh := hT.2.1
  have hnc := hT.2.2.1
  have hbH0 := hnh 0
  have hbC0 := hnc 0
  have hbH1 := hnh 1
  have hbC1 := hnc 1
  have hl : lv_has ls 7 [(0, .ref (ad 0)), (1, .long start)] := hl
  refine lv_lload_n hx hb dX7_addCalls_0 rfl (lv_at hl 1 rfl) ?_
  refine lv_lstore_n (lv' := [(3, .long start), (0, .ref (ad 0)), (1, .long start)]) hx hb dX7_addCalls_1 rfl hl (by decide) rfl (fun ls hl => ?_)
  refine lv_iconst (v := 0) hx hb dX7_addCalls_2 (by decide) ?_
  refine lv_istore (lv' := [(5, .int 0), (3, .long start), (0, .ref (ad 0)), (1, .long start)]) hx hb dX7_addCalls_3 hl (by decide) rfl (fun ls hl => ?_)
  have hL_5 : ∀ (n i : Nat) (a5_3 : Int64) (w_5 : hh_M) (H : Heap) (locs : List Loc) (ls : Array Slot), i ≤ nc 0 → nc 0 - i < n → (a5_3, w_5) = hh_fld (fun (i9 : Nat) (z : Int64 × hh_M) => hl_X7_addCalls_5 i9 z.1 z.2) i (start, v) → hh_TT nm (nh 0) (nc 0) w_5 → hh_F (hh_Pq (nh 0) (nc 0)) v w_5 → hh_H D K ad A s.heap w_5 H locs → lv_has ls 7 [(5, .int (nI i)), (3, .long a5_3), (0, .ref (ad 0)), (1, .long start)] → W p l e ({ frames := 5, cells := 0, slots := 0, locals := 118 } : Room) s m args below meth c H locs 0 0 (MQ below (va_Ql (fun (q : Int64) (v1 : hh_M) => (q, v1) = hf_X7_addCalls v start ∧ (hh_TT nm (nh 0) (nc 0) v1) ∧ hh_F (hh_Pq (nh 0) (nc 0)) v v1) (hh_B D K ad A) A) args s 0 0 A) (F0 m 5 ls []) := by
    intro n
    induction n with
    | zero => intro i a5_3 w_5 H locs ls h1 h2; omega
    | succ n ih =>
      intro i a5_3 w_5 H locs ls hii hni hsL_5 hTw_5 hFw_5 hp hl
      obtain ⟨nh_5, nc_5, hTw_5, en_5, ec_5, eo_5⟩ := hTw_5
      refine lv_iload hx hb dX7_addCalls_5 (lv_at hl 0 rfl) ?_
      refine lv_aload_n hx hb dX7_addCalls_7 rfl (lv_at hl 2 rfl) ?_
      refine hh_get C0 hp (C := RX7) (T := TX7) (N := 4) (ci := 7) (by decide) hh_E_0 rfl hh_uX7 1 (by decide) hm_313 rfl rfl dX7_addCalls_8 ?_
      refine hh_get C0 hp (C := RX5) (T := TX5) (N := 10) (ci := 5) (hh_b_r (by decide : 0 < 2)) (hh_E_r 0) rfl hh_uX5 6 (by decide) hm_370 rfl rfl dX7_addCalls_11 ?_
      refine lv_icmp_ge (tgt := 71) hx hb dX7_addCalls_14 (by decide) (fun c_14 => ?_) (fun c_14 => ?_)
      · have hbc_14 : (w_5 (hh_rI 0) 6) = nI (nc 0) := (hh_T_r6 hTw_5 0).trans (by rw [ec_5])
        rw [hbc_14] at c_14
        have hc_14 := (nI_leI (a := nc 0) (b := i) (by omega) (by omega))
        have hltc_14 : nc 0 ≤ i := by exact hc_14.mp c_14
        have hNL_5 : i = nc 0 := by omega
        rw [hNL_5] at hsL_5
        have hsL_5 : (a5_3, w_5) = hh_fld (fun (i9 : Nat) (z : Int64 × hh_M) => hl_X7_addCalls_5 i9 z.1 z.2) ((v (hh_rI 0) 6).toNatClampNeg) (start, v) := by rw [hsL_5, show (v (hh_rI 0) 6).toNatClampNeg = nc 0 from by rw [hh_T_r6 hT 0]; exact nI_clamp (by omega)]
        have ea5_3 : a5_3 = (hh_fld (fun (i9 : Nat) (z : Int64 × hh_M) => hl_X7_addCalls_5 i9 z.1 z.2) ((v (hh_rI 0) 6).toNatClampNeg) (start, v)).1 := congrArg (fun z => z.1) hsL_5
        have ew_5 : w_5 = (hh_fld (fun (i9 : Nat) (z : Int64 × hh_M) => hl_X7_addCalls_5 i9 z.1 z.2) ((v (hh_rI 0) 6).toNatClampNeg) (start, v)).2 := congrArg (fun z => z.2) hsL_5
        clear ih hsL_5
        refine lv_lload_n hx hb dX7_addCalls_71 rfl (lv_at hl 1 rfl) ?_
        exact hh_lret C0 hp dX7_addCalls_72 ⟨(by show (_, _) = _; unfold hf_X7_addCalls; rw [hh_let_eq ea5_3, hh_let_eq ew_5]), ⟨_, _, hTw_5, en_5, ec_5, eo_5⟩, hFw_5⟩
      · have hbc_14 : (w_5 (hh_rI 0) 6) = nI (nc 0) := (hh_T_r6 hTw_5 0).trans (by rw [ec_5])
        rw [hbc_14] at c_14
        have hc_14 := (nI_leI (a := nc 0) (b := i) (by omega) (by omega))
        have hltc_14 : i < nc 0 := by exact Nat.not_le.mp (fun z => c_14 (hc_14.mpr z))
        refine lv_iconst (v := 0) hx hb dX7_addCalls_17 (by decide) ?_
        refine lv_istore (lv' := [(6, .int 0), (5, .int (nI i)), (3, .long a5_3), (0, .ref (ad 0)), (1, .long start)]) hx hb dX7_addCalls_18 hl (by decide) rfl (fun ls hl => ?_)
        have hL_20 : ∀ (n j : Nat) (a20_3 : Int64) (H : Heap) (locs : List Loc) (ls : Array Slot), j ≤ 9 → 9 - j < n → a20_3 = hh_fld (fun (i9 : Nat) (z : Int64) => hl_X7_addCalls_20 w_5 i i9 z) j a5_3 → hh_H D K ad A s.heap w_5 H locs → lv_has ls 7 [(6, .int (nI j)), (5, .int (nI i)), (3, .long a20_3), (0, .ref (ad 0)), (1, .long start)] → W p l e ({ frames := 5, cells := 0, slots := 0, locals := 118 } : Room) s m args below meth c H locs 0 0 (MQ below (va_Ql (fun (q : Int64) (v1 : hh_M) => (q, v1) = hf_X7_addCalls v start ∧ (hh_TT nm (nh 0) (nc 0) v1) ∧ hh_F (hh_Pq (nh 0) (nc 0)) v v1) (hh_B D K ad A) A) args s 0 0 A) (F0 m 20 ls []) := by
          intro n
          induction n with
          | zero => intro j a20_3 H locs ls h1 h2; omega
          | succ n ih =>
            intro j a20_3 H locs ls hij hnj hsL_20 hp hl
            refine lv_iload hx hb dX7_addCalls_20 (lv_at hl 0 rfl) ?_
            refine lv_bipush (v := 8) hx hb dX7_addCalls_22 (by decide) ?_
            refine lv_icmp_gt (tgt := 49) hx hb dX7_addCalls_24 (by decide) (fun c_24 => ?_) (fun c_24 => ?_)
            · have hbc_24 : 8 = nI 8 := rfl
              rw [hbc_24] at c_24
              have hc_24 := (nI_ltI (a := 8) (b := j) (by omega) (by omega))
              have hltc_24 : 9 ≤ j := by have := hc_24.mp c_24; omega
              have hNL_20 : j = 9 := by omega
              rw [hNL_20] at hsL_20
              have ea20_3 : a20_3 = hh_fld (fun (i9 : Nat) (z : Int64) => hl_X7_addCalls_20 w_5 i i9 z) 9 a5_3 := hsL_20
              clear ih hsL_20
              refine lv_lload_n hx hb dX7_addCalls_49 rfl (lv_at hl 2 rfl) ?_
              refine lv_ldc2 (v := 31) hx hb hown (hts _ hm_447) dX7_addCalls_50 ?_
              refine lv_lmul hx hb dX7_addCalls_53 ?_
              refine lv_aload_n hx hb dX7_addCalls_54 rfl (lv_at hl 3 rfl) ?_
              refine lv_iload hx hb dX7_addCalls_55 (lv_at hl 1 rfl) ?_
              refine lv_bipush (v := 20) hx hb dX7_addCalls_57 (by decide) ?_
              refine hh_cVi C0 hp (As := [.int (nI i), .int 20]) (rest := [.long (a20_3 * 31)]) (C := RX7) (T := TX7) (N := 4) (ci := 7) (n := 2) (hk_X7_endsIn l D K ad hTw_5 (nI i) 20 (nI_pos' (by omega)) (nI_lt (by omega) (by omega)) (by decide) (by decide) (by first | assumption | omega | simp [hh_fu])) rfl (by decide) hh_E_0 (hh_gV hm_478 hm_479 hm_480 hm_335 hm_432) ⟨rfl, rfl⟩ (by decide +kernel) ⟨Nat.le_of_ble_eq_true rfl, Nat.le_of_ble_eq_true rfl⟩ ⟨Nat.zero_le _, Nat.zero_le _⟩ hl.1 rfl rfl (Nat.le_of_ble_eq_true rfl) dX7_addCalls_59 (fun q_59 v_59 H locs hv_59 hp => ?_)
              obtain ⟨h9, hTv_59, hF9⟩ := hv_59
              have eq_59 : q_59 = (hf_X7_endsIn w_5 (nI i) 20).1 := congrArg Prod.fst h9
              have ev_59 : v_59 = (hf_X7_endsIn w_5 (nI i) 20).2 := congrArg Prod.snd h9
              clear h9
              obtain ⟨nh_59, nc_59, hTv_59, en_59, ec_59, eo_59⟩ := hTv_59
              have en_59 := en_59.trans en_5
              have ec_59 := ec_59.trans ec_5
              have eo_59 : nh_59 1 ≤ nh 0 := Nat.le_trans eo_59 (Nat.le_of_eq en_5)
              have hFv_59 : hh_F (hh_Pq (nh 0) (nc 0)) v v_59 := hh_F.tr hFw_5 (hh_F.mo hF9 (fun j k hj => by first | exact hj | (obtain ⟨rfl, hj⟩ := hj; (first | exact ⟨rfl, hj⟩ | exact Or.inl ⟨rfl, hj⟩ | exact Or.inr (Or.inl ⟨rfl, hj⟩) | exact Or.inr (Or.inr ⟨rfl, hj⟩) | exact hh_Pn_k hj | exact hh_Pn_h (by first | assumption | omega) hj | exact hh_Pn_c (by first | assumption | omega) hj | exact hh_Pn_g (by first | assumption | omega) (by decide) hj); done) | (rcases hj with ⟨rfl, hj⟩ | ⟨rfl, hj⟩ | ⟨rfl, hj⟩ <;> first | exact hh_Pn_c (by first | assumption | omega) hj | exact hh_Pn_g (by first | assumption | omega) (by decide) hj) | (have hj := hj; simp only [hh_fu_s] at hj; first | exact hj | exact Or.inl hj) | exact Or.inr hj | exact Or.inl hj | (rw [en_5, ec_5] at hj; exact hj)))
              clear hF9
              refine lv_i2l (v := q_59.toInt64) hx hb dX7_addCalls_62 rfl ?_
              refine lv_ladd hx hb dX7_addCalls_63 ?_
              refine lv_topl (fun x_64 ex_64 => ?_)
              refine lv_lstore_n (lv' := [(3, .long x_64), (6, .int (nI j)), (5, .int (nI i)), (0, .ref (ad 0)), (1, .long start)]) hx hb dX7_addCalls_64 rfl hl (by decide) rfl (fun ls hl => ?_)
              refine lv_iinc (v := (nI (i + 1))) (lv' := [(5, .int (nI (i + 1))), (3, .long x_64), (6, .int (nI j)), (0, .ref (ad 0)), (1, .long start)]) hx hb dX7_addCalls_65 hl (k := 2) rfl (nI_1 i) (by decide) rfl (fun ls hl => ?_)
              refine lv_goto (tgt := 5) hx hb dX7_addCalls_68 (by decide) ?_
              exact ih (i + 1) x_64 v_59 _ _ _ (by omega) (by omega) (by rw [hh_fld, ← hsL_5]; show _ = hl_X7_addCalls_5 i a5_3 w_5; unfold hl_X7_addCalls_5; rw [hh_let_eq ea20_3, hh_let_eq eq_59, hh_let_eq ev_59, hh_let_eq ex_64]) ⟨_, _, hTv_59, en_59, ec_59, eo_59⟩ hFv_59 hp (lv_sub hl [0, 1, 3, 4] rfl)
            · have hbc_24 : 8 = nI 8 := rfl
              rw [hbc_24] at c_24
              have hc_24 := (nI_ltI (a := 8) (b := j) (by omega) (by omega))
              have hltc_24 : j < 9 := by have : ¬ 8 < j := fun z => c_24 (hc_24.mpr z); omega
              refine lv_lload_n hx hb dX7_addCalls_27 rfl (lv_at hl 2 rfl) ?_
              refine lv_ldc2 (v := 31) hx hb hown (hts _ hm_447) dX7_addCalls_28 ?_
              refine lv_lmul hx hb dX7_addCalls_31 ?_
              refine lv_aload_n hx hb dX7_addCalls_32 rfl (lv_at hl 3 rfl) ?_
              refine lv_iload hx hb dX7_addCalls_33 (lv_at hl 1 rfl) ?_
              refine lv_iload hx hb dX7_addCalls_35 (lv_at hl 0 rfl) ?_
              refine hh_cVi C0 hp (As := [.int (nI i), .int (nI j)]) (rest := [.long (a20_3 * 31)]) (C := RX7) (T := TX7) (N := 4) (ci := 7) (n := 2) (hk_X7_ofCall l D K ad hTw_5 (nI i) (nI j) (nI_pos' (by omega)) (nI_lt (by omega) (by omega)) (nI_pos' (by omega)) (show nI j ≤ nI 8 from nI_le (by omega) (by decide))) rfl (by decide) hh_E_0 (hh_gV hm_475 hm_476 hm_477 hm_335 hm_411) ⟨rfl, rfl⟩ (by decide +kernel) ⟨Nat.le_of_ble_eq_true rfl, Nat.le_of_ble_eq_true rfl⟩ ⟨Nat.zero_le _, Nat.zero_le _⟩ hl.1 rfl rfl (Nat.le_of_ble_eq_true rfl) dX7_addCalls_37 (fun q_37 v_37 H locs hv_37 hp => ?_)
              obtain ⟨eq_37, hv9⟩ := hv_37
              rw [hv9] at hp; clear hv9
              refine lv_i2l (v := q_37.toInt64) hx hb dX7_addCalls_40 rfl ?_
              refine lv_ladd hx hb dX7_addCalls_41 ?_
              refine lv_topl (fun x_42 ex_42 => ?_)
              refine lv_lstore_n (lv' := [(3, .long x_42), (6, .int (nI j)), (5, .int (nI i)), (0, .ref (ad 0)), (1, .long start)]) hx hb dX7_addCalls_42 rfl hl (by decide) rfl (fun ls hl => ?_)
              refine lv_iinc (v := (nI (j + 1))) (lv' := [(6, .int (nI (j + 1))), (3, .long x_42), (5, .int (nI i)), (0, .ref (ad 0)), (1, .long start)]) hx hb dX7_addCalls_43 hl (k := 1) rfl (nI_1 j) (by decide) rfl (fun ls hl => ?_)
              refine lv_goto (tgt := 20) hx hb dX7_addCalls_46 (by decide) ?_
              exact ih (j + 1) x_42 _ _ _ (by omega) (by omega) (by rw [hh_fld, ← hsL_20]; show _ = hl_X7_addCalls_20 w_5 i j a20_3; unfold hl_X7_addCalls_20; rw [hh_let_eq eq_37, hh_let_eq ex_42]) hp (lv_sub hl [0, 2, 1, 3, 4] rfl)
        exact hL_20 (9 + 1) 0 a5_3 _ _ _ (Nat.zero_le _) (by omega) rfl hp (lv_sub hl [0, 1, 2, 3, 4] rfl)
  exact hL_5 (nc 0 + 1) 0 start v _ _ _ (Nat.zero_le _) (by omega) rfl ⟨_, _, hT, rfl, rfl, h10⟩ hh_F_rf hp (lv_sub hl [0, 1, 2, 3] rfl)
def hl_X7_digest_6 (v : hh_M) (i : Nat) (a6_1 : Int64) : Int64 := (hh_let (hf_X7_many v (nI i) : Int32) (fun (q_19 : Int32) => (hh_let (((a6_1 * 31) + q_19.toInt64) : Int64) (fun (x_24 : Int64) => x_24))))
def hf_X7_digest (v : hh_M) : Int64 × hh_M := (hh_let (hh_fld (fun (i9 : Nat) (z : Int64) => hl_X7_digest_6 v i9 z) 15 58188 : Int64) (fun (a6_1 : Int64) => (hh_let (hf_X7_addMasts v a6_1 : Int64) (fun (q_33 : Int64) => (hh_let ((hf_X7_addHandsets v q_33).1 : Int64) (fun (q_39 : Int64) => (hh_let ((hf_X7_addHandsets v q_33).2 : hh_M) (fun (v_39 : hh_M) => (hh_let ((hf_X7_addCalls v_39 q_39).1 : Int64) (fun (q_45 : Int64) => (hh_let ((hf_X7_addCalls v_39 q_39).2 : hh_M) (fun (v_45 : hh_M) => (hh_let (hf_X7_best v_45 33 : Int32) (fun (q_57 : Int32) => (hh_let (((q_45 * 31) + q_57.toInt64) : Int64) (fun (x_62 : Int64) => (hh_let (hf_X7_best v_45 66 : Int32) (fun (q_71 : Int32) => (hh_let (((x_62 * 31) + q_71.toInt64) : Int64) (fun (x_76 : Int64) => (hh_let ((hf_X7_bestPlace v_45 30 1).1 : Int32) (fun (q_86 : Int32) => (hh_let ((hf_X7_bestPlace v_45 30 1).2 : hh_M) (fun (v_86 : hh_M) => (((x_76 * 31) + q_86.toInt64), v_86)))))))))))))))))))))))))
set_option maxHeartbeats 4000000 in
set_option maxRecDepth 100000 in
theorem hk_X7_digest (l : Launch) (D : va_G) (K : Nat → ClassId) (ad : Nat → Nat) {nm : Nat} {nh nc : Nat → Nat} {v : hh_M} (hT : hh_T nm nh nc v) (h10 : nh 1 ≤ nh 0) : hh_Kl l D K ad yX7_digest (hh_wm yX7_digest cX7_digest 4 (some .long)) { frames := 6, cells := 0, slots := 0, locals := 144 } [.ref (ad 0)] v (fun (q : Int64) (v1 : hh_M) => (q, v1) = hf_X7_digest v ∧ (hh_TT nm (nh 0) (nc 0) v1) ∧ hh_F (hh_Pq (nh 0) (nc 0)) v v1) := by
  refine hh_Kl_of (by decide) (Nat.le_of_ble_eq_true rfl) ?_
  intro p e s m args below meth c ls A C0 hp hl
  obtain ⟨hx, hb, hr9, hml, hown, hts, hK, hlk, hA⟩ := id C0
  have hnm := hT.1
  have hnh := hT.2.1
  have hnc := hT.2.2.1
  have hbH0 := hnh 0
  have hbC0 := hnc 0
  have hbH1 := hnh 1
  have hbC1 := hnc 1
  have hl : lv_has ls 4 [(0, .ref (ad 0))] := hl
  refine lv_ldc2 (v := 58188) hx hb hown (hts _ hm_446) dX7_digest_0 ?_
  refine lv_lstore_n (lv' := [(1, .long 58188), (0, .ref (ad 0))]) hx hb dX7_digest_3 rfl hl (by decide) rfl (fun ls hl => ?_)
  refine lv_iconst (v := 0) hx hb dX7_digest_4 (by decide) ?_
  refine lv_istore_n (lv' := [(3, .int 0), (1, .long 58188), (0, .ref (ad 0))]) hx hb dX7_digest_5 rfl hl (by decide) rfl (fun ls hl => ?_)
  have hL_6 : ∀ (n i : Nat) (a6_1 : Int64) (H : Heap) (locs : List Loc) (ls : Array Slot), i ≤ 15 → 15 - i < n → a6_1 = hh_fld (fun (i9 : Nat) (z : Int64) => hl_X7_digest_6 v i9 z) i 58188 → hh_H D K ad A s.heap v H locs → lv_has ls 4 [(3, .int (nI i)), (1, .long a6_1), (0, .ref (ad 0))] → W p l e ({ frames := 6, cells := 0, slots := 0, locals := 144 } : Room) s m args below meth c H locs 0 0 (MQ below (va_Ql (fun (q : Int64) (v1 : hh_M) => (q, v1) = hf_X7_digest v ∧ (hh_TT nm (nh 0) (nc 0) v1) ∧ hh_F (hh_Pq (nh 0) (nc 0)) v v1) (hh_B D K ad A) A) args s 0 0 A) (F0 m 6 ls []) := by
    intro n
    induction n with
    | zero => intro i a6_1 H locs ls h1 h2; omega
    | succ n ih =>
      intro i a6_1 H locs ls hii hni hsL_6 hp hl
      refine lv_iload_n hx hb dX7_digest_6 rfl (lv_at hl 0 rfl) ?_
      refine lv_bipush (v := 14) hx hb dX7_digest_7 (by decide) ?_
      refine lv_icmp_gt (tgt := 31) hx hb dX7_digest_9 (by decide) (fun c_9 => ?_) (fun c_9 => ?_)
      · have hbc_9 : 14 = nI 14 := rfl
        rw [hbc_9] at c_9
        have hc_9 := (nI_ltI (a := 14) (b := i) (by omega) (by omega))
        have hltc_9 : 15 ≤ i := by have := hc_9.mp c_9; omega
        have hNL_6 : i = 15 := by omega
        rw [hNL_6] at hsL_6
        have ea6_1 : a6_1 = hh_fld (fun (i9 : Nat) (z : Int64) => hl_X7_digest_6 v i9 z) 15 58188 := hsL_6
        clear ih hsL_6
        refine lv_aload_n hx hb dX7_digest_31 rfl (lv_at hl 2 rfl) ?_
        refine lv_lload_n hx hb dX7_digest_32 rfl (lv_at hl 1 rfl) ?_
        refine hh_cVl C0 hp (As := [.long a6_1]) (rest := []) (C := RX7) (T := TX7) (N := 4) (ci := 7) (n := 1) (hk_X7_addMasts l D K ad hT a6_1) rfl (by decide) hh_E_0 (hh_gV hm_451 hm_452 hm_453 hm_335 hm_454) ⟨rfl, rfl⟩ (by decide +kernel) ⟨Nat.le_of_ble_eq_true rfl, Nat.le_of_ble_eq_true rfl⟩ ⟨Nat.zero_le _, Nat.zero_le _⟩ hl.1 rfl rfl (Nat.le_of_ble_eq_true rfl) dX7_digest_33 (fun q_33 v_33 H locs hv_33 hp => ?_)
        obtain ⟨eq_33, hv9⟩ := hv_33
        rw [hv9] at hp; clear hv9
        refine lv_lstore_n (lv' := [(1, .long q_33), (3, .int (nI i)), (0, .ref (ad 0))]) hx hb dX7_digest_36 rfl hl (by decide) rfl (fun ls hl => ?_)
        refine lv_aload_n hx hb dX7_digest_37 rfl (lv_at hl 2 rfl) ?_
        refine lv_lload_n hx hb dX7_digest_38 rfl (lv_at hl 0 rfl) ?_
        refine hh_cVl C0 hp (As := [.long q_33]) (rest := []) (C := RX7) (T := TX7) (N := 4) (ci := 7) (n := 1) (hk_X7_addHandsets l D K ad hT q_33 (by first | assumption | omega | simp [hh_fu])) rfl (by decide) hh_E_0 (hh_gV hm_461 hm_462 hm_463 hm_335 hm_464) ⟨rfl, rfl⟩ (by decide +kernel) ⟨Nat.le_of_ble_eq_true rfl, Nat.le_of_ble_eq_true rfl⟩ ⟨Nat.zero_le _, Nat.zero_le _⟩ hl.1 rfl rfl (Nat.le_of_ble_eq_true rfl) dX7_digest_39 (fun q_39 v_39 H locs hv_39 hp => ?_)
        obtain ⟨h9, hTv_39, hF9⟩ := hv_39
        have eq_39 : q_39 = (hf_X7_addHandsets v q_33).1 := congrArg Prod.fst h9
        have ev_39 : v_39 = (hf_X7_addHandsets v q_33).2 := congrArg Prod.snd h9
        clear h9
        obtain ⟨nh_39, nc_39, hTv_39, en_39, ec_39, eo_39⟩ := hTv_39
        have en_39 := en_39.trans rfl
        have ec_39 := ec_39.trans rfl
        have eo_39 : nh_39 1 ≤ nh 0 := Nat.le_trans eo_39 (Nat.le_of_eq rfl)
        have hFv_39 : hh_F (hh_Pq (nh 0) (nc 0)) v v_39 := hh_F.tr hh_F_rf (hh_F.mo hF9 (fun j k hj => by first | exact hj | (obtain ⟨rfl, hj⟩ := hj; (first | exact ⟨rfl, hj⟩ | exact Or.inl ⟨rfl, hj⟩ | exact Or.inr (Or.inl ⟨rfl, hj⟩) | exact Or.inr (Or.inr ⟨rfl, hj⟩) | exact hh_Pn_k hj | exact hh_Pn_h (by first | assumption | omega) hj | exact hh_Pn_c (by first | assumption | omega) hj | exact hh_Pn_g (by first | assumption | omega) (by decide) hj); done) | (rcases hj with ⟨rfl, hj⟩ | ⟨rfl, hj⟩ | ⟨rfl, hj⟩ <;> first | exact hh_Pn_c (by first | assumption | omega) hj | exact hh_Pn_g (by first | assumption | omega) (by decide) hj) | (have hj := hj; simp only [hh_fu_s] at hj; first | exact hj | exact Or.inl hj) | exact Or.inr hj | exact Or.inl hj | (rw [(rfl : True = True), (rfl : True = True)] at hj; exact hj)))
        clear hF9
        refine lv_lstore_n (lv' := [(1, .long q_39), (3, .int (nI i)), (0, .ref (ad 0))]) hx hb dX7_digest_42 rfl hl (by decide) rfl (fun ls hl => ?_)
        refine lv_aload_n hx hb dX7_digest_43 rfl (lv_at hl 2 rfl) ?_
        refine lv_lload_n hx hb dX7_digest_44 rfl (lv_at hl 0 rfl) ?_
        refine hh_cVl C0 hp (As := [.long q_39]) (rest := []) (C := RX7) (T := TX7) (N := 4) (ci := 7) (n := 1) (hk_X7_addCalls l D K ad hTv_39 q_39 (by first | assumption | omega | simp [hh_fu])) rfl (by decide) hh_E_0 (hh_gV hm_471 hm_472 hm_473 hm_335 hm_474) ⟨rfl, rfl⟩ (by decide +kernel) ⟨Nat.le_of_ble_eq_true rfl, Nat.le_of_ble_eq_true rfl⟩ ⟨Nat.zero_le _, Nat.zero_le _⟩ hl.1 rfl rfl (Nat.le_of_ble_eq_true rfl) dX7_digest_45 (fun q_45 v_45 H locs hv_45 hp => ?_)
        obtain ⟨h9, hTv_45, hF9⟩ := hv_45
        have eq_45 : q_45 = (hf_X7_addCalls v_39 q_39).1 := congrArg Prod.fst h9
        have ev_45 : v_45 = (hf_X7_addCalls v_39 q_39).2 := congrArg Prod.snd h9
        clear h9
        obtain ⟨nh_45, nc_45, hTv_45, en_45, ec_45, eo_45⟩ := hTv_45
        have en_45 := en_45.trans en_39
        have ec_45 := ec_45.trans ec_39
        have eo_45 : nh_45 1 ≤ nh 0 := Nat.le_trans eo_45 (Nat.le_of_eq en_39)
        have hFv_45 : hh_F (hh_Pq (nh 0) (nc 0)) v v_45 := hh_F.tr hFv_39 (hh_F.mo hF9 (fun j k hj => by first | exact hj | (obtain ⟨rfl, hj⟩ := hj; (first | exact ⟨rfl, hj⟩ | exact Or.inl ⟨rfl, hj⟩ | exact Or.inr (Or.inl ⟨rfl, hj⟩) | exact Or.inr (Or.inr ⟨rfl, hj⟩) | exact hh_Pn_k hj | exact hh_Pn_h (by first | assumption | omega) hj | exact hh_Pn_c (by first | assumption | omega) hj | exact hh_Pn_g (by first | assumption | omega) (by decide) hj); done) | (rcases hj with ⟨rfl, hj⟩ | ⟨rfl, hj⟩ | ⟨rfl, hj⟩ <;> first | exact hh_Pn_c (by first | assumption | omega) hj | exact hh_Pn_g (by first | assumption | omega) (by decide) hj) | (have hj := hj; simp only [hh_fu_s] at hj; first | exact hj | exact Or.inl hj) | exact Or.inr hj | exact Or.inl hj | (rw [en_39, ec_39] at hj; exact hj)))
        clear hF9
        refine lv_lstore_n (lv' := [(1, .long q_45), (3, .int (nI i)), (0, .ref (ad 0))]) hx hb dX7_digest_48 rfl hl (by decide) rfl (fun ls hl => ?_)
        refine lv_lload_n hx hb dX7_digest_49 rfl (lv_at hl 0 rfl) ?_
        refine lv_ldc2 (v := 31) hx hb hown (hts _ hm_447) dX7_digest_50 ?_
        refine lv_lmul hx hb dX7_digest_53 ?_
        refine lv_aload_n hx hb dX7_digest_54 rfl (lv_at hl 2 rfl) ?_
        refine lv_bipush (v := 33) hx hb dX7_digest_55 (by decide) ?_
        refine hh_cVi C0 hp (As := [.int 33]) (rest := [.long (q_45 * 31)]) (C := RX7) (T := TX7) (N := 4) (ci := 7) (n := 1) (hk_X7_best l D K ad hTv_45 33 (by decide) (by decide)) rfl (by decide) hh_E_0 (hh_gV hm_481 hm_482 hm_483 hm_335 hm_399) ⟨rfl, rfl⟩ (by decide +kernel) ⟨Nat.le_of_ble_eq_true rfl, Nat.le_of_ble_eq_true rfl⟩ ⟨Nat.zero_le _, Nat.zero_le _⟩ hl.1 rfl rfl (Nat.le_of_ble_eq_true rfl) dX7_digest_57 (fun q_57 v_57 H locs hv_57 hp => ?_)
        obtain ⟨eq_57, hv9, hpq_57a⟩ := hv_57
        rw [hv9] at hp; clear hv9
        refine lv_i2l (v := q_57.toInt64) hx hb dX7_digest_60 rfl ?_
        refine lv_ladd hx hb dX7_digest_61 ?_
        refine lv_topl (fun x_62 ex_62 => ?_)
        refine lv_lstore_n (lv' := [(1, .long x_62), (3, .int (nI i)), (0, .ref (ad 0))]) hx hb dX7_digest_62 rfl hl (by decide) rfl (fun ls hl => ?_)
        refine lv_lload_n hx hb dX7_digest_63 rfl (lv_at hl 0 rfl) ?_
        refine lv_ldc2 (v := 31) hx hb hown (hts _ hm_447) dX7_digest_64 ?_
        refine lv_lmul hx hb dX7_digest_67 ?_
        refine lv_aload_n hx hb dX7_digest_68 rfl (lv_at hl 2 rfl) ?_
        refine lv_bipush (v := 66) hx hb dX7_digest_69 (by decide) ?_
        refine hh_cVi C0 hp (As := [.int 66]) (rest := [.long (x_62 * 31)]) (C := RX7) (T := TX7) (N := 4) (ci := 7) (n := 1) (hk_X7_best l D K ad hTv_45 66 (by decide) (by decide)) rfl (by decide) hh_E_0 (hh_gV hm_481 hm_482 hm_483 hm_335 hm_399) ⟨rfl, rfl⟩ (by decide +kernel) ⟨Nat.le_of_ble_eq_true rfl, Nat.le_of_ble_eq_true rfl⟩ ⟨Nat.zero_le _, Nat.zero_le _⟩ hl.1 rfl rfl (Nat.le_of_ble_eq_true rfl) dX7_digest_71 (fun q_71 v_71 H locs hv_71 hp => ?_)
        obtain ⟨eq_71, hv9, hpq_71a⟩ := hv_71
        rw [hv9] at hp; clear hv9
        refine lv_i2l (v := q_71.toInt64) hx hb dX7_digest_74 rfl ?_
        refine lv_ladd hx hb dX7_digest_75 ?_
        refine lv_topl (fun x_76 ex_76 => ?_)
        refine lv_lstore_n (lv' := [(1, .long x_76), (3, .int (nI i)), (0, .ref (ad 0))]) hx hb dX7_digest_76 rfl hl (by decide) rfl (fun ls hl => ?_)
        refine lv_lload_n hx hb dX7_digest_77 rfl (lv_at hl 0 rfl) ?_
        refine lv_ldc2 (v := 31) hx hb hown (hts _ hm_447) dX7_digest_78 ?_
        refine lv_lmul hx hb dX7_digest_81 ?_
        refine lv_aload_n hx hb dX7_digest_82 rfl (lv_at hl 2 rfl) ?_
        refine lv_bipush (v := 30) hx hb dX7_digest_83 (by decide) ?_
        refine lv_iconst (v := 1) hx hb dX7_digest_85 (by decide) ?_
        refine hh_cVi C0 hp (As := [.int 30, .int 1]) (rest := [.long (x_76 * 31)]) (C := RX7) (T := TX7) (N := 4) (ci := 7) (n := 2) (hk_X7_bestPlace l D K ad hTv_45 30 1 (by decide) (by decide) (by decide) (by decide)) rfl (by decide) hh_E_0 (hh_gV hm_484 hm_485 hm_486 hm_335 hm_438) ⟨rfl, rfl⟩ (by decide +kernel) ⟨Nat.le_of_ble_eq_true rfl, Nat.le_of_ble_eq_true rfl⟩ ⟨Nat.zero_le _, Nat.zero_le _⟩ hl.1 rfl rfl (Nat.le_of_ble_eq_true rfl) dX7_digest_86 (fun q_86 v_86 H locs hv_86 hp => ?_)
        obtain ⟨h9, hTv_86, hF9, hpq_86a⟩ := hv_86
        have eq_86 : q_86 = (hf_X7_bestPlace v_45 30 1).1 := congrArg Prod.fst h9
        have ev_86 : v_86 = (hf_X7_bestPlace v_45 30 1).2 := congrArg Prod.snd h9
        clear h9
        have hFv_86 : hh_F (hh_Pq (nh 0) (nc 0)) v v_86 := hh_F.tr hFv_45 (hh_F.mo hF9 (fun j k hj => by first | exact hj | (obtain ⟨rfl, hj⟩ := hj; (first | exact ⟨rfl, hj⟩ | exact Or.inl ⟨rfl, hj⟩ | exact Or.inr (Or.inl ⟨rfl, hj⟩) | exact Or.inr (Or.inr ⟨rfl, hj⟩) | exact hh_Pn_k hj | exact hh_Pn_h (by first | assumption | omega) hj | exact hh_Pn_c (by first | assumption | omega) hj | exact hh_Pn_g (by first | assumption | omega) (by decide) hj); done) | (rcases hj with ⟨rfl, hj⟩ | ⟨rfl, hj⟩ | ⟨rfl, hj⟩ <;> first | exact hh_Pn_c (by first | assumption | omega) hj | exact hh_Pn_g (by first | assumption | omega) (by decide) hj) | (have hj := hj; simp only [hh_fu_s] at hj; first | exact hj | exact Or.inl hj) | exact Or.inr hj | exact Or.inl hj | (rw [en_45, ec_45] at hj; exact hj)))
        clear hF9
        refine lv_i2l (v := q_86.toInt64) hx hb dX7_digest_89 rfl ?_
        refine lv_ladd hx hb dX7_digest_90 ?_
        exact hh_lret C0 hp dX7_digest_91 ⟨(by show (_, _) = _; unfold hf_X7_digest; rw [hh_let_eq ea6_1, hh_let_eq eq_33, hh_let_eq eq_39, hh_let_eq ev_39, hh_let_eq eq_45, hh_let_eq ev_45, hh_let_eq eq_57, hh_let_eq ex_62, hh_let_eq eq_71, hh_let_eq ex_76, hh_let_eq eq_86, hh_let_eq ev_86]), ⟨_, _, hTv_86, en_45, ec_45, eo_45⟩, hFv_86⟩
      · have hbc_9 : 14 = nI 14 := rfl
        rw [hbc_9] at c_9
        have hc_9 := (nI_ltI (a := 14) (b := i) (by omega) (by omega))
        have hltc_9 : i < 15 := by have : ¬ 14 < i := fun z => c_9 (hc_9.mpr z); omega
        refine lv_lload_n hx hb dX7_digest_12 rfl (lv_at hl 1 rfl) ?_
        refine lv_ldc2 (v := 31) hx hb hown (hts _ hm_447) dX7_digest_13 ?_
        refine lv_lmul hx hb dX7_digest_16 ?_
        refine lv_aload_n hx hb dX7_digest_17 rfl (lv_at hl 2 rfl) ?_
        refine lv_iload_n hx hb dX7_digest_18 rfl (lv_at hl 0 rfl) ?_
        refine hh_cVi C0 hp (As := [.int (nI i)]) (rest := [.long (a6_1 * 31)]) (C := RX7) (T := TX7) (N := 4) (ci := 7) (n := 1) (hk_X7_many l D K ad hT (nI i) (nI_pos' (by omega)) (show nI i ≤ nI 14 from nI_le (by omega) (by decide))) rfl (by decide) hh_E_0 (hh_gV hm_448 hm_449 hm_450 hm_335 hm_413) ⟨rfl, rfl⟩ (by decide +kernel) ⟨Nat.le_of_ble_eq_true rfl, Nat.le_of_ble_eq_true rfl⟩ ⟨Nat.zero_le _, Nat.zero_le _⟩ hl.1 rfl rfl (Nat.le_of_ble_eq_true rfl) dX7_digest_19 (fun q_19 v_19 H locs hv_19 hp => ?_)
        obtain ⟨eq_19, hv9⟩ := hv_19
        rw [hv9] at hp; clear hv9
        refine lv_i2l (v := q_19.toInt64) hx hb dX7_digest_22 rfl ?_
        refine lv_ladd hx hb dX7_digest_23 ?_
        refine lv_topl (fun x_24 ex_24 => ?_)
        refine lv_lstore_n (lv' := [(1, .long x_24), (3, .int (nI i)), (0, .ref (ad 0))]) hx hb dX7_digest_24 rfl hl (by decide) rfl (fun ls hl => ?_)
        refine lv_iinc (v := (nI (i + 1))) (lv' := [(3, .int (nI (i + 1))), (1, .long x_24), (0, .ref (ad 0))]) hx hb dX7_digest_25 hl (k := 1) rfl (nI_1 i) (by decide) rfl (fun ls hl => ?_)
        refine lv_goto (tgt := 6) hx hb dX7_digest_28 (by decide) ?_
        exact ih (i + 1) x_24 _ _ _ (by omega) (by omega) (by rw [hh_fld, ← hsL_6]; show _ = hl_X7_digest_6 v i a6_1; unfold hl_X7_digest_6; rw [hh_let_eq eq_19, hh_let_eq ex_24]) hp (lv_sub hl [0, 1, 2] rfl)
  exact hL_6 (15 + 1) 0 58188 _ _ _ (Nat.zero_le _) (by omega) rfl hp (lv_sub hl [0, 1, 2] rfl)
