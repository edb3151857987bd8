/-! the law: all steps; its setting up -/
section HL5
variable {p : Program} {l : Launch} {e : Env} {s : State} {m : MethodId} {args : Array Value} {below : List Frame} {meth : Method} {c : Code} {H : Heap} {locs : List Loc} {cells slots : Nat} {Q : State → Prop}
variable {b L : Nat} {xs : Nat → Int32} {ls : Array Slot} {D : va_G} {K : Nat → ClassId} {ad : Nat → Nat} {A : Nat → Prop} {v : hh_M} {X : va_W} {nh nc : Nat → Nat} {k qs qn : Nat}
theorem hl_nn {T K9 : Nat} (hT : hh_T 4 nh nc v) (hI : hm_I T K9 v) (hTI : T ≤ 1000) : hl_le (fun _ => 0) v := by
  obtain ⟨a1, a2, a3, a4, a5, a6⟩ := id hI
  have e6 : (v (hh_rI 0) 6).toNatClampNeg = nc 0 := hp_e6 hT
  have e5 : (v (hh_rI 0) 5).toNatClampNeg = nh 0 := by rw [hh_T_r5 hT 0]; exact nI_clamp (by have := hT.2.1 0; omega)
  have c24 := hT.2.2.1 0
  have h8 := hT.2.1 0
  have sc : ∀ {e : Int32} {k : Nat}, (∀ i, hf_X0_fact v 0 i e = v (hh_cI 0 i) k) → (∀ i, i < 24 → 0 ≤ (v (hh_cI 0 i) k).toInt ∧ (v (hh_cI 0 i) k).toInt ≤ 1000000) → (0 : Int) ≤ (hf_X5_sumOfCalls v 0 e).toInt := fun he hb => by
    rw [hs_calls he e6 c24 hb]
    exact hs_nn (fun i hi => (hb i (by omega)).1)
  have z : (0 : Int32).toInt = 0 := rfl
  refine ⟨?_, ?_, ?_, ?_, ?_, ?_, ?_, ?_, ?_⟩
  · rw [hp_m0, a2, z]; omega
  · rw [hp_m3, hh_T_r6 hT 0, nI_toInt (by omega), z]; omega
  · rw [hp_m5, hs_that e6 c24, z]; exact hs_nn (fun i _ => by split <;> decide)
  · rw [hp_m6, z]; exact sc hp_c4 (fun i hi => by have := a3 i hi; omega)
  · rw [hp_m7, z]; exact sc hp_c5 (fun i hi => by have := a3 i hi; omega)
  · rw [hp_m8, z]; exact a5.1
  · rw [hp_m9, z]; exact a6.1
  · rw [hp_m11, hs_hands hp_h8 e5 h8 (fun i hi => by have := a4 i hi; omega), z]; exact hs_nn (fun i hi => (a4 i (by omega)).1.1)
  · rw [hp_m12, z]; exact sc hp_c3 (fun i hi => by have := a3 i hi; omega)
set_option maxHeartbeats 4000000 in
set_option maxRecDepth 100000 in
/-- the run: k steps are done -/
theorem hl_main (C0 : hl_C p s m args meth c D K A b L xs) (hL : L ≤ 260)
    (kk : ∀ (H : Heap) (locs : List Loc) (ls : Array Slot), va_S A s.heap H locs → W p l e room_1 s m args below meth c H locs (191 + 18) (2204 + 9 * 18) Q (F0 m 635 ls [.int 1])) :
    ∀ (n k : Nat) (v : hh_M) (nh nc : Nat → Nat) (f : Nat → Int32) (H : Heap) (locs : List Loc) (ls : Array Slot), k ≤ 18 → 18 - k < n → hp_J k nh nc v → hl_le f v → hl_H D K ad A s.heap v [(qs, .inl (K 0, 12, .inl f))] H locs → lv_has ls 9 [(3, .int (nI k)), (0, .ref b), (1, .ref (ad 0)), (2, .ref qs)] → W p l e room_1 s m args below meth c H locs (191 + k) (2204 + 9 * k) Q (F0 m 153 ls []) := by
  obtain ⟨hx, hb, hml, hown, hts, hK, hA, hX, hbl, hbA⟩ := id C0
  intro n
  induction n with
  | zero => intro k v nh nc f H locs ls h1 h2; omega
  | succ n ih =>
    intro k v nh nc f H locs ls hi hn hJ hle hp hl
    refine lv_iload_n hx hb dL_law_153 rfl (lv_at hl 0 rfl) ?_
    refine lv_bipush (v := 18) hx hb dL_law_154 (by decide) ?_
    refine lv_icmp_ge (tgt := 593) hx hb dL_law_156 (by decide) (fun c9 => ?_) (fun c9 => ?_)
    · have e18 : k = 18 := by
        have := (nI_leI (a := 18) (b := k) (by decide) (by omega)).mp c9
        omega
      subst e18
      exact hl_fin C0 hp hJ.1 hJ.2.1 hJ.2.2.1 ⟨Nat.le_of_ble_eq_true rfl, Nat.le_of_ble_eq_true rfl⟩ (lv_sub hl [2] rfl) kk
    · have hlt : k < 18 := Nat.not_le.mp (fun q => c9 ((nI_leI (a := 18) (b := k) (by decide) (by omega)).mpr q))
      have hf : 191 + k ≤ room_1.cells ∧ 2204 + 9 * k ≤ room_1.slots := ⟨Nat.le_trans (show 191 + k ≤ 1000 by omega) (Nat.le_of_ble_eq_true rfl), Nat.le_trans (show 2204 + 9 * k ≤ 5000 by omega) (Nat.le_of_ble_eq_true rfl)⟩
      have hf1 : 191 + k + 1 ≤ room_1.cells ∧ 2204 + 9 * k + 9 ≤ room_1.slots := ⟨Nat.le_trans (show 191 + k + 1 ≤ 1000 by omega) (Nat.le_of_ble_eq_true rfl), Nat.le_trans (show 2204 + 9 * k + 9 ≤ 5000 by omega) (Nat.le_of_ble_eq_true rfl)⟩
      refine hl_step C0 hp hJ hlt hL hf (lv_sub hl [1, 2, 3, 0] rfl) ?_
      intro v1 nh1 nc1 H locs ls hJR hp hl
      obtain ⟨hJ1, hR⟩ := hJR
      obtain ⟨hT1, h51, h11, T, hT8, hI⟩ := id hJ1
      refine hl_now C0 hp hT1 hf1.1 hf1.2 hl ?_
      intro qn g H locs ls hg hp hl
      refine hl_cmp C0 hf1 ?_ 10 0 f _ _ _ (Nat.zero_le _) (by decide) (hl_le_is (hl_le_R hle hR) hg) (fun j hj => absurd hj (Nat.not_lt_zero j)) hp hl
      intro f1 H locs ls hfg hp hl
      have hp : hl_H D K ad A s.heap v1 ([(qs, .inl (K 0, 12, .inl f1))] ++ [(qn, .inl (K 0, 9, .inl g))]) H locs := hp
      refine hl_after C0 (hl_drop hp) hT1 h51 h11 hI (by omega) (by omega) hf1 hl ?_
      intro H locs ls hp hl
      refine lv_iinc (v := (nI (k + 1))) (lv' := [(3, .int (nI (k + 1))), (0, .ref b), (1, .ref (ad 0)), (2, .ref qs)]) hx hb dL_law_587 hl (k := 3) rfl (nI_1 k) (by decide) rfl (fun ls hl => ?_)
      refine lv_goto (tgt := 153) hx hb dL_law_590 (by decide) ?_
      refine W.widen (k := 191 + (k + 1)) (n := 2204 + 9 * (k + 1)) (by omega) (by omega) ?_
      exact ih (k + 1) v1 nh1 nc1 f1 _ _ _ (by omega) (by omega) hJ1 (hl_is_le hfg hg) hp (lv_sub hl [0, 1, 2, 3] rfl)
set_option maxHeartbeats 4000000 in
set_option maxRecDepth 100000 in
/-- the handsets: k are told -/
theorem hl_hs (C0 : hl_C p s m args meth c D K A b L xs) (hL : L ≤ 260)
    (kk : ∀ (H : Heap) (locs : List Loc) (ls : Array Slot), va_S A s.heap H locs → W p l e room_1 s m args below meth c H locs (191 + 18) (2204 + 9 * 18) Q (F0 m 635 ls [.int 1])) :
    ∀ (n k : Nat) (v : hh_M) (nh nc : Nat → Nat) (H : Heap) (locs : List Loc) (ls : Array Slot), k ≤ 5 → 5 - k < n → hh_T 4 nh nc v → nh 0 = k → nh 1 = 0 → hm_I 0 0 v → hl_H D K ad A s.heap v [] H locs → lv_has ls 9 [(2, .int (nI k)), (0, .ref b), (1, .ref (ad 0))] → W p l e room_1 s m args below meth c H locs 190 2192 Q (F0 m 86 ls []) := by
  obtain ⟨hx, hb, hml, hown, hts, hK, hA, hX, hbl, hbA⟩ := id C0
  intro n
  induction n with
  | zero => intro k v nh nc H locs ls h1 h2; omega
  | succ n ih =>
    intro k v nh nc H locs ls hi hn hT h5 h1 hI hp hl
    refine lv_iload_n hx hb dL_law_86 rfl (lv_at hl 0 rfl) ?_
    refine lv_iconst (v := 5) hx hb dL_law_87 (by decide) ?_
    refine lv_icmp_ge (tgt := 146) hx hb dL_law_88 (by decide) (fun c9 => ?_) (fun c9 => ?_)
    · have e5 : k = 5 := by
        have := (nI_leI (a := 5) (b := k) (by decide) (by omega)).mp c9
        omega
      subst e5
      refine lv_bipush (v := 12) hx hb dL_law_146 (by decide) ?_
      refine hl_new C0 hp (n := 12) (by decide) (by decide) (by decide) (Nat.le_of_ble_eq_true rfl) (Nat.le_of_ble_eq_true rfl) dL_law_148 (fun qs H hp => ?_)
      have hp : hl_H D K ad A s.heap v [(qs, .inl (K 0, 12, .inl (fun _ => 0)))] H locs := hp
      refine lv_astore_n (lv' := [(2, .ref qs), (0, .ref b), (1, .ref (ad 0))]) hx hb dL_law_150 rfl hl (by decide) rfl (fun ls hl => ?_)
      refine lv_iconst (v := 0) hx hb dL_law_151 (by decide) ?_
      refine lv_istore_n (lv' := [(3, .int 0), (2, .ref qs), (0, .ref b), (1, .ref (ad 0))]) hx hb dL_law_152 rfl hl (by decide) rfl (fun ls hl => ?_)
      exact hl_main C0 hL kk 19 0 v nh nc (fun _ => 0) _ _ _ (by decide) (by decide) ⟨hT, h5, by omega, 0, by decide, hI⟩ (hl_nn hT hI (by decide)) hp (lv_sub hl [0, 2, 3, 1] rfl)
    · have hlt : k < 5 := Nat.not_le.mp (fun q => c9 ((nI_leI (a := 5) (b := k) (by decide) (by omega)).mpr q))
      have hf : 190 ≤ room_1.cells ∧ 2192 ≤ room_1.slots := ⟨Nat.le_of_ble_eq_true rfl, Nat.le_of_ble_eq_true rfl⟩
      refine lv_aload_n hx hb dL_law_91 rfl (lv_at hl 1 rfl) ?_
      refine lv_iload_n hx hb dL_law_92 rfl (lv_at hl 0 rfl) ?_
      refine lv_iconst (v := 4) hx hb dL_law_93 (by decide) ?_
      refine lv_iadd hx hb dL_law_94 ?_
      rw [show nI k + 4 = nI (k + 4) from nI_add k 4]
      refine hl_cC C0 hp (k + 4) (by omega) hL hf hl.1 (Nat.le_of_ble_eq_true rfl) rfl dL_law_95 (fun x0 H locs hp => ?_)
      refine lv_bipush (v := 23) hx hb dL_law_98 (by decide) ?_
      refine lv_iload_n hx hb dL_law_100 rfl (lv_at hl 0 rfl) ?_
      refine lv_imul hx hb dL_law_101 ?_
      refine lv_iadd hx hb dL_law_102 ?_
      refine lv_topi (fun x _ => ?_)
      refine lv_istore_n (lv' := [(3, .int x), (2, .int (nI k)), (0, .ref b), (1, .ref (ad 0))]) hx hb dL_law_103 rfl hl (by decide) rfl (fun ls hl => ?_)
      refine lv_aload_n hx hb dL_law_104 rfl (lv_at hl 3 rfl) ?_
      refine lv_iload_n hx hb dL_law_105 rfl (lv_at hl 0 rfl) ?_
      refine lv_iconst (v := 2) hx hb dL_law_106 (by decide) ?_
      refine hl_cB C0 hp 2 rfl (by decide) (by decide) hf hl.1 (Nat.le_of_ble_eq_true rfl) dL_law_107 (fun j1 H locs hj1 hp => ?_)
      refine lv_iload_n hx hb dL_law_110 rfl (lv_at hl 0 rfl) ?_
      refine lv_iconst (v := 1) hx hb dL_law_111 (by decide) ?_
      refine lv_ishr hx hb dL_law_112 ?_
      refine lv_topi (fun sh_112 _ => ?_)
      refine lv_bipush (v := 100) hx hb dL_law_113 (by decide) ?_
      refine hl_cB C0 hp 100 rfl (by decide) (by decide) hf hl.1 (Nat.le_of_ble_eq_true rfl) dL_law_115 (fun j2 H locs hj2 hp => ?_)
      refine lv_iload_n hx hb dL_law_118 rfl (lv_at hl 0 rfl) ?_
      refine lv_iconst (v := 2) hx hb dL_law_119 (by decide) ?_
      refine lv_ishr hx hb dL_law_120 ?_
      refine lv_topi (fun sh_120 _ => ?_)
      refine lv_bipush (v := 7) hx hb dL_law_121 (by decide) ?_
      refine hl_cB C0 hp 7 rfl (by decide) (by decide) hf hl.1 (Nat.le_of_ble_eq_true rfl) dL_law_123 (fun j3 H locs hj3 hp => ?_)
      refine lv_iconst (v := 3) hx hb dL_law_126 (by decide) ?_
      refine lv_isub hx hb dL_law_127 ?_
      refine lv_iload_n hx hb dL_law_128 rfl (lv_at hl 0 rfl) ?_
      refine lv_iconst (v := 3) hx hb dL_law_129 (by decide) ?_
      refine lv_ishr hx hb dL_law_130 ?_
      refine lv_topi (fun sh_130 _ => ?_)
      refine lv_bipush (v := 99) hx hb dL_law_131 (by decide) ?_
      refine hl_cB C0 hp 99 rfl (by decide) (by decide) hf hl.1 (Nat.le_of_ble_eq_true rfl) dL_law_133 (fun j4 H locs hj4 hp => ?_)
      have s9 : ∀ j, j < 7 → (-3 : Int32) ≤ nI j - 3 ∧ nI j - 3 ≤ (3 : Int32) := by decide
      have z0 : ∀ {j : Nat}, j < 1000 → (0 : Int32) ≤ nI j := fun h => nI_pos' (by omega)
      refine hl_cVi C0 hp (As := [.int (nI j1), .int (nI j2), .int (nI j3 - 3), .int (nI j4)]) (rest := []) (n := 4) (hk_X7_handset l D K ad hT (nI j1) (nI j2) (nI j3 - 3) (nI j4) (z0 (by omega)) (nI_le (b := 1) (by omega) (by decide)) (z0 (by omega)) (nI_le (b := 99) (by omega) (by decide)) (s9 j3 hj3).1 (s9 j3 hj3).2 (z0 (by omega)) (nI_le (b := 999) (by omega) (by decide)) (by omega)) hl_g_handset ⟨rfl, rfl⟩ (by decide +kernel) ⟨Nat.le_of_ble_eq_true rfl, Nat.le_of_ble_eq_true rfl⟩ hf hl.1 rfl rfl (Nat.le_of_ble_eq_true rfl) dL_law_136 (fun q_136 v1 H locs hv1 hp => ?_)
      obtain ⟨e1, hT1⟩ := hv1
      have hI1 : hm_I 0 0 v1 := by
        have := hm_handset (op := nI j1) (pl := nI j2) (sp := nI j3 - 3) (ba := nI j4) hI (by rw [hh_T_r5 hT 0, h5, nI_clamp (by omega)]; omega)
        rw [← e1] at this
        exact this
      refine lv_pop hx hb dL_law_139 rfl ?_
      refine lv_iinc (v := (nI (k + 1))) (lv' := [(2, .int (nI (k + 1))), (3, .int x), (0, .ref b), (1, .ref (ad 0))]) hx hb dL_law_140 hl (k := 1) rfl (nI_1 k) (by decide) rfl (fun ls hl => ?_)
      refine lv_goto (tgt := 86) hx hb dL_law_143 (by decide) ?_
      exact ih (k + 1) v1 _ nc _ _ _ (by omega) (by omega) hT1 (by rw [hh_fu_s, h5]) (by rw [hh_fu_n (by decide)]; exact h1) hI1 hp (lv_sub hl [0, 2, 3] rfl)
set_option maxHeartbeats 4000000 in
set_option maxRecDepth 100000 in
/-- the masts: k are told -/
theorem hl_ms (C0 : hl_C p s m args meth c D K A b L xs) (hL : L ≤ 260)
    (kk : ∀ (H : Heap) (locs : List Loc) (ls : Array Slot), va_S A s.heap H locs → W p l e room_1 s m args below meth c H locs (191 + 18) (2204 + 9 * 18) Q (F0 m 635 ls [.int 1])) :
    ∀ (n k : Nat) (v : hh_M) (H : Heap) (locs : List Loc) (ls : Array Slot), k ≤ 4 → 4 - k < n → hh_T k (fun _ => 0) (fun _ => 0) v → hm_I 0 0 v → hl_H D K ad A s.heap v [] H locs → lv_has ls 9 [(2, .int (nI k)), (0, .ref b), (1, .ref (ad 0))] → W p l e room_1 s m args below meth c H locs 190 2192 Q (F0 m 10 ls []) := by
  obtain ⟨hx, hb, hml, hown, hts, hK, hA, hX, hbl, hbA⟩ := id C0
  intro n
  induction n with
  | zero => intro k v H locs ls h1 h2; omega
  | succ n ih =>
    intro k v H locs ls hi hn hT hI hp hl
    refine lv_iload_n hx hb dL_law_10 rfl (lv_at hl 0 rfl) ?_
    refine lv_iconst (v := 4) hx hb dL_law_11 (by decide) ?_
    refine lv_icmp_ge (tgt := 84) hx hb dL_law_12 (by decide) (fun c9 => ?_) (fun c9 => ?_)
    · have e4 : k = 4 := by
        have := (nI_leI (a := 4) (b := k) (by decide) (by omega)).mp c9
        omega
      subst e4
      refine lv_iconst (v := 0) hx hb dL_law_84 (by decide) ?_
      refine lv_istore_n (lv' := [(2, .int 0), (0, .ref b), (1, .ref (ad 0))]) hx hb dL_law_85 rfl hl (by decide) rfl (fun ls hl => ?_)
      exact hl_hs C0 hL kk 6 0 v _ _ _ _ _ (by decide) (by decide) hT rfl rfl hI hp (lv_sub hl [0, 1, 2] rfl)
    · have hlt : k < 4 := Nat.not_le.mp (fun q => c9 ((nI_leI (a := 4) (b := k) (by decide) (by omega)).mpr q))
      have hf : 190 ≤ room_1.cells ∧ 2192 ≤ room_1.slots := ⟨Nat.le_of_ble_eq_true rfl, Nat.le_of_ble_eq_true rfl⟩
      refine lv_aload_n hx hb dL_law_15 rfl (lv_at hl 1 rfl) ?_
      refine lv_iload_n hx hb dL_law_16 rfl (lv_at hl 0 rfl) ?_
      refine hl_cC C0 hp k (by omega) hL hf hl.1 (Nat.le_of_ble_eq_true rfl) rfl dL_law_17 (fun x0 H locs hp => ?_)
      refine lv_bipush (v := 9) hx hb dL_law_20 (by decide) ?_
      refine lv_iload_n hx hb dL_law_22 rfl (lv_at hl 0 rfl) ?_
      refine lv_imul hx hb dL_law_23 ?_
      refine lv_iadd hx hb dL_law_24 ?_
      refine lv_topi (fun x _ => ?_)
      refine lv_istore_n (lv' := [(3, .int x), (2, .int (nI k)), (0, .ref b), (1, .ref (ad 0))]) hx hb dL_law_25 rfl hl (by decide) rfl (fun ls hl => ?_)
      refine lv_aload_n hx hb dL_law_26 rfl (lv_at hl 3 rfl) ?_
      refine lv_iload_n hx hb dL_law_27 rfl (lv_at hl 0 rfl) ?_
      refine lv_bipush (v := 100) hx hb dL_law_28 (by decide) ?_
      refine hl_cB C0 hp 100 rfl (by decide) (by decide) hf hl.1 (Nat.le_of_ble_eq_true rfl) dL_law_30 (fun j1 H locs hj1 hp => ?_)
      refine lv_bipush (v := 10) hx hb dL_law_33 (by decide) ?_
      refine lv_iload_n hx hb dL_law_35 rfl (lv_at hl 0 rfl) ?_
      refine lv_iconst (v := 1) hx hb dL_law_36 (by decide) ?_
      refine lv_ishr hx hb dL_law_37 ?_
      refine lv_topi (fun sh_37 _ => ?_)
      refine lv_bipush (v := 51) hx hb dL_law_38 (by decide) ?_
      refine hl_cB C0 hp 51 rfl (by decide) (by decide) hf hl.1 (Nat.le_of_ble_eq_true rfl) dL_law_40 (fun j2 H locs hj2 hp => ?_)
      refine lv_iadd hx hb dL_law_43 ?_
      rw [show (10 + (nI j2)) = nI (10 + j2) from nI_add 10 j2]
      refine lv_iload_n hx hb dL_law_44 rfl (lv_at hl 0 rfl) ?_
      refine lv_iconst (v := 2) hx hb dL_law_45 (by decide) ?_
      refine lv_ishr hx hb dL_law_46 ?_
      refine lv_topi (fun sh_46 _ => ?_)
      refine lv_iconst (v := 3) hx hb dL_law_47 (by decide) ?_
      refine hl_cB C0 hp 3 rfl (by decide) (by decide) hf hl.1 (Nat.le_of_ble_eq_true rfl) dL_law_48 (fun j3 H locs hj3 hp => ?_)
      refine lv_iconst (v := 1) hx hb dL_law_51 (by decide) ?_
      refine lv_iload_n hx hb dL_law_52 rfl (lv_at hl 0 rfl) ?_
      refine lv_iconst (v := 3) hx hb dL_law_53 (by decide) ?_
      refine lv_ishr hx hb dL_law_54 ?_
      refine lv_topi (fun sh_54 _ => ?_)
      refine lv_iconst (v := 4) hx hb dL_law_55 (by decide) ?_
      refine hl_cB C0 hp 4 rfl (by decide) (by decide) hf hl.1 (Nat.le_of_ble_eq_true rfl) dL_law_56 (fun j4 H locs hj4 hp => ?_)
      refine lv_iadd hx hb dL_law_59 ?_
      rw [show (1 + (nI j4)) = nI (1 + j4) from nI_add 1 j4]
      refine lv_iload_n hx hb dL_law_60 rfl (lv_at hl 0 rfl) ?_
      refine lv_iconst (v := 4) hx hb dL_law_61 (by decide) ?_
      refine lv_ishr hx hb dL_law_62 ?_
      refine lv_topi (fun sh_62 _ => ?_)
      refine lv_iconst (v := 4) hx hb dL_law_63 (by decide) ?_
      refine hl_cB C0 hp 4 rfl (by decide) (by decide) hf hl.1 (Nat.le_of_ble_eq_true rfl) dL_law_64 (fun j5 H locs hj5 hp => ?_)
      refine lv_iload_n hx hb dL_law_67 rfl (lv_at hl 0 rfl) ?_
      refine lv_iconst (v := 5) hx hb dL_law_68 (by decide) ?_
      refine lv_ishr hx hb dL_law_69 ?_
      refine lv_topi (fun sh_69 _ => ?_)
      refine lv_iconst (v := 2) hx hb dL_law_70 (by decide) ?_
      refine hl_cB C0 hp 2 rfl (by decide) (by decide) hf hl.1 (Nat.le_of_ble_eq_true rfl) dL_law_71 (fun j6 H locs hj6 hp => ?_)
      have z0 : ∀ {j : Nat}, j < 1000 → (0 : Int32) ≤ nI j := fun h => nI_pos' (by omega)
      refine hl_cVi C0 hp (As := [.int (nI j1), .int (nI (10 + j2)), .int (nI j3), .int (nI (1 + j4)), .int (nI j5), .int (nI j6)]) (rest := []) (n := 6) (hk_X7_mast l D K ad hT (nI j1) (nI (10 + j2)) (nI j3) (nI (1 + j4)) (nI j5) (nI j6) (z0 (by omega)) (nI_le (b := 99) (by omega) (by decide)) (nI_le (a := 10) (by omega) (by omega)) (nI_le (b := 60) (by omega) (by decide)) (z0 (by omega)) (nI_le (b := 2) (by omega) (by decide)) (nI_le (a := 1) (by omega) (by omega)) (nI_le (b := 4) (by omega) (by decide)) (z0 (by omega)) (nI_le (b := 3) (by omega) (by decide)) (z0 (by omega)) (nI_le (b := 1) (by omega) (by decide)) (by omega)) hl_g_mast ⟨rfl, rfl⟩ (by decide +kernel) ⟨Nat.le_of_ble_eq_true rfl, Nat.le_of_ble_eq_true rfl⟩ hf hl.1 rfl rfl (Nat.le_of_ble_eq_true rfl) dL_law_74 (fun q_74 v1 H locs hv1 hp => ?_)
      obtain ⟨e1, hT1⟩ := hv1
      have hI1 : hm_I 0 0 v1 := by
        have := hm_mast (n := k) (pl := nI j1) (pw := nI (10 + j2)) (fr := nI j3) (ch := nI (1 + j4)) (ar := nI j5) (op := nI j6) hI (hh_T_M hT) (by omega)
        rw [← e1] at this
        exact this
      refine lv_pop hx hb dL_law_77 rfl ?_
      refine lv_iinc (v := (nI (k + 1))) (lv' := [(2, .int (nI (k + 1))), (3, .int x), (0, .ref b), (1, .ref (ad 0))]) hx hb dL_law_78 hl (k := 1) rfl (nI_1 k) (by decide) rfl (fun ls hl => ?_)
      refine lv_goto (tgt := 10) hx hb dL_law_81 (by decide) ?_
      exact ih (k + 1) v1 _ _ _ (by omega) (by omega) hT1 hI1 hp (lv_sub hl [0, 2, 3] rfl)
end HL5
