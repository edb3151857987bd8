/-! the law: its inner loops and its end -/
section HL3
variable {p : Program} {l : Launch} {e : Env} {s : State} {m : MethodId} {args : Array Value} {below : List Frame} {meth : Method} {c : Code} {H : Heap} {locs : List Loc} {cells slots : Nat} {Q : State → Prop}
variable {b L : Nat} {xs : Nat → Int32} {ls : Array Slot} {D : va_G} {K : Nat → ClassId} {ad : Nat → Nat} {A : Nat → Prop} {v : hh_M} {X : va_W} {nh nc : Nat → Nat} {k qs qn : Nat}
set_option maxHeartbeats 4000000 in
set_option maxRecDepth 100000 in
/-- the end: two checksums, and what lies between them -/
theorem hl_fin (C0 : hl_C p s m args meth c D K A b L xs) (hp : hl_H D K ad A s.heap v X H locs) (hT : hh_T 4 nh nc v) (h5 : nh 0 = 5) (h1 : nh 1 ≤ 5) (hf : cells ≤ room_1.cells ∧ slots ≤ room_1.slots) (hl : lv_has ls 9 [(1, .ref (ad 0))])
    (kk : ∀ (H : Heap) (locs : List Loc) (ls : Array Slot), va_S A s.heap H locs → W p l e room_1 s m args below meth c H locs cells slots Q (F0 m 635 ls [.int 1])) : W p l e room_1 s m args below meth c H locs cells slots Q (F0 m 593 ls []) := by
  obtain ⟨hx, hb, hml, hown, hts, hK, hA, hX, hbl, hbA⟩ := id C0
  refine lv_aload_n hx hb dL_law_593 rfl (lv_at hl 0 rfl) ?_
  refine hl_cVl C0 hp (As := []) (rest := []) (n := 0) (hk_X7_digest l D K ad hT (by omega)) hl_g_digest ⟨rfl, rfl⟩ (by decide +kernel) ⟨Nat.le_of_ble_eq_true rfl, Nat.le_of_ble_eq_true rfl⟩ hf hl.1 rfl rfl (Nat.le_of_ble_eq_true rfl) dL_law_594 (fun q_594 v1 H locs hv1 hp => ?_)
  obtain ⟨e1, ⟨nh1, nc1, hT1, a1, a2, a3⟩, hF1⟩ := hv1
  refine lv_lstore_n (lv' := [(3, .long q_594), (1, .ref (ad 0))]) hx hb dL_law_597 rfl hl (by decide) rfl (fun ls hl => ?_)
  refine lv_aload_n hx hb dL_law_598 rfl (lv_at hl 1 rfl) ?_
  refine lv_iconst (v := 0) hx hb dL_law_599 (by decide) ?_
  refine lv_bipush (v := 30) hx hb dL_law_600 (by decide) ?_
  refine hl_cVi C0 hp (As := [.int 0, .int 30]) (rest := []) (n := 2) (hk_X7_wouldBeOn l D K ad hT1 0 30 (by decide) (by rw [a1, h5]; decide) (by decide) (by decide) (by omega)) hl_g_wouldBeOn ⟨rfl, rfl⟩ (by decide +kernel) ⟨Nat.le_of_ble_eq_true rfl, Nat.le_of_ble_eq_true rfl⟩ hf hl.1 rfl rfl (Nat.le_of_ble_eq_true rfl) dL_law_602 (fun q_602 v2 H locs hv2 hp => ?_)
  obtain ⟨e2, hT2, hF2, -, r2⟩ := hv2
  refine lv_iconst (v := 4) hx hb dL_law_605 (by decide) ?_
  refine lv_icmp_ge (tgt := 634) hx hb dL_law_606 (by decide) (fun c9 => absurd r2 (Int32.not_lt.mpr c9)) (fun _ => ?_)
  refine lv_aload_n hx hb dL_law_609 rfl (lv_at hl 1 rfl) ?_
  refine lv_bipush (v := 40) hx hb dL_law_610 (by decide) ?_
  refine lv_iconst (v := 1) hx hb dL_law_612 (by decide) ?_
  refine hl_cVi C0 hp (As := [.int 40, .int 1]) (rest := []) (n := 2) (hk_X7_bestPlace l D K ad hT2 40 1 (by decide) (by decide) (by decide) (by decide)) hl_g_bestPlace ⟨rfl, rfl⟩ (by decide +kernel) ⟨Nat.le_of_ble_eq_true rfl, Nat.le_of_ble_eq_true rfl⟩ hf hl.1 rfl rfl (Nat.le_of_ble_eq_true rfl) dL_law_613 (fun q_613 v3 H locs hv3 hp => ?_)
  obtain ⟨e3, hT3, hF3, -, r3⟩ := hv3
  refine lv_bipush (v := 100) hx hb dL_law_616 (by decide) ?_
  refine lv_icmp_ge (tgt := 634) hx hb dL_law_618 (by decide) (fun c9 => absurd r3 (Int32.not_lt.mpr c9)) (fun _ => ?_)
  refine lv_aload_n hx hb dL_law_621 rfl (lv_at hl 1 rfl) ?_
  refine hl_cVl C0 hp (As := []) (rest := []) (n := 0) (hk_X7_digest l D K ad hT3 (by rw [hh_fu_s, hh_fu_n (by decide)]; exact Nat.le_refl _)) hl_g_digest ⟨rfl, rfl⟩ (by decide +kernel) ⟨Nat.le_of_ble_eq_true rfl, Nat.le_of_ble_eq_true rfl⟩ hf hl.1 rfl rfl (Nat.le_of_ble_eq_true rfl) dL_law_622 (fun q_622 v4 H locs hv4 hp => ?_)
  obtain ⟨e4, -, -⟩ := hv4
  refine lv_lload_n hx hb dL_law_625 rfl (lv_at hl 0 rfl) ?_
  have g2 : hh_F (hh_Pq (nh 0) (nc 0)) v1 v2 := by rw [a1, a2] at hF2; exact hF2
  have g3 : hh_F (hh_Pq (nh 0) (nc 0)) v2 v3 := by rw [hh_fu_n (by decide), hh_fu_n (by decide), a1, a2] at hF3; exact hF3
  have f0 : hh_F (hh_Pq (nh 0) (nc 0)) v v3 := (hF1.tr g2).tr g3
  have eq : q_622 = q_594 := by
    have h1 : q_594 = (hf_X7_digest v).1 := congrArg Prod.fst e1
    have h4 : q_622 = (hf_X7_digest v3).1 := congrArg Prod.fst e4
    rw [h1, h4]
    exact (hp_sum hT f0).symm
  refine W.lcmp hx hb dL_law_626 ?_
  rw [show lg_cmp q_622 q_594 = 0 by rw [eq]; unfold lg_cmp; rw [if_neg Int64.lt_irrefl, if_pos rfl]]
  refine lv_if_ne (tgt := 634) hx hb dL_law_627 (by decide) (fun c9 => absurd rfl c9) (fun _ => ?_)
  refine lv_iconst (v := 1) hx hb dL_law_630 (by decide) ?_
  refine lv_goto (tgt := 635) hx hb dL_law_631 (by decide) ?_
  exact kk _ _ _ hp.2.2
set_option maxHeartbeats 4000000 in
set_option maxRecDepth 100000 in
/-- who has ended ends in no time -/
theorem hl_ended (C0 : hl_C p s m args meth c D K A b L xs) (hT : hh_T 4 nh nc v) (h5 : nh 0 = 5) (h1 : nh 1 ≤ 5) (hf : cells ≤ room_1.cells ∧ slots ≤ room_1.slots)
    (kk : ∀ (H : Heap) (locs : List Loc) (ls : Array Slot), hl_H D K ad A s.heap v X H locs → lv_has ls 9 [(0, .ref b), (1, .ref (ad 0)), (2, .ref qs), (3, .int (nI k))] → W p l e room_1 s m args below meth c H locs cells slots Q (F0 m 587 ls [])) :
    ∀ (n i : Nat) (H : Heap) (locs : List Loc) (ls : Array Slot), i ≤ nc 0 → nc 0 - i < n → hl_H D K ad A s.heap v X H locs → lv_has ls 9 [(8, .int (nI i)), (0, .ref b), (1, .ref (ad 0)), (2, .ref qs), (3, .int (nI k))] → W p l e room_1 s m args below meth c H locs cells slots Q (F0 m 547 ls []) := by
  obtain ⟨hx, hb, hml, hown, hts, hK, hA, hX, hbl, hbA⟩ := id C0
  have hnc := hT.2.2.1 0
  intro n
  induction n with
  | zero => intro i H locs ls h1 h2; omega
  | succ n ih =>
    intro i H locs ls hi hn hp hl
    refine lv_iload hx hb dL_law_547 (lv_at hl 0 rfl) ?_
    refine lv_aload_n hx hb dL_law_549 rfl (lv_at hl 2 rfl) ?_
    refine lv_iconst (v := 3) hx hb dL_law_550 (by decide) ?_
    refine hl_cVi C0 hp (As := [.int 3]) (rest := [.int (nI i)]) (n := 1) (hk_X7_many l D K ad hT 3 (by decide) (by decide)) hl_g_many ⟨rfl, rfl⟩ (by decide +kernel) ⟨Nat.le_of_ble_eq_true rfl, Nat.le_of_ble_eq_true rfl⟩ hf hl.1 rfl rfl (Nat.le_of_ble_eq_true rfl) dL_law_551 (fun q_551 v_551 H locs hv_551 hp => ?_)
    obtain ⟨e_551, hv9⟩ := hv_551
    rw [hv9] at hp; clear hv9
    rw [e_551]
    rw [hp_m3, hh_T_r6 hT 0]
    refine lv_icmp_ge (tgt := 587) hx hb dL_law_554 (by decide) (fun c9 => ?_) (fun c9 => ?_)
    · exact kk _ _ _ hp (lv_sub hl [1, 2, 3, 4] rfl)
    · have hlt : i < nc 0 := by
        rcases Nat.lt_or_ge i (nc 0) with q | q
        · exact q
        · exact absurd (nI_le q (by omega)) c9
      refine lv_aload_n hx hb dL_law_557 rfl (lv_at hl 2 rfl) ?_
      refine lv_iload hx hb dL_law_558 (lv_at hl 0 rfl) ?_
      refine lv_bipush (v := 6) hx hb dL_law_560 (by decide) ?_
      refine hl_cVi C0 hp (As := [.int (nI i), .int 6]) (rest := []) (n := 2) (hk_X7_ofCall l D K ad hT (nI i) 6 (nI_pos' (by omega)) (nI_lt hlt (by omega)) (by decide) (by decide)) hl_g_ofCall ⟨rfl, rfl⟩ (by decide +kernel) ⟨Nat.le_of_ble_eq_true rfl, Nat.le_of_ble_eq_true rfl⟩ hf hl.1 rfl rfl (Nat.le_of_ble_eq_true rfl) dL_law_562 (fun q_562 v_562 H locs hv_562 hp => ?_)
      obtain ⟨e_562, hv9⟩ := hv_562
      rw [hv9] at hp; clear hv9
      rw [hp_of6, nI_clamp (by omega)] at e_562
      have tail : ∀ (H : Heap) (locs : List Loc), hl_H D K ad A s.heap v X H locs → W p l e room_1 s m args below meth c H locs cells slots Q (F0 m 581 ls []) := fun H locs hp => by
        refine lv_iinc (v := (nI (i + 1))) (lv' := [(8, .int (nI (i + 1))), (0, .ref b), (1, .ref (ad 0)), (2, .ref qs), (3, .int (nI k))]) hx hb dL_law_581 hl (k := 0) rfl (nI_1 i) (by decide) rfl (fun ls hl => ?_)
        refine lv_goto (tgt := 547) hx hb dL_law_584 (by decide) ?_
        exact ih (i + 1) _ _ _ (by omega) (by omega) hp (lv_sub hl [0, 1, 2, 3, 4] rfl)
      refine lv_if_eq (tgt := 581) hx hb dL_law_565 (by decide) (fun _ => tail _ _ hp) (fun c8 => ?_)
      refine lv_aload_n hx hb dL_law_568 rfl (lv_at hl 2 rfl) ?_
      refine lv_iload hx hb dL_law_569 (lv_at hl 0 rfl) ?_
      refine lv_bipush (v := 9) hx hb dL_law_571 (by decide) ?_
      refine hl_cVi C0 hp (As := [.int (nI i), .int 9]) (rest := []) (n := 2) (hk_X7_endsIn l D K ad hT (nI i) 9 (nI_pos' (by omega)) (nI_lt hlt (by omega)) (by decide) (by decide) (by omega)) hl_g_endsIn ⟨rfl, rfl⟩ (by decide +kernel) ⟨Nat.le_of_ble_eq_true rfl, Nat.le_of_ble_eq_true rfl⟩ hf hl.1 rfl rfl (Nat.le_of_ble_eq_true rfl) dL_law_573 (fun q_573 v1 H locs hv1 hp => ?_)
      obtain ⟨e1, -, -⟩ := hv1
      rw [hp_ended (by rw [nI_clamp (by omega), ← e_562]; exact c8)] at e1
      have e0 : q_573 = 0 := congrArg Prod.fst e1
      have ev : v1 = v := congrArg Prod.snd e1
      rw [ev] at hp
      refine lv_if_eq (tgt := 581) hx hb dL_law_576 (by decide) (fun _ => tail _ _ hp) (fun c7 => absurd e0 c7)
set_option maxHeartbeats 4000000 in
set_option maxRecDepth 100000 in
/-- nobody has left the road, nobody waits for more than all; how many are on a mast -/
theorem hl_hands (C0 : hl_C p s m args meth c D K A b L xs) (hT : hh_T 4 nh nc v) (h5 : nh 0 = 5) {T K9 : Nat} (hI : hm_I T K9 v) (hkI : K9 ≤ 1000) (hf : cells ≤ room_1.cells ∧ slots ≤ room_1.slots)
    (kk : ∀ (z : Int32) (H : Heap) (locs : List Loc) (ls : Array Slot), hl_H D K ad A s.heap v X H locs → z.toInt = hs_sum (fun i => if v (hh_hI 0 i) 5 = -1 then 0 else 1) 5 → lv_has ls 9 [(7, .int z), (0, .ref b), (1, .ref (ad 0)), (2, .ref qs), (3, .int (nI k))] → W p l e room_1 s m args below meth c H locs cells slots Q (F0 m 516 ls [])) :
    ∀ (n i : Nat) (z : Int32) (H : Heap) (locs : List Loc) (ls : Array Slot), i ≤ 5 → 5 - i < n → z.toInt = hs_sum (fun i => if v (hh_hI 0 i) 5 = -1 then 0 else 1) i → hl_H D K ad A s.heap v X H locs → lv_has ls 9 [(8, .int (nI i)), (7, .int z), (0, .ref b), (1, .ref (ad 0)), (2, .ref qs), (3, .int (nI k))] → W p l e room_1 s m args below meth c H locs cells slots Q (F0 m 443 ls []) := by
  obtain ⟨hx, hb, hml, hown, hts, hK, hA, hX, hbl, hbA⟩ := id C0
  intro n
  induction n with
  | zero => intro i z H locs ls h1 h2; omega
  | succ n ih =>
    intro i z H locs ls hi hn hz hp hl
    refine lv_iload hx hb dL_law_443 (lv_at hl 0 rfl) ?_
    refine lv_iconst (v := 5) hx hb dL_law_445 (by decide) ?_
    refine lv_icmp_ge (tgt := 516) hx hb dL_law_446 (by decide) (fun c9 => ?_) (fun c9 => ?_)
    · have e5 : i = 5 := by
        have := (nI_leI (a := 5) (b := i) (by decide) (by omega)).mp c9
        omega
      subst e5
      exact kk _ _ _ _ hp hz (lv_sub hl [1, 2, 3, 4, 5] rfl)
    · have hlt : i < 5 := Nat.not_le.mp (fun q => c9 ((nI_leI (a := 5) (b := i) (by decide) (by omega)).mpr q))
      have hi0 : (0 : Int32) ≤ nI i := nI_pos' (by omega)
      have hi5 : nI i < nI (nh 0) := by rw [h5]; exact nI_lt hlt (by decide)
      have r1 := hh_T_h1 hT 0 (i := i) (by omega)
      refine lv_aload_n hx hb dL_law_449 rfl (lv_at hl 3 rfl) ?_
      refine lv_iload hx hb dL_law_450 (lv_at hl 0 rfl) ?_
      refine lv_iconst (v := 0) hx hb dL_law_452 (by decide) ?_
      refine hl_cVi C0 hp (As := [.int (nI i), .int 0]) (rest := []) (n := 2) (hk_X7_ofHandset l D K ad hT (nI i) 0 hi0 hi5 (by decide) (by decide)) hl_g_ofHandset ⟨rfl, rfl⟩ (by decide +kernel) ⟨Nat.le_of_ble_eq_true rfl, Nat.le_of_ble_eq_true rfl⟩ hf hl.1 rfl rfl (Nat.le_of_ble_eq_true rfl) dL_law_453 (fun q_453 v_453 H locs hv_453 hp => ?_)
      obtain ⟨e_453, hv9⟩ := hv_453
      rw [hv9] at hp; clear hv9
      rw [hp_of0, nI_clamp (by omega)] at e_453
      refine lv_if_lt (tgt := 488) hx hb dL_law_456 (by decide) (fun c8 => absurd (e_453 ▸ r1.1) (Int32.not_le.mpr c8)) (fun _ => ?_)
      refine lv_aload_n hx hb dL_law_459 rfl (lv_at hl 3 rfl) ?_
      refine lv_iload hx hb dL_law_460 (lv_at hl 0 rfl) ?_
      refine lv_iconst (v := 0) hx hb dL_law_462 (by decide) ?_
      refine hl_cVi C0 hp (As := [.int (nI i), .int 0]) (rest := []) (n := 2) (hk_X7_ofHandset l D K ad hT (nI i) 0 hi0 hi5 (by decide) (by decide)) hl_g_ofHandset ⟨rfl, rfl⟩ (by decide +kernel) ⟨Nat.le_of_ble_eq_true rfl, Nat.le_of_ble_eq_true rfl⟩ hf hl.1 rfl rfl (Nat.le_of_ble_eq_true rfl) dL_law_463 (fun q_463 v_463 H locs hv_463 hp => ?_)
      obtain ⟨e_463, hv9⟩ := hv_463
      rw [hv9] at hp; clear hv9
      rw [hp_of0, nI_clamp (by omega)] at e_463
      refine lv_bipush (v := 99) hx hb dL_law_466 (by decide) ?_
      refine lv_icmp_gt (tgt := 488) hx hb dL_law_468 (by decide) (fun c8 => absurd (e_463 ▸ r1.2) (Int32.not_le.mpr c8)) (fun _ => ?_)
      refine lv_aload_n hx hb dL_law_471 rfl (lv_at hl 3 rfl) ?_
      refine lv_iload hx hb dL_law_472 (lv_at hl 0 rfl) ?_
      refine lv_bipush (v := 10) hx hb dL_law_474 (by decide) ?_
      refine hl_cVi C0 hp (As := [.int (nI i), .int 10]) (rest := []) (n := 2) (hk_X7_ofHandset l D K ad hT (nI i) 10 hi0 hi5 (by decide) (by decide)) hl_g_ofHandset ⟨rfl, rfl⟩ (by decide +kernel) ⟨Nat.le_of_ble_eq_true rfl, Nat.le_of_ble_eq_true rfl⟩ hf hl.1 rfl rfl (Nat.le_of_ble_eq_true rfl) dL_law_476 (fun q_476 v_476 H locs hv_476 hp => ?_)
      obtain ⟨e_476, hv9⟩ := hv_476
      rw [hv9] at hp; clear hv9
      refine lv_aload_n hx hb dL_law_479 rfl (lv_at hl 3 rfl) ?_
      refine lv_bipush (v := 10) hx hb dL_law_480 (by decide) ?_
      refine hl_cVi C0 hp (As := [.int 10]) (rest := [.int q_476]) (n := 1) (hk_X7_many l D K ad hT 10 (by decide) (by decide)) hl_g_many ⟨rfl, rfl⟩ (by decide +kernel) ⟨Nat.le_of_ble_eq_true rfl, Nat.le_of_ble_eq_true rfl⟩ hf hl.1 rfl rfl (Nat.le_of_ble_eq_true rfl) dL_law_482 (fun q_482 v_482 H locs hv_482 hp => ?_)
      obtain ⟨e_482, hv9⟩ := hv_482
      rw [hv9] at hp; clear hv9
      rw [e_482]
      refine lv_icmp_le (tgt := 490) hx hb dL_law_485 (by decide) (fun _ => ?_) (fun c8 => absurd (Int32.le_iff_toInt_le.mpr (by rw [e_476]; exact hp_10 hI hkI (hp_e5 hT h5) hlt)) c8)
      refine lv_iload hx hb dL_law_490 (lv_at hl 1 rfl) ?_
      refine lv_aload_n hx hb dL_law_492 rfl (lv_at hl 3 rfl) ?_
      refine lv_iload hx hb dL_law_493 (lv_at hl 0 rfl) ?_
      refine lv_iconst (v := 3) hx hb dL_law_495 (by decide) ?_
      refine hl_cVi C0 hp (As := [.int (nI i), .int 3]) (rest := [.int z]) (n := 2) (hk_X7_ofHandset l D K ad hT (nI i) 3 hi0 hi5 (by decide) (by decide)) hl_g_ofHandset ⟨rfl, rfl⟩ (by decide +kernel) ⟨Nat.le_of_ble_eq_true rfl, Nat.le_of_ble_eq_true rfl⟩ hf hl.1 rfl rfl (Nat.le_of_ble_eq_true rfl) dL_law_496 (fun q_496 v_496 H locs hv_496 hp => ?_)
      obtain ⟨e_496, hv9⟩ := hv_496
      rw [hv9] at hp; clear hv9
      rw [hp_of3, nI_clamp (by omega)] at e_496
      have r5 := hh_T_h5 hT 0 (i := i) (by omega)
      have tail : ∀ (d : Int32), d.toInt = (if v (hh_hI 0 i) 5 = -1 then 0 else 1) → W p l e room_1 s m args below meth c H locs cells slots Q (F0 m 507 ls (.int d :: [.int z])) := fun d hd => by
        refine lv_iadd hx hb dL_law_507 ?_
        refine lv_topi (fun z1 ez1 => ?_)
        refine lv_istore (lv' := [(7, .int z1), (8, .int (nI i)), (0, .ref b), (1, .ref (ad 0)), (2, .ref qs), (3, .int (nI k))]) hx hb dL_law_508 hl (by decide) rfl (fun ls hl => ?_)
        refine lv_iinc (v := (nI (i + 1))) (lv' := [(8, .int (nI (i + 1))), (7, .int z1), (0, .ref b), (1, .ref (ad 0)), (2, .ref qs), (3, .int (nI k))]) hx hb dL_law_510 hl (k := 1) rfl (nI_1 i) (by decide) rfl (fun ls hl => ?_)
        refine lv_goto (tgt := 443) hx hb dL_law_513 (by decide) ?_
        refine ih (i + 1) z1 _ _ _ (by omega) (by omega) ?_ hp (lv_sub hl [0, 1, 2, 3, 4, 5] rfl)
        have hb5 := hs_bd (f := fun i => if v (hh_hI 0 i) 5 = -1 then 0 else 1) (n := i) (fun j _ => by split <;> decide)
        rw [ez1, hs_sum, hh_add (by rw [hz, hd]; split <;> omega), hz, hd]
      refine lv_if_lt (tgt := 506) hx hb dL_law_499 (by decide) (fun c8 => ?_) (fun c8 => ?_)
      · have em : v (hh_hI 0 i) 5 = -1 := by
          have h1 := Int32.le_iff_toInt_le.mp r5.1
          rw [e_496] at c8
          have h2 := Int32.lt_iff_toInt_lt.mp c8
          have e1 : (-1 : Int32).toInt = -1 := rfl
          have e0 : (0 : Int32).toInt = 0 := rfl
          rw [e1] at h1
          rw [e0] at h2
          refine Int32.toInt_inj.mp ?_
          rw [e1]
          omega
        refine lv_iconst (v := 0) hx hb dL_law_506 (by decide) ?_
        exact tail 0 (by rw [if_pos em]; rfl)
      · have em : ¬ v (hh_hI 0 i) 5 = -1 := fun q => c8 (by rw [e_496, q]; decide)
        refine lv_iconst (v := 1) hx hb dL_law_502 (by decide) ?_
        refine lv_goto (tgt := 507) hx hb dL_law_503 (by decide) ?_
        exact tail 1 (by rw [if_neg em]; rfl)
set_option maxHeartbeats 4000000 in
set_option maxRecDepth 100000 in
/-- the checks behind the sums -/
theorem hl_after (C0 : hl_C p s m args meth c D K A b L xs) (hp : hl_H D K ad A s.heap v X H locs) (hT : hh_T 4 nh nc v) (h5 : nh 0 = 5) (h1 : nh 1 ≤ 5) {T K9 : Nat} (hI : hm_I T K9 v) (hkI : K9 ≤ 1000) (hTI : T ≤ 1000) (hf : cells ≤ room_1.cells ∧ slots ≤ room_1.slots) (hl : lv_has ls 9 [(0, .ref b), (1, .ref (ad 0)), (2, .ref qs), (3, .int (nI k))])
    (kk : ∀ (H : Heap) (locs : List Loc) (ls : Array Slot), hl_H D K ad A s.heap v X H locs → lv_has ls 9 [(0, .ref b), (1, .ref (ad 0)), (2, .ref qs), (3, .int (nI k))] → W p l e room_1 s m args below meth c H locs cells slots Q (F0 m 587 ls [])) : W p l e room_1 s m args below meth c H locs cells slots Q (F0 m 437 ls []) := by
  obtain ⟨hx, hb, hml, hown, hts, hK, hA, hX, hbl, hbA⟩ := id C0
  refine lv_iconst (v := 0) hx hb dL_law_437 (by decide) ?_
  refine lv_istore (lv' := [(7, .int 0), (0, .ref b), (1, .ref (ad 0)), (2, .ref qs), (3, .int (nI k))]) hx hb dL_law_438 hl (by decide) rfl (fun ls hl => ?_)
  refine lv_iconst (v := 0) hx hb dL_law_440 (by decide) ?_
  refine lv_istore (lv' := [(8, .int 0), (7, .int 0), (0, .ref b), (1, .ref (ad 0)), (2, .ref qs), (3, .int (nI k))]) hx hb dL_law_441 hl (by decide) rfl (fun ls hl => ?_)
  refine hl_hands C0 hT h5 hI hkI hf ?_ 6 0 0 _ _ _ (Nat.zero_le _) (by decide) rfl hp (lv_sub hl [0, 1, 2, 3, 4, 5] rfl)
  intro z H locs ls hp hz hl
  refine lv_aload_n hx hb dL_law_516 rfl (lv_at hl 2 rfl) ?_
  refine lv_bipush (v := 13) hx hb dL_law_517 (by decide) ?_
  refine hl_cVi C0 hp (As := [.int 13]) (rest := []) (n := 1) (hk_X7_many l D K ad hT 13 (by decide) (by decide)) hl_g_many ⟨rfl, rfl⟩ (by decide +kernel) ⟨Nat.le_of_ble_eq_true rfl, Nat.le_of_ble_eq_true rfl⟩ hf hl.1 rfl rfl (Nat.le_of_ble_eq_true rfl) dL_law_519 (fun q_519 v_519 H locs hv_519 hp => ?_)
  obtain ⟨e_519, hv9⟩ := hv_519
  rw [hv9] at hp; clear hv9
  rw [e_519]
  refine lv_iload hx hb dL_law_522 (lv_at hl 0 rfl) ?_
  refine lv_icmp_gt (tgt := 542) hx hb dL_law_524 (by decide) (fun c8 => absurd (Int32.le_iff_toInt_le.mpr (by rw [hz]; exact hp_13 (hp_e5 hT h5))) (Int32.not_le.mpr c8)) (fun _ => ?_)
  refine lv_aload_n hx hb dL_law_527 rfl (lv_at hl 2 rfl) ?_
  refine lv_bipush (v := 7) hx hb dL_law_528 (by decide) ?_
  refine hl_cVi C0 hp (As := [.int 7]) (rest := []) (n := 1) (hk_X7_many l D K ad hT 7 (by decide) (by decide)) hl_g_many ⟨rfl, rfl⟩ (by decide +kernel) ⟨Nat.le_of_ble_eq_true rfl, Nat.le_of_ble_eq_true rfl⟩ hf hl.1 rfl rfl (Nat.le_of_ble_eq_true rfl) dL_law_530 (fun q_530 v_530 H locs hv_530 hp => ?_)
  obtain ⟨e_530, hv9⟩ := hv_530
  rw [hv9] at hp; clear hv9
  rw [e_530]
  refine lv_aload_n hx hb dL_law_533 rfl (lv_at hl 2 rfl) ?_
  refine lv_bipush (v := 6) hx hb dL_law_534 (by decide) ?_
  refine hl_cVi C0 hp (As := [.int 6]) (rest := [.int (hf_X7_many v 7)]) (n := 1) (hk_X7_many l D K ad hT 6 (by decide) (by decide)) hl_g_many ⟨rfl, rfl⟩ (by decide +kernel) ⟨Nat.le_of_ble_eq_true rfl, Nat.le_of_ble_eq_true rfl⟩ hf hl.1 rfl rfl (Nat.le_of_ble_eq_true rfl) dL_law_536 (fun q_536 v_536 H locs hv_536 hp => ?_)
  obtain ⟨e_536, hv9⟩ := hv_536
  rw [hv9] at hp; clear hv9
  rw [e_536]
  refine lv_icmp_le (tgt := 544) hx hb dL_law_539 (by decide) (fun _ => ?_) (fun c8 => absurd (Int32.le_iff_toInt_le.mpr (hp_76 hI hTI (hh_T_r6 hT 0) (hT.2.2.1 0))) c8)
  refine lv_iconst (v := 0) hx hb dL_law_544 (by decide) ?_
  refine lv_istore (lv' := [(8, .int 0), (7, .int z), (0, .ref b), (1, .ref (ad 0)), (2, .ref qs), (3, .int (nI k))]) hx hb dL_law_545 hl (by decide) rfl (fun ls hl => ?_)
  exact hl_ended C0 hT h5 h1 hf kk (nc 0 + 1) 0 _ _ _ (Nat.zero_le _) (by omega) hp (lv_sub hl [0, 2, 3, 4, 5] rfl)
set_option maxHeartbeats 4000000 in
set_option maxRecDepth 100000 in
/-- no sum is less than it was; the new ones are kept -/
theorem hl_cmp {g : Nat → Int32} (C0 : hl_C p s m args meth c D K A b L xs) (hf : cells ≤ room_1.cells ∧ slots ≤ room_1.slots)
    (kk : ∀ (f : Nat → Int32) (H : Heap) (locs : List Loc) (ls : Array Slot), (∀ j, j < 9 → f j = g j) → hl_H D K ad A s.heap v [(qs, .inl (K 0, 12, .inl f)), (qn, .inl (K 0, 9, .inl g))] H locs → lv_has ls 9 [(0, .ref b), (1, .ref (ad 0)), (2, .ref qs), (3, .int (nI k))] → W p l e room_1 s m args below meth c H locs cells slots Q (F0 m 437 ls [])) :
    ∀ (n i : Nat) (f : Nat → Int32) (H : Heap) (locs : List Loc) (ls : Array Slot), i ≤ 9 → 9 - i < n → (∀ j, j < 9 → (f j).toInt ≤ (g j).toInt) → (∀ j, j < i → f j = g j) → hl_H D K ad A s.heap v [(qs, .inl (K 0, 12, .inl f)), (qn, .inl (K 0, 9, .inl g))] H locs → lv_has ls 9 [(7, .int (nI i)), (6, .ref qn), (0, .ref b), (1, .ref (ad 0)), (2, .ref qs), (3, .int (nI k))] → W p l e room_1 s m args below meth c H locs cells slots Q (F0 m 400 ls []) := by
  obtain ⟨hx, hb, hml, hown, hts, hK, hA, hX, hbl, hbA⟩ := id C0
  intro n
  induction n with
  | zero => intro i f H locs ls h1 h2; omega
  | succ n ih =>
    intro i f H locs ls hi hn hle hg hp hl
    refine lv_iload hx hb dL_law_400 (lv_at hl 0 rfl) ?_
    refine lv_aload hx hb dL_law_402 (lv_at hl 1 rfl) ?_
    refine hl_alen C0 hp 1 (n := 9) rfl dL_law_404 ?_
    refine lv_icmp_ge (tgt := 437) hx hb dL_law_405 (by decide) (fun c9 => ?_) (fun c9 => ?_)
    · have e9 : i = 9 := by
        have := (nI_leI (a := 9) (b := i) (by decide) (by omega)).mp c9
        omega
      subst e9
      exact kk f _ _ _ hg hp (lv_sub hl [2, 3, 4, 5] rfl)
    · have hlt : i < 9 := Nat.not_le.mp (fun q => c9 ((nI_leI (a := 9) (b := i) (by decide) (by omega)).mpr q))
      have in9 : vp_in (nI i) 9 := vp_in_nI hlt (by decide)
      have in12 : vp_in (nI i) 12 := vp_in_nI (by omega) (by decide)
      have ei : (nI i).toNatClampNeg = i := nI_clamp (by omega)
      refine lv_aload hx hb dL_law_408 (lv_at hl 1 rfl) ?_
      refine lv_iload hx hb dL_law_410 (lv_at hl 0 rfl) ?_
      refine hl_ial C0 hp 1 (n := 9) (f := g) rfl in9 ei dL_law_412 ?_
      refine lv_aload_n hx hb dL_law_413 rfl (lv_at hl 4 rfl) ?_
      refine lv_iload hx hb dL_law_414 (lv_at hl 0 rfl) ?_
      refine hl_ial C0 hp 0 (n := 12) (f := f) rfl in12 ei dL_law_416 ?_
      refine lv_icmp_ge (tgt := 422) hx hb dL_law_417 (by decide) (fun _ => ?_) (fun c8 => absurd (Int32.le_iff_toInt_le.mpr (hle i hlt)) c8)
      refine lv_aload_n hx hb dL_law_422 rfl (lv_at hl 4 rfl) ?_
      refine lv_iload hx hb dL_law_423 (lv_at hl 0 rfl) ?_
      refine lv_aload hx hb dL_law_425 (lv_at hl 1 rfl) ?_
      refine lv_iload hx hb dL_law_427 (lv_at hl 0 rfl) ?_
      refine hl_ial C0 hp 1 (n := 9) (f := g) rfl in9 ei dL_law_429 ?_
      refine hl_ias C0 hp 0 (n := 12) (f := f) (X' := [(qs, .inl (K 0, 12, .inl (upd f i (g i)))), (qn, .inl (K 0, 9, .inl g))]) rfl in12 ei rfl dL_law_430 (fun H locs hp => ?_)
      refine lv_iinc (v := (nI (i + 1))) (lv' := [(7, .int (nI (i + 1))), (6, .ref qn), (0, .ref b), (1, .ref (ad 0)), (2, .ref qs), (3, .int (nI k))]) hx hb dL_law_431 hl (k := 0) rfl (nI_1 i) (by decide) rfl (fun ls hl => ?_)
      refine lv_goto (tgt := 400) hx hb dL_law_434 (by decide) ?_
      refine ih (i + 1) (upd f i (g i)) _ _ _ (by omega) (by omega) (fun j hj => ?_) (fun j hj => ?_) hp (lv_sub hl [0, 1, 2, 3, 4, 5] rfl)
      · by_cases e : j = i
        · subst e; rw [pk_us]; exact Int.le_refl _
        · rw [pk_un e]; exact hle j hj
      · by_cases e : j = i
        · subst e; rw [pk_us]
        · rw [pk_un e]; exact hg j (by omega)
end HL3
