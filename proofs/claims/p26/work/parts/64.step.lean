/-! the law: a step of a run, and its nine sums -/
section HL4
variable {p : Program} {l : Launch} {e : Env} {s : State} {m : MethodId} {args : Array Value} {below : List Frame} {meth : Method} {c : Code} {H : Heap} {locs : List Loc} {cells slots : Nat} {Q : State → Prop}
variable {b L : Nat} {xs : Nat → Int32} {ls : Array Slot} {D : va_G} {K : Nat → ClassId} {ad : Nat → Nat} {A : Nat → Prop} {v : hh_M} {X : va_W} {nh nc : Nat → Nat} {k qs qn : Nat}
/-- the nine sums of a row are those of the road; no more than those -/
def hl_is (g : Nat → Int32) (v : hh_M) : Prop := g 0 = hf_X7_many v 0 ∧ g 1 = hf_X7_many v 3 ∧ g 2 = hf_X7_many v 5 ∧ g 3 = hf_X7_many v 6 ∧ g 4 = hf_X7_many v 7 ∧ g 5 = hf_X7_many v 8 ∧ g 6 = hf_X7_many v 9 ∧ g 7 = hf_X7_many v 11 ∧ g 8 = hf_X7_many v 12
def hl_le (g : Nat → Int32) (v : hh_M) : Prop := (g 0).toInt ≤ (hf_X7_many v 0).toInt ∧ (g 1).toInt ≤ (hf_X7_many v 3).toInt ∧ (g 2).toInt ≤ (hf_X7_many v 5).toInt ∧ (g 3).toInt ≤ (hf_X7_many v 6).toInt ∧ (g 4).toInt ≤ (hf_X7_many v 7).toInt ∧ (g 5).toInt ≤ (hf_X7_many v 8).toInt ∧ (g 6).toInt ≤ (hf_X7_many v 9).toInt ∧ (g 7).toInt ≤ (hf_X7_many v 11).toInt ∧ (g 8).toInt ≤ (hf_X7_many v 12).toInt
theorem hl_le_R {f : Nat → Int32} {v w : hh_M} (h : hl_le f v) (hR : hp_R v w) : hl_le f w := ⟨Int.le_trans h.1 hR.1, Int.le_trans h.2.1 hR.2.1, Int.le_trans h.2.2.1 hR.2.2.1, Int.le_trans h.2.2.2.1 hR.2.2.2.1, Int.le_trans h.2.2.2.2.1 hR.2.2.2.2.1, Int.le_trans h.2.2.2.2.2.1 hR.2.2.2.2.2.1, Int.le_trans h.2.2.2.2.2.2.1 hR.2.2.2.2.2.2.1, Int.le_trans h.2.2.2.2.2.2.2.1 hR.2.2.2.2.2.2.2.1, Int.le_trans h.2.2.2.2.2.2.2.2 hR.2.2.2.2.2.2.2.2⟩
theorem hl_le_is {f g : Nat → Int32} {v : hh_M} (h : hl_le f v) (hg : hl_is g v) : ∀ j, j < 9 → (f j).toInt ≤ (g j).toInt := by
  obtain ⟨g0, g1, g2, g3, g4, g5, g6, g7, g8⟩ := hg
  obtain ⟨h0, h1, h2, h3, h4, h5, h6, h7, h8⟩ := h
  intro j hj
  have : j = 0 ∨ j = 1 ∨ j = 2 ∨ j = 3 ∨ j = 4 ∨ j = 5 ∨ j = 6 ∨ j = 7 ∨ j = 8 := by omega
  rcases this with rfl | rfl | rfl | rfl | rfl | rfl | rfl | rfl | rfl
  · rw [g0]; exact h0
  · rw [g1]; exact h1
  · rw [g2]; exact h2
  · rw [g3]; exact h3
  · rw [g4]; exact h4
  · rw [g5]; exact h5
  · rw [g6]; exact h6
  · rw [g7]; exact h7
  · rw [g8]; exact h8
theorem hl_is_le {f g : Nat → Int32} {v : hh_M} (h : ∀ j, j < 9 → f j = g j) (hg : hl_is g v) : hl_le f v := by
  obtain ⟨g0, g1, g2, g3, g4, g5, g6, g7, g8⟩ := hg
  refine ⟨?_, ?_, ?_, ?_, ?_, ?_, ?_, ?_, ?_⟩
  · rw [h 0 (by decide), g0]; exact Int.le_refl _
  · rw [h 1 (by decide), g1]; exact Int.le_refl _
  · rw [h 2 (by decide), g2]; exact Int.le_refl _
  · rw [h 3 (by decide), g3]; exact Int.le_refl _
  · rw [h 4 (by decide), g4]; exact Int.le_refl _
  · rw [h 5 (by decide), g5]; exact Int.le_refl _
  · rw [h 6 (by decide), g6]; exact Int.le_refl _
  · rw [h 7 (by decide), g7]; exact Int.le_refl _
  · rw [h 8 (by decide), g8]; exact Int.le_refl _
set_option maxHeartbeats 4000000 in
set_option maxRecDepth 100000 in
theorem hl_now_0 {f g : Nat → Int32} (C0 : hl_C p s m args meth c D K A b L xs) (hp : hl_H D K ad A s.heap v [(qs, .inl (K 0, 12, .inl f)), (qn, .inl (K 0, 9, .inl g))] H locs) (hT : hh_T 4 nh nc v) (hf : cells ≤ room_1.cells ∧ slots ≤ room_1.slots) (hl : lv_has ls 9 [(0, .ref b), (1, .ref (ad 0)), (2, .ref qs), (3, .int (nI k))])
    (kk : ∀ (H : Heap) (locs : List Loc), hl_H D K ad A s.heap v [(qs, .inl (K 0, 12, .inl f)), (qn, .inl (K 0, 9, .inl (upd g 0 (hf_X7_many v 0))))] H locs → W p l e room_1 s m args below meth c H locs cells slots Q (F0 m 322 ls [.ref qn])) : W p l e room_1 s m args below meth c H locs cells slots Q (F0 m 314 ls [.ref qn]) := by
  obtain ⟨hx, hb, hml, hown, hts, hK, hA, hX, hbl, hbA⟩ := id C0
  refine lv_dup hx hb dL_law_314 rfl ?_
  refine lv_iconst (v := 0) hx hb dL_law_315 (by decide) ?_
  refine lv_aload_n hx hb dL_law_316 rfl (lv_at hl 1 rfl) ?_
  refine lv_iconst (v := 0) hx hb dL_law_317 (by decide) ?_
  refine hl_cVi C0 hp (As := [.int 0]) (rest := [.int 0, .ref qn, .ref qn]) (n := 1) (hk_X7_many l D K ad hT 0 (by decide) (by decide)) hl_g_many ⟨rfl, rfl⟩ (by decide +kernel) ⟨Nat.le_of_ble_eq_true rfl, Nat.le_of_ble_eq_true rfl⟩ hf hl.1 rfl rfl (Nat.le_of_ble_eq_true rfl) dL_law_318 (fun q_318 v_318 H locs hv_318 hp => ?_)
  obtain ⟨e_318, hv9⟩ := hv_318
  rw [hv9] at hp; clear hv9
  rw [e_318]
  exact hl_ias C0 hp 1 (n := 9) (f := g) (k' := 0) rfl (by unfold vp_in; decide) (by decide) rfl dL_law_321 (fun H locs hp => kk H locs hp)
set_option maxHeartbeats 4000000 in
set_option maxRecDepth 100000 in
theorem hl_now_1 {f g : Nat → Int32} (C0 : hl_C p s m args meth c D K A b L xs) (hp : hl_H D K ad A s.heap v [(qs, .inl (K 0, 12, .inl f)), (qn, .inl (K 0, 9, .inl g))] H locs) (hT : hh_T 4 nh nc v) (hf : cells ≤ room_1.cells ∧ slots ≤ room_1.slots) (hl : lv_has ls 9 [(0, .ref b), (1, .ref (ad 0)), (2, .ref qs), (3, .int (nI k))])
    (kk : ∀ (H : Heap) (locs : List Loc), hl_H D K ad A s.heap v [(qs, .inl (K 0, 12, .inl f)), (qn, .inl (K 0, 9, .inl (upd g 1 (hf_X7_many v 3))))] H locs → W p l e room_1 s m args below meth c H locs cells slots Q (F0 m 330 ls [.ref qn])) : W p l e room_1 s m args below meth c H locs cells slots Q (F0 m 322 ls [.ref qn]) := by
  obtain ⟨hx, hb, hml, hown, hts, hK, hA, hX, hbl, hbA⟩ := id C0
  refine lv_dup hx hb dL_law_322 rfl ?_
  refine lv_iconst (v := 1) hx hb dL_law_323 (by decide) ?_
  refine lv_aload_n hx hb dL_law_324 rfl (lv_at hl 1 rfl) ?_
  refine lv_iconst (v := 3) hx hb dL_law_325 (by decide) ?_
  refine hl_cVi C0 hp (As := [.int 3]) (rest := [.int 1, .ref qn, .ref qn]) (n := 1) (hk_X7_many l D K ad hT 3 (by decide) (by decide)) hl_g_many ⟨rfl, rfl⟩ (by decide +kernel) ⟨Nat.le_of_ble_eq_true rfl, Nat.le_of_ble_eq_true rfl⟩ hf hl.1 rfl rfl (Nat.le_of_ble_eq_true rfl) dL_law_326 (fun q_326 v_326 H locs hv_326 hp => ?_)
  obtain ⟨e_326, hv9⟩ := hv_326
  rw [hv9] at hp; clear hv9
  rw [e_326]
  exact hl_ias C0 hp 1 (n := 9) (f := g) (k' := 1) rfl (by unfold vp_in; decide) (by decide) rfl dL_law_329 (fun H locs hp => kk H locs hp)
set_option maxHeartbeats 4000000 in
set_option maxRecDepth 100000 in
theorem hl_now_2 {f g : Nat → Int32} (C0 : hl_C p s m args meth c D K A b L xs) (hp : hl_H D K ad A s.heap v [(qs, .inl (K 0, 12, .inl f)), (qn, .inl (K 0, 9, .inl g))] H locs) (hT : hh_T 4 nh nc v) (hf : cells ≤ room_1.cells ∧ slots ≤ room_1.slots) (hl : lv_has ls 9 [(0, .ref b), (1, .ref (ad 0)), (2, .ref qs), (3, .int (nI k))])
    (kk : ∀ (H : Heap) (locs : List Loc), hl_H D K ad A s.heap v [(qs, .inl (K 0, 12, .inl f)), (qn, .inl (K 0, 9, .inl (upd g 2 (hf_X7_many v 5))))] H locs → W p l e room_1 s m args below meth c H locs cells slots Q (F0 m 338 ls [.ref qn])) : W p l e room_1 s m args below meth c H locs cells slots Q (F0 m 330 ls [.ref qn]) := by
  obtain ⟨hx, hb, hml, hown, hts, hK, hA, hX, hbl, hbA⟩ := id C0
  refine lv_dup hx hb dL_law_330 rfl ?_
  refine lv_iconst (v := 2) hx hb dL_law_331 (by decide) ?_
  refine lv_aload_n hx hb dL_law_332 rfl (lv_at hl 1 rfl) ?_
  refine lv_iconst (v := 5) hx hb dL_law_333 (by decide) ?_
  refine hl_cVi C0 hp (As := [.int 5]) (rest := [.int 2, .ref qn, .ref qn]) (n := 1) (hk_X7_many l D K ad hT 5 (by decide) (by decide)) hl_g_many ⟨rfl, rfl⟩ (by decide +kernel) ⟨Nat.le_of_ble_eq_true rfl, Nat.le_of_ble_eq_true rfl⟩ hf hl.1 rfl rfl (Nat.le_of_ble_eq_true rfl) dL_law_334 (fun q_334 v_334 H locs hv_334 hp => ?_)
  obtain ⟨e_334, hv9⟩ := hv_334
  rw [hv9] at hp; clear hv9
  rw [e_334]
  exact hl_ias C0 hp 1 (n := 9) (f := g) (k' := 2) rfl (by unfold vp_in; decide) (by decide) rfl dL_law_337 (fun H locs hp => kk H locs hp)
set_option maxHeartbeats 4000000 in
set_option maxRecDepth 100000 in
theorem hl_now_3 {f g : Nat → Int32} (C0 : hl_C p s m args meth c D K A b L xs) (hp : hl_H D K ad A s.heap v [(qs, .inl (K 0, 12, .inl f)), (qn, .inl (K 0, 9, .inl g))] H locs) (hT : hh_T 4 nh nc v) (hf : cells ≤ room_1.cells ∧ slots ≤ room_1.slots) (hl : lv_has ls 9 [(0, .ref b), (1, .ref (ad 0)), (2, .ref qs), (3, .int (nI k))])
    (kk : ∀ (H : Heap) (locs : List Loc), hl_H D K ad A s.heap v [(qs, .inl (K 0, 12, .inl f)), (qn, .inl (K 0, 9, .inl (upd g 3 (hf_X7_many v 6))))] H locs → W p l e room_1 s m args below meth c H locs cells slots Q (F0 m 347 ls [.ref qn])) : W p l e room_1 s m args below meth c H locs cells slots Q (F0 m 338 ls [.ref qn]) := by
  obtain ⟨hx, hb, hml, hown, hts, hK, hA, hX, hbl, hbA⟩ := id C0
  refine lv_dup hx hb dL_law_338 rfl ?_
  refine lv_iconst (v := 3) hx hb dL_law_339 (by decide) ?_
  refine lv_aload_n hx hb dL_law_340 rfl (lv_at hl 1 rfl) ?_
  refine lv_bipush (v := 6) hx hb dL_law_341 (by decide) ?_
  refine hl_cVi C0 hp (As := [.int 6]) (rest := [.int 3, .ref qn, .ref qn]) (n := 1) (hk_X7_many l D K ad hT 6 (by decide) (by decide)) hl_g_many ⟨rfl, rfl⟩ (by decide +kernel) ⟨Nat.le_of_ble_eq_true rfl, Nat.le_of_ble_eq_true rfl⟩ hf hl.1 rfl rfl (Nat.le_of_ble_eq_true rfl) dL_law_343 (fun q_343 v_343 H locs hv_343 hp => ?_)
  obtain ⟨e_343, hv9⟩ := hv_343
  rw [hv9] at hp; clear hv9
  rw [e_343]
  exact hl_ias C0 hp 1 (n := 9) (f := g) (k' := 3) rfl (by unfold vp_in; decide) (by decide) rfl dL_law_346 (fun H locs hp => kk H locs hp)
set_option maxHeartbeats 4000000 in
set_option maxRecDepth 100000 in
theorem hl_now_4 {f g : Nat → Int32} (C0 : hl_C p s m args meth c D K A b L xs) (hp : hl_H D K ad A s.heap v [(qs, .inl (K 0, 12, .inl f)), (qn, .inl (K 0, 9, .inl g))] H locs) (hT : hh_T 4 nh nc v) (hf : cells ≤ room_1.cells ∧ slots ≤ room_1.slots) (hl : lv_has ls 9 [(0, .ref b), (1, .ref (ad 0)), (2, .ref qs), (3, .int (nI k))])
    (kk : ∀ (H : Heap) (locs : List Loc), hl_H D K ad A s.heap v [(qs, .inl (K 0, 12, .inl f)), (qn, .inl (K 0, 9, .inl (upd g 4 (hf_X7_many v 7))))] H locs → W p l e room_1 s m args below meth c H locs cells slots Q (F0 m 356 ls [.ref qn])) : W p l e room_1 s m args below meth c H locs cells slots Q (F0 m 347 ls [.ref qn]) := by
  obtain ⟨hx, hb, hml, hown, hts, hK, hA, hX, hbl, hbA⟩ := id C0
  refine lv_dup hx hb dL_law_347 rfl ?_
  refine lv_iconst (v := 4) hx hb dL_law_348 (by decide) ?_
  refine lv_aload_n hx hb dL_law_349 rfl (lv_at hl 1 rfl) ?_
  refine lv_bipush (v := 7) hx hb dL_law_350 (by decide) ?_
  refine hl_cVi C0 hp (As := [.int 7]) (rest := [.int 4, .ref qn, .ref qn]) (n := 1) (hk_X7_many l D K ad hT 7 (by decide) (by decide)) hl_g_many ⟨rfl, rfl⟩ (by decide +kernel) ⟨Nat.le_of_ble_eq_true rfl, Nat.le_of_ble_eq_true rfl⟩ hf hl.1 rfl rfl (Nat.le_of_ble_eq_true rfl) dL_law_352 (fun q_352 v_352 H locs hv_352 hp => ?_)
  obtain ⟨e_352, hv9⟩ := hv_352
  rw [hv9] at hp; clear hv9
  rw [e_352]
  exact hl_ias C0 hp 1 (n := 9) (f := g) (k' := 4) rfl (by unfold vp_in; decide) (by decide) rfl dL_law_355 (fun H locs hp => kk H locs hp)
set_option maxHeartbeats 4000000 in
set_option maxRecDepth 100000 in
theorem hl_now_5 {f g : Nat → Int32} (C0 : hl_C p s m args meth c D K A b L xs) (hp : hl_H D K ad A s.heap v [(qs, .inl (K 0, 12, .inl f)), (qn, .inl (K 0, 9, .inl g))] H locs) (hT : hh_T 4 nh nc v) (hf : cells ≤ room_1.cells ∧ slots ≤ room_1.slots) (hl : lv_has ls 9 [(0, .ref b), (1, .ref (ad 0)), (2, .ref qs), (3, .int (nI k))])
    (kk : ∀ (H : Heap) (locs : List Loc), hl_H D K ad A s.heap v [(qs, .inl (K 0, 12, .inl f)), (qn, .inl (K 0, 9, .inl (upd g 5 (hf_X7_many v 8))))] H locs → W p l e room_1 s m args below meth c H locs cells slots Q (F0 m 365 ls [.ref qn])) : W p l e room_1 s m args below meth c H locs cells slots Q (F0 m 356 ls [.ref qn]) := by
  obtain ⟨hx, hb, hml, hown, hts, hK, hA, hX, hbl, hbA⟩ := id C0
  refine lv_dup hx hb dL_law_356 rfl ?_
  refine lv_iconst (v := 5) hx hb dL_law_357 (by decide) ?_
  refine lv_aload_n hx hb dL_law_358 rfl (lv_at hl 1 rfl) ?_
  refine lv_bipush (v := 8) hx hb dL_law_359 (by decide) ?_
  refine hl_cVi C0 hp (As := [.int 8]) (rest := [.int 5, .ref qn, .ref qn]) (n := 1) (hk_X7_many l D K ad hT 8 (by decide) (by decide)) hl_g_many ⟨rfl, rfl⟩ (by decide +kernel) ⟨Nat.le_of_ble_eq_true rfl, Nat.le_of_ble_eq_true rfl⟩ hf hl.1 rfl rfl (Nat.le_of_ble_eq_true rfl) dL_law_361 (fun q_361 v_361 H locs hv_361 hp => ?_)
  obtain ⟨e_361, hv9⟩ := hv_361
  rw [hv9] at hp; clear hv9
  rw [e_361]
  exact hl_ias C0 hp 1 (n := 9) (f := g) (k' := 5) rfl (by unfold vp_in; decide) (by decide) rfl dL_law_364 (fun H locs hp => kk H locs hp)
set_option maxHeartbeats 4000000 in
set_option maxRecDepth 100000 in
theorem hl_now_6 {f g : Nat → Int32} (C0 : hl_C p s m args meth c D K A b L xs) (hp : hl_H D K ad A s.heap v [(qs, .inl (K 0, 12, .inl f)), (qn, .inl (K 0, 9, .inl g))] H locs) (hT : hh_T 4 nh nc v) (hf : cells ≤ room_1.cells ∧ slots ≤ room_1.slots) (hl : lv_has ls 9 [(0, .ref b), (1, .ref (ad 0)), (2, .ref qs), (3, .int (nI k))])
    (kk : ∀ (H : Heap) (locs : List Loc), hl_H D K ad A s.heap v [(qs, .inl (K 0, 12, .inl f)), (qn, .inl (K 0, 9, .inl (upd g 6 (hf_X7_many v 9))))] H locs → W p l e room_1 s m args below meth c H locs cells slots Q (F0 m 375 ls [.ref qn])) : W p l e room_1 s m args below meth c H locs cells slots Q (F0 m 365 ls [.ref qn]) := by
  obtain ⟨hx, hb, hml, hown, hts, hK, hA, hX, hbl, hbA⟩ := id C0
  refine lv_dup hx hb dL_law_365 rfl ?_
  refine lv_bipush (v := 6) hx hb dL_law_366 (by decide) ?_
  refine lv_aload_n hx hb dL_law_368 rfl (lv_at hl 1 rfl) ?_
  refine lv_bipush (v := 9) hx hb dL_law_369 (by decide) ?_
  refine hl_cVi C0 hp (As := [.int 9]) (rest := [.int 6, .ref qn, .ref qn]) (n := 1) (hk_X7_many l D K ad hT 9 (by decide) (by decide)) hl_g_many ⟨rfl, rfl⟩ (by decide +kernel) ⟨Nat.le_of_ble_eq_true rfl, Nat.le_of_ble_eq_true rfl⟩ hf hl.1 rfl rfl (Nat.le_of_ble_eq_true rfl) dL_law_371 (fun q_371 v_371 H locs hv_371 hp => ?_)
  obtain ⟨e_371, hv9⟩ := hv_371
  rw [hv9] at hp; clear hv9
  rw [e_371]
  exact hl_ias C0 hp 1 (n := 9) (f := g) (k' := 6) rfl (by unfold vp_in; decide) (by decide) rfl dL_law_374 (fun H locs hp => kk H locs hp)
set_option maxHeartbeats 4000000 in
set_option maxRecDepth 100000 in
theorem hl_now_7 {f g : Nat → Int32} (C0 : hl_C p s m args meth c D K A b L xs) (hp : hl_H D K ad A s.heap v [(qs, .inl (K 0, 12, .inl f)), (qn, .inl (K 0, 9, .inl g))] H locs) (hT : hh_T 4 nh nc v) (hf : cells ≤ room_1.cells ∧ slots ≤ room_1.slots) (hl : lv_has ls 9 [(0, .ref b), (1, .ref (ad 0)), (2, .ref qs), (3, .int (nI k))])
    (kk : ∀ (H : Heap) (locs : List Loc), hl_H D K ad A s.heap v [(qs, .inl (K 0, 12, .inl f)), (qn, .inl (K 0, 9, .inl (upd g 7 (hf_X7_many v 11))))] H locs → W p l e room_1 s m args below meth c H locs cells slots Q (F0 m 385 ls [.ref qn])) : W p l e room_1 s m args below meth c H locs cells slots Q (F0 m 375 ls [.ref qn]) := by
  obtain ⟨hx, hb, hml, hown, hts, hK, hA, hX, hbl, hbA⟩ := id C0
  refine lv_dup hx hb dL_law_375 rfl ?_
  refine lv_bipush (v := 7) hx hb dL_law_376 (by decide) ?_
  refine lv_aload_n hx hb dL_law_378 rfl (lv_at hl 1 rfl) ?_
  refine lv_bipush (v := 11) hx hb dL_law_379 (by decide) ?_
  refine hl_cVi C0 hp (As := [.int 11]) (rest := [.int 7, .ref qn, .ref qn]) (n := 1) (hk_X7_many l D K ad hT 11 (by decide) (by decide)) hl_g_many ⟨rfl, rfl⟩ (by decide +kernel) ⟨Nat.le_of_ble_eq_true rfl, Nat.le_of_ble_eq_true rfl⟩ hf hl.1 rfl rfl (Nat.le_of_ble_eq_true rfl) dL_law_381 (fun q_381 v_381 H locs hv_381 hp => ?_)
  obtain ⟨e_381, hv9⟩ := hv_381
  rw [hv9] at hp; clear hv9
  rw [e_381]
  exact hl_ias C0 hp 1 (n := 9) (f := g) (k' := 7) rfl (by unfold vp_in; decide) (by decide) rfl dL_law_384 (fun H locs hp => kk H locs hp)
set_option maxHeartbeats 4000000 in
set_option maxRecDepth 100000 in
theorem hl_now_8 {f g : Nat → Int32} (C0 : hl_C p s m args meth c D K A b L xs) (hp : hl_H D K ad A s.heap v [(qs, .inl (K 0, 12, .inl f)), (qn, .inl (K 0, 9, .inl g))] H locs) (hT : hh_T 4 nh nc v) (hf : cells ≤ room_1.cells ∧ slots ≤ room_1.slots) (hl : lv_has ls 9 [(0, .ref b), (1, .ref (ad 0)), (2, .ref qs), (3, .int (nI k))])
    (kk : ∀ (H : Heap) (locs : List Loc), hl_H D K ad A s.heap v [(qs, .inl (K 0, 12, .inl f)), (qn, .inl (K 0, 9, .inl (upd g 8 (hf_X7_many v 12))))] H locs → W p l e room_1 s m args below meth c H locs cells slots Q (F0 m 395 ls [.ref qn])) : W p l e room_1 s m args below meth c H locs cells slots Q (F0 m 385 ls [.ref qn]) := by
  obtain ⟨hx, hb, hml, hown, hts, hK, hA, hX, hbl, hbA⟩ := id C0
  refine lv_dup hx hb dL_law_385 rfl ?_
  refine lv_bipush (v := 8) hx hb dL_law_386 (by decide) ?_
  refine lv_aload_n hx hb dL_law_388 rfl (lv_at hl 1 rfl) ?_
  refine lv_bipush (v := 12) hx hb dL_law_389 (by decide) ?_
  refine hl_cVi C0 hp (As := [.int 12]) (rest := [.int 8, .ref qn, .ref qn]) (n := 1) (hk_X7_many l D K ad hT 12 (by decide) (by decide)) hl_g_many ⟨rfl, rfl⟩ (by decide +kernel) ⟨Nat.le_of_ble_eq_true rfl, Nat.le_of_ble_eq_true rfl⟩ hf hl.1 rfl rfl (Nat.le_of_ble_eq_true rfl) dL_law_391 (fun q_391 v_391 H locs hv_391 hp => ?_)
  obtain ⟨e_391, hv9⟩ := hv_391
  rw [hv9] at hp; clear hv9
  rw [e_391]
  exact hl_ias C0 hp 1 (n := 9) (f := g) (k' := 8) rfl (by unfold vp_in; decide) (by decide) rfl dL_law_394 (fun H locs hp => kk H locs hp)
theorem hl_upd9 (f : Nat → Int32) (a0 a1 a2 a3 a4 a5 a6 a7 a8 : Int32) : (upd (upd (upd (upd (upd (upd (upd (upd (upd f 0 a0) 1 a1) 2 a2) 3 a3) 4 a4) 5 a5) 6 a6) 7 a7) 8 a8) 0 = a0 ∧ (upd (upd (upd (upd (upd (upd (upd (upd (upd f 0 a0) 1 a1) 2 a2) 3 a3) 4 a4) 5 a5) 6 a6) 7 a7) 8 a8) 1 = a1 ∧ (upd (upd (upd (upd (upd (upd (upd (upd (upd f 0 a0) 1 a1) 2 a2) 3 a3) 4 a4) 5 a5) 6 a6) 7 a7) 8 a8) 2 = a2 ∧ (upd (upd (upd (upd (upd (upd (upd (upd (upd f 0 a0) 1 a1) 2 a2) 3 a3) 4 a4) 5 a5) 6 a6) 7 a7) 8 a8) 3 = a3 ∧ (upd (upd (upd (upd (upd (upd (upd (upd (upd f 0 a0) 1 a1) 2 a2) 3 a3) 4 a4) 5 a5) 6 a6) 7 a7) 8 a8) 4 = a4 ∧ (upd (upd (upd (upd (upd (upd (upd (upd (upd f 0 a0) 1 a1) 2 a2) 3 a3) 4 a4) 5 a5) 6 a6) 7 a7) 8 a8) 5 = a5 ∧ (upd (upd (upd (upd (upd (upd (upd (upd (upd f 0 a0) 1 a1) 2 a2) 3 a3) 4 a4) 5 a5) 6 a6) 7 a7) 8 a8) 6 = a6 ∧ (upd (upd (upd (upd (upd (upd (upd (upd (upd f 0 a0) 1 a1) 2 a2) 3 a3) 4 a4) 5 a5) 6 a6) 7 a7) 8 a8) 7 = a7 ∧ (upd (upd (upd (upd (upd (upd (upd (upd (upd f 0 a0) 1 a1) 2 a2) 3 a3) 4 a4) 5 a5) 6 a6) 7 a7) 8 a8) 8 = a8 := ⟨rfl, rfl, rfl, rfl, rfl, rfl, rfl, rfl, rfl⟩
set_option maxHeartbeats 4000000 in
set_option maxRecDepth 100000 in
/-- the nine sums of now -/
theorem hl_now {f : Nat → Int32} (C0 : hl_C p s m args meth c D K A b L xs) (hp : hl_H D K ad A s.heap v [(qs, .inl (K 0, 12, .inl f))] H locs) (hT : hh_T 4 nh nc v) (hc1 : cells + 1 ≤ room_1.cells) (hs1 : slots + 9 ≤ room_1.slots) (hl : lv_has ls 9 [(0, .ref b), (1, .ref (ad 0)), (2, .ref qs), (3, .int (nI k))])
    (kk : ∀ (qn : Nat) (g : Nat → Int32) (H : Heap) (locs : List Loc) (ls : Array Slot), hl_is g v → hl_H D K ad A s.heap v [(qs, .inl (K 0, 12, .inl f)), (qn, .inl (K 0, 9, .inl g))] H locs → lv_has ls 9 [(7, .int 0), (6, .ref qn), (0, .ref b), (1, .ref (ad 0)), (2, .ref qs), (3, .int (nI k))] → W p l e room_1 s m args below meth c H locs (cells + 1) (slots + 9) Q (F0 m 400 ls [])) : W p l e room_1 s m args below meth c H locs cells slots Q (F0 m 310 ls []) := by
  obtain ⟨hx, hb, hml, hown, hts, hK, hA, hX, hbl, hbA⟩ := id C0
  refine lv_bipush (v := 9) hx hb dL_law_310 (by decide) ?_
  refine hl_new C0 hp (n := 9) (by decide) (by decide) (by decide) hc1 hs1 dL_law_312 (fun qn H hp => ?_)
  have hp : hl_H D K ad A s.heap v [(qs, .inl (K 0, 12, .inl f)), (qn, .inl (K 0, 9, .inl (fun _ => 0)))] H locs := hp
  have hf : cells + 1 ≤ room_1.cells ∧ slots + 9 ≤ room_1.slots := ⟨hc1, hs1⟩
  refine hl_now_0 C0 hp hT hf hl (fun H locs hp => ?_)
  refine hl_now_1 C0 hp hT hf hl (fun H locs hp => ?_)
  refine hl_now_2 C0 hp hT hf hl (fun H locs hp => ?_)
  refine hl_now_3 C0 hp hT hf hl (fun H locs hp => ?_)
  refine hl_now_4 C0 hp hT hf hl (fun H locs hp => ?_)
  refine hl_now_5 C0 hp hT hf hl (fun H locs hp => ?_)
  refine hl_now_6 C0 hp hT hf hl (fun H locs hp => ?_)
  refine hl_now_7 C0 hp hT hf hl (fun H locs hp => ?_)
  refine hl_now_8 C0 hp hT hf hl (fun H locs hp => ?_)
  refine lv_astore (lv' := [(6, .ref qn), (0, .ref b), (1, .ref (ad 0)), (2, .ref qs), (3, .int (nI k))]) hx hb dL_law_395 hl (by decide) rfl (fun ls hl => ?_)
  refine lv_iconst (v := 0) hx hb dL_law_397 (by decide) ?_
  refine lv_istore (lv' := [(7, .int 0), (6, .ref qn), (0, .ref b), (1, .ref (ad 0)), (2, .ref qs), (3, .int (nI k))]) hx hb dL_law_398 hl (by decide) rfl (fun ls hl => ?_)
  exact kk qn _ _ _ _ (hl_upd9 _ _ _ _ _ _ _ _ _ _) hp (lv_sub hl [0, 1, 2, 3, 4, 5] rfl)
set_option maxHeartbeats 4000000 in
set_option maxRecDepth 100000 in
/-- a step: pass, call, text, speed, or nothing -/
theorem hl_step (C0 : hl_C p s m args meth c D K A b L xs) (hp : hl_H D K ad A s.heap v X H locs) (hJ : hp_J k nh nc v) (hk : k < 18) (hL : L ≤ 260) (hf : cells ≤ room_1.cells ∧ slots ≤ room_1.slots) (hl : lv_has ls 9 [(0, .ref b), (1, .ref (ad 0)), (2, .ref qs), (3, .int (nI k))])
    (kk : ∀ (v1 : hh_M) (nh1 nc1 : Nat → Nat) (H : Heap) (locs : List Loc) (ls : Array Slot), hp_J (k + 1) nh1 nc1 v1 ∧ hp_R v v1 → hl_H D K ad A s.heap v1 X H locs → lv_has ls 9 [(0, .ref b), (1, .ref (ad 0)), (2, .ref qs), (3, .int (nI k))] → W p l e room_1 s m args below meth c H locs cells slots Q (F0 m 310 ls [])) : W p l e room_1 s m args below meth c H locs cells slots Q (F0 m 159 ls []) := by
  obtain ⟨hx, hb, hml, hown, hts, hK, hA, hX, hbl, hbA⟩ := id C0
  have hT := hJ.1
  have h5 := hJ.2.1
  refine lv_aload_n hx hb dL_law_159 rfl (lv_at hl 0 rfl) ?_
  refine lv_iload_n hx hb dL_law_160 rfl (lv_at hl 3 rfl) ?_
  refine lv_bipush (v := 16) hx hb dL_law_161 (by decide) ?_
  refine lv_irem hx hb dL_law_163 (by decide) ?_
  rw [show nI k - nI k / 16 * 16 = nI (k % 16) from pk_rem (by omega) (by decide) (by decide)]
  refine hl_cC C0 hp (k % 16) (by omega) hL hf hl.1 (Nat.le_of_ble_eq_true rfl) rfl dL_law_164 (fun x0 H locs hp => ?_)
  refine lv_bipush (v := 37) hx hb dL_law_167 (by decide) ?_
  refine lv_iload_n hx hb dL_law_169 rfl (lv_at hl 3 rfl) ?_
  refine lv_imul hx hb dL_law_170 ?_
  refine lv_iadd hx hb dL_law_171 ?_
  refine lv_topi (fun x _ => ?_)
  refine lv_istore (lv' := [(4, .int x), (0, .ref b), (1, .ref (ad 0)), (2, .ref qs), (3, .int (nI k))]) hx hb dL_law_172 hl (by decide) rfl (fun ls hl => ?_)
  refine lv_iload hx hb dL_law_174 (lv_at hl 0 rfl) ?_
  refine lv_iconst (v := 1) hx hb dL_law_176 (by decide) ?_
  refine lv_ishr hx hb dL_law_177 ?_
  refine lv_topi (fun sh_177 _ => ?_)
  refine lv_iconst (v := 5) hx hb dL_law_178 (by decide) ?_
  refine hl_cB C0 hp 5 rfl (by decide) (by decide) hf hl.1 (Nat.le_of_ble_eq_true rfl) dL_law_179 (fun j5 H locs hj5 hp => ?_)
  refine lv_istore (lv' := [(5, .int (nI j5)), (4, .int x), (0, .ref b), (1, .ref (ad 0)), (2, .ref qs), (3, .int (nI k))]) hx hb dL_law_182 hl (by decide) rfl (fun ls hl => ?_)
  refine lv_iload hx hb dL_law_184 (lv_at hl 1 rfl) ?_
  refine lv_iconst (v := 5) hx hb dL_law_186 (by decide) ?_
  refine hl_cB C0 hp 5 rfl (by decide) (by decide) hf hl.1 (Nat.le_of_ble_eq_true rfl) dL_law_187 (fun jc H locs hjc hp => ?_)
  have hjc5 : jc = 0 ∨ jc = 1 ∨ jc = 2 ∨ jc = 3 ∨ jc = 4 := by omega
  have hit : nI j5 < nI (nh 0) := by rw [h5]; exact nI_lt hj5 (by decide)
  have hit0 : (0 : Int32) ≤ nI j5 := nI_pos' (by omega)
  have ej5 : (nI j5).toNatClampNeg = j5 := nI_clamp (by omega)
  have P1 : W p l e room_1 s m args below meth c H locs cells slots Q (F0 m 220 ls []) := by
    refine lv_aload_n hx hb dL_law_220 rfl (lv_at hl 3 rfl) ?_
    refine lv_iconst (v := 1) hx hb dL_law_221 (by decide) ?_
    refine lv_iload hx hb dL_law_222 (lv_at hl 1 rfl) ?_
    refine lv_iconst (v := 4) hx hb dL_law_224 (by decide) ?_
    refine lv_ishr hx hb dL_law_225 ?_
    refine lv_topi (fun sh_225 _ => ?_)
    refine lv_bipush (v := 8) hx hb dL_law_226 (by decide) ?_
    refine hl_cB C0 hp 8 rfl (by decide) (by decide) hf hl.1 (Nat.le_of_ble_eq_true rfl) dL_law_228 (fun j H locs hj hp => ?_)
    refine lv_iadd hx hb dL_law_231 ?_
    rw [show (1 + (nI j)) = nI (1 + j) from nI_add 1 j]
    have es : (nI (1 + j)).toNatClampNeg = 1 + j := nI_clamp (by omega)
    have s1 : (1 : Int32) ≤ nI (1 + j) := nI_le (a := 1) (by omega) (by omega)
    have s2 : nI (1 + j) ≤ (99 : Int32) := nI_le (b := 99) (by omega) (by decide)
    refine hl_cVi C0 hp (As := [.int (nI (1 + j))]) (rest := []) (n := 1) (hk_X7_pass l D K ad hT (nI (1 + j)) s1 s2) hl_g_pass ⟨rfl, rfl⟩ (by decide +kernel) ⟨Nat.le_of_ble_eq_true rfl, Nat.le_of_ble_eq_true rfl⟩ hf hl.1 rfl rfl (Nat.le_of_ble_eq_true rfl) dL_law_232 (fun q_232 v1 H locs hv1 hp => ?_)
    obtain ⟨e1, hT1⟩ := hv1
    refine lv_pop hx hb dL_law_235 rfl ?_
    refine lv_goto (tgt := 310) hx hb dL_law_236 (by decide) ?_
    exact kk v1 nh nc _ _ _ (hp_pass hJ hk (by rw [es]; omega) (congrArg Prod.snd e1) hT1) hp (lv_sub hl [2, 3, 4, 5] rfl)
  rcases hjc5 with rfl | rfl | rfl | rfl | rfl
  · refine lv_tableIn (off := 30) (tgt := 220) hx hb dL_law_190 (by decide) (by decide) (by decide) (by decide) ?_
    exact P1
  · refine lv_tableIn (off := 30) (tgt := 220) hx hb dL_law_190 (by decide) (by decide) (by decide) (by decide) ?_
    exact P1
  · refine lv_tableIn (off := 49) (tgt := 239) hx hb dL_law_190 (by decide) (by decide) (by decide) (by decide) ?_
    refine lv_aload_n hx hb dL_law_239 rfl (lv_at hl 3 rfl) ?_
    refine lv_iconst (v := 3) hx hb dL_law_240 (by decide) ?_
    refine hl_cVi C0 hp (As := [.int 3]) (rest := []) (n := 1) (hk_X7_many l D K ad hT 3 (by decide) (by decide)) hl_g_many ⟨rfl, rfl⟩ (by decide +kernel) ⟨Nat.le_of_ble_eq_true rfl, Nat.le_of_ble_eq_true rfl⟩ hf hl.1 rfl rfl (Nat.le_of_ble_eq_true rfl) dL_law_241 (fun q_241 v_241 H locs hv_241 hp => ?_)
    obtain ⟨e_241, hv9⟩ := hv_241
    rw [hv9] at hp; clear hv9
    rw [e_241]
    rw [hp_m3, hh_T_r6 hT 0]
    refine lv_bipush (v := 24) hx hb dL_law_244 (by decide) ?_
    refine lv_icmp_ge (tgt := 310) hx hb dL_law_246 (by decide) (fun _ => ?_) (fun c9 => ?_)
    · exact kk v nh nc _ _ _ (hp_none hJ hk) hp (lv_sub hl [2, 3, 4, 5] rfl)
    · have hc24 : nc 0 < 24 := by
        rcases Nat.lt_or_ge (nc 0) 24 with q | q
        · exact q
        · exact absurd (nI_le (a := 24) q (by have := hT.2.2.1 0; omega)) c9
      refine lv_aload_n hx hb dL_law_249 rfl (lv_at hl 3 rfl) ?_
      refine lv_iload hx hb dL_law_250 (lv_at hl 0 rfl) ?_
      refine lv_iload hx hb dL_law_252 (lv_at hl 0 rfl) ?_
      refine lv_iconst (v := 1) hx hb dL_law_254 (by decide) ?_
      refine lv_iadd hx hb dL_law_255 ?_
      refine lv_iconst (v := 5) hx hb dL_law_256 (by decide) ?_
      rw [nI_1]
      refine lv_irem hx hb dL_law_257 (by decide) ?_
      rw [show nI (j5 + 1) - nI (j5 + 1) / 5 * 5 = nI ((j5 + 1) % 5) from pk_rem (by omega) (by decide) (by decide)]
      have ht0 : (j5 + 1) % 5 < 5 := Nat.mod_lt _ (by decide)
      have ht1 : nI ((j5 + 1) % 5) < nI (nh 0) := by rw [h5]; exact nI_lt ht0 (by decide)
      have hne : ¬ nI j5 = nI ((j5 + 1) % 5) := fun q => by
        have := (nI_eq (by omega) (by omega)).mp q
        omega
      refine hl_cVi C0 hp (As := [.int (nI j5), .int (nI ((j5 + 1) % 5))]) (rest := []) (n := 2) (hk_X7_call l D K ad hT (nI j5) (nI ((j5 + 1) % 5)) hit0 hit (nI_pos' (by omega)) ht1 hne hc24) hl_g_call ⟨rfl, rfl⟩ (by decide +kernel) ⟨Nat.le_of_ble_eq_true rfl, Nat.le_of_ble_eq_true rfl⟩ hf hl.1 rfl rfl (Nat.le_of_ble_eq_true rfl) dL_law_258 (fun q_258 v1 H locs hv1 hp => ?_)
      obtain ⟨e1, nc1, hT1⟩ := hv1
      refine lv_pop hx hb dL_law_261 rfl ?_
      refine lv_goto (tgt := 310) hx hb dL_law_262 (by decide) ?_
      exact kk v1 nh nc1 _ _ _ (hp_call hJ hk (by rw [ej5]; exact hj5) (by rw [nI_clamp (by omega)]; exact ht0) hc24 (congrArg Prod.snd e1) hT1) hp (lv_sub hl [2, 3, 4, 5] rfl)
  · refine lv_tableIn (off := 75) (tgt := 265) hx hb dL_law_190 (by decide) (by decide) (by decide) (by decide) ?_
    refine lv_aload_n hx hb dL_law_265 rfl (lv_at hl 3 rfl) ?_
    refine lv_bipush (v := 9) hx hb dL_law_266 (by decide) ?_
    refine hl_cVi C0 hp (As := [.int 9]) (rest := []) (n := 1) (hk_X7_many l D K ad hT 9 (by decide) (by decide)) hl_g_many ⟨rfl, rfl⟩ (by decide +kernel) ⟨Nat.le_of_ble_eq_true rfl, Nat.le_of_ble_eq_true rfl⟩ hf hl.1 rfl rfl (Nat.le_of_ble_eq_true rfl) dL_law_268 (fun q_268 v_268 H locs hv_268 hp => ?_)
    obtain ⟨e_268, hv9⟩ := hv_268
    rw [hv9] at hp; clear hv9
    rw [e_268]
    rw [hp_m9]
    refine lv_bipush (v := 24) hx hb dL_law_271 (by decide) ?_
    refine lv_icmp_ge (tgt := 310) hx hb dL_law_273 (by decide) (fun _ => ?_) (fun c9 => ?_)
    · exact kk v nh nc _ _ _ (hp_none hJ hk) hp (lv_sub hl [2, 3, 4, 5] rfl)
    · have ht24 : v (hh_rI 0) 7 < 24 := Int32.not_le.mp c9
      refine lv_aload_n hx hb dL_law_276 rfl (lv_at hl 3 rfl) ?_
      refine lv_iload hx hb dL_law_277 (lv_at hl 0 rfl) ?_
      refine lv_iload hx hb dL_law_279 (lv_at hl 0 rfl) ?_
      refine lv_iconst (v := 2) hx hb dL_law_281 (by decide) ?_
      refine lv_iadd hx hb dL_law_282 ?_
      refine lv_iconst (v := 5) hx hb dL_law_283 (by decide) ?_
      rw [show nI j5 + 2 = nI (j5 + 2) from nI_add j5 2]
      refine lv_irem hx hb dL_law_284 (by decide) ?_
      rw [show nI (j5 + 2) - nI (j5 + 2) / 5 * 5 = nI ((j5 + 2) % 5) from pk_rem (by omega) (by decide) (by decide)]
      have ht0 : (j5 + 2) % 5 < 5 := Nat.mod_lt _ (by decide)
      have ht1 : nI ((j5 + 2) % 5) < nI (nh 0) := by rw [h5]; exact nI_lt ht0 (by decide)
      have hne : ¬ nI j5 = nI ((j5 + 2) % 5) := fun q => by
        have := (nI_eq (by omega) (by omega)).mp q
        omega
      refine hl_cVi C0 hp (As := [.int (nI j5), .int (nI ((j5 + 2) % 5))]) (rest := []) (n := 2) (hk_X7_text l D K ad hT (nI j5) (nI ((j5 + 2) % 5)) hit0 hit (nI_pos' (by omega)) ht1 hne ht24) hl_g_text ⟨rfl, rfl⟩ (by decide +kernel) ⟨Nat.le_of_ble_eq_true rfl, Nat.le_of_ble_eq_true rfl⟩ hf hl.1 rfl rfl (Nat.le_of_ble_eq_true rfl) dL_law_285 (fun q_285 v1 H locs hv1 hp => ?_)
      obtain ⟨e1, hT1⟩ := hv1
      refine lv_pop hx hb dL_law_288 rfl ?_
      refine lv_goto (tgt := 310) hx hb dL_law_289 (by decide) ?_
      exact kk v1 nh nc _ _ _ (hp_text hJ hk (by rw [nI_clamp (by omega)]; exact ht0) (congrArg Prod.snd e1) hT1) hp (lv_sub hl [2, 3, 4, 5] rfl)
  · refine lv_tableOut (tgt := 292) hx hb dL_law_190 (by decide) (by decide) ?_
    refine lv_aload_n hx hb dL_law_292 rfl (lv_at hl 3 rfl) ?_
    refine lv_iload hx hb dL_law_293 (lv_at hl 0 rfl) ?_
    refine lv_iload hx hb dL_law_295 (lv_at hl 1 rfl) ?_
    refine lv_iconst (v := 4) hx hb dL_law_297 (by decide) ?_
    refine lv_ishr hx hb dL_law_298 ?_
    refine lv_topi (fun sh_298 _ => ?_)
    refine lv_bipush (v := 7) hx hb dL_law_299 (by decide) ?_
    refine hl_cB C0 hp 7 rfl (by decide) (by decide) hf hl.1 (Nat.le_of_ble_eq_true rfl) dL_law_301 (fun j H locs hj hp => ?_)
    refine lv_iconst (v := 3) hx hb dL_law_304 (by decide) ?_
    refine lv_isub hx hb dL_law_305 ?_
    have s9 : ∀ j, j < 7 → (-3 : Int32) ≤ nI j - 3 ∧ nI j - 3 ≤ (3 : Int32) := by decide
    refine hl_cVi C0 hp (As := [.int (nI j5), .int (nI j - 3)]) (rest := []) (n := 2) (hk_X7_speed l D K ad hT (nI j5) (nI j - 3) hit0 hit (s9 j hj).1 (s9 j hj).2) hl_g_speed ⟨rfl, rfl⟩ (by decide +kernel) ⟨Nat.le_of_ble_eq_true rfl, Nat.le_of_ble_eq_true rfl⟩ hf hl.1 rfl rfl (Nat.le_of_ble_eq_true rfl) dL_law_306 (fun q_306 v1 H locs hv1 hp => ?_)
    obtain ⟨e1, hT1⟩ := hv1
    refine lv_pop hx hb dL_law_309 rfl ?_
    exact kk v1 nh nc _ _ _ (hp_speed hJ hk (by rw [ej5]; exact hj5) (congrArg Prod.snd e1) hT1) hp (lv_sub hl [2, 3, 4, 5] rfl)
end HL4
