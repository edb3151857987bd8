/-! the class on an empty road: forget, meanSeconds; what its answers are there -/
def hh_Kd (l : Launch) (D : va_G) (K : Nat → ClassId) (ad : Nat → Nat) (y : MethodName) (ws : List Cond) (rm : Room) (As : List Value) (v : hh_M) (φ : UInt64 → hh_M → Prop) : Prop := ∀ sz : Nat, Met l y ws rm (hh_Pc D K ad As v sz) (va_Qd φ (hh_B D K ad (va_A (hh_W K ad v) sz)) (va_A (hh_W K ad v) sz)) 0 0 (va_A (hh_W K ad v) sz)
theorem he_calls {v : hh_M} {e : Int32} (h : v (hh_rI 0) 6 = nI 0) : hf_X5_callsThat v 0 e = 0 := by
  unfold hf_X5_callsThat
  rw [h]
  rfl
set_option maxHeartbeats 4000000 in
set_option maxRecDepth 100000 in
theorem he_X5_forgetAreas (l : Launch) (D : va_G) (K : Nat → ClassId) (ad : Nat → Nat) : hh_Ki l D K ad yX5_forgetAreas (hh_wm yX5_forgetAreas cX5_forgetAreas 3 (some .int)) { frames := 0, cells := 0, slots := 0, locals := 0 } [.ref (ad (hh_rI 0))] hn_v0 (fun (q : Int32) (v1 : hh_M) => q = 0 ∧ v1 = hn_v0) := by
  refine hh_Ki_of (by decide) (Nat.le_of_ble_eq_true rfl) ?_
  intro p e s m args below meth c ls A C0 hp hl
  obtain ⟨hx, hb, hr9, hml, hown, hts, hK, hlk, hA⟩ := id C0
  have hl : lv_has ls 3 [(0, .ref (ad (hh_rI 0)))] := hl
  refine lv_iconst (v := 0) hx hb dX5_forgetAreas_0 (by decide) ?_
  refine lv_istore_n (lv' := [(1, .int 0), (0, .ref (ad (hh_rI 0)))]) hx hb dX5_forgetAreas_1 rfl hl (by decide) rfl (fun ls hl => ?_)
  refine lv_iconst (v := 0) hx hb dX5_forgetAreas_2 (by decide) ?_
  refine lv_istore_n (lv' := [(2, .int 0), (1, .int 0), (0, .ref (ad (hh_rI 0)))]) hx hb dX5_forgetAreas_3 rfl hl (by decide) rfl (fun ls hl => ?_)
  refine lv_iload_n hx hb dX5_forgetAreas_4 rfl (lv_at hl 0 rfl) ?_
  refine lv_aload_n hx hb dX5_forgetAreas_5 rfl (lv_at hl 2 rfl) ?_
  refine hh_get C0 hp (C := RX5) (T := TX5) (N := 10) (ci := 5) (hh_b_r (by decide : 0 < 2)) (hh_E_r 0) rfl hh_uX5 5 (by decide) hm_111 rfl rfl dX5_forgetAreas_6 ?_
  rw [show hn_v0 (hh_rI 0) 5 = 0 from rfl]
  refine lv_icmp_ge (tgt := 44) hx hb dX5_forgetAreas_9 (by decide) (fun _ => ?_) (fun c9 => absurd c9 (by decide))
  refine lv_iload_n hx hb dX5_forgetAreas_44 rfl (lv_at hl 1 rfl) ?_
  exact hh_iret C0 hp dX5_forgetAreas_45 ⟨rfl, rfl⟩
set_option maxHeartbeats 4000000 in
set_option maxRecDepth 100000 in
theorem he_X7_forget (l : Launch) (D : va_G) (K : Nat → ClassId) (ad : Nat → Nat) : hh_Ki l D K ad yX7_forget (hh_wm yX7_forget cX7_forget 1 (some .int)) { frames := 1, cells := 0, slots := 0, locals := 22 } [.ref (ad 0)] hn_v0 (fun (q : Int32) (v1 : hh_M) => q = 0 ∧ v1 = hn_v0) := by
  refine hh_Ki_of (by decide) (Nat.le_of_ble_eq_true rfl) ?_
  intro p e s m args below meth c ls A C0 hp hl
  obtain ⟨hx, hb, hr9, hml, hown, hts, hK, hlk, hA⟩ := id C0
  have hl : lv_has ls 1 [(0, .ref (ad 0))] := hl
  refine lv_aload_n hx hb dX7_forget_0 rfl (lv_at hl 0 rfl) ?_
  refine hh_get C0 hp (C := RX7) (T := TX7) (N := 4) (ci := 7) (by decide) hh_E_0 rfl hh_uX7 1 (by decide) hm_313 rfl rfl dX7_forget_1 ?_
  refine hh_cVi C0 hp (As := []) (rest := []) (C := RX5) (T := TX5) (N := 10) (ci := 5) (n := 0) (he_X5_forgetAreas l D K ad) rfl (hh_b_r (by decide : 0 < 2)) (hh_E_r 0) (hh_gV hm_387 hm_388 hm_389 hm_128 hm_157) ⟨rfl, rfl⟩ (by decide +kernel) ⟨Nat.le_of_ble_eq_true rfl, Nat.le_of_ble_eq_true rfl⟩ ⟨Nat.zero_le _, Nat.zero_le _⟩ hl.1 rfl rfl (Nat.le_of_ble_eq_true rfl) dX7_forget_4 (fun q v1 H locs hv hp => ?_)
  obtain ⟨rfl, rfl⟩ := hv
  exact hh_iret C0 hp dX7_forget_7 ⟨rfl, rfl⟩
theorem hh_Kd_of {l : Launch} {D : va_G} {K : Nat → ClassId} {ad : Nat → Nat} {y : MethodName} {cc : ByteArray} {nL : Nat} {ret : Option FieldType} {rm : Room} {As : List Value} {v : hh_M} {φ : UInt64 → hh_M → Prop} (hy : plainName y.cls = true) (hn : (lg_sl As).length ≤ nL)
    (body : ∀ (p : Program) (e : Env) (s : State) (m : MethodId) (args : Array Value) (below : List Frame) (meth : Method) (c : Code) (ls : Array Slot) (A : Nat → Prop), hh_C p s m args meth c D K cc nL ret y.cls A → hh_H D K ad A s.heap v s.heap [] → lv_has ls nL (lv_args 0 As) → W p l e rm s m args below meth c s.heap [] 0 0 (MQ below (va_Qd φ (hh_B D K ad A) A) args s 0 0 A) (F0 m 0 ls [])) : hh_Kd l D K ad y (hh_wm y cc nL ret) rm As v φ := by
  intro sz
  refine hh_enter hy hn ?_
  intro p e s m args below meth c ls A _ hA C0 hp hl
  subst hA
  exact body p e s m args below meth c ls _ C0 hp hl
set_option maxHeartbeats 4000000 in
set_option maxRecDepth 100000 in
theorem he_X7_meanSeconds (l : Launch) (D : va_G) (K : Nat → ClassId) (ad : Nat → Nat) : hh_Kd l D K ad yX7_meanSeconds (hh_wm yX7_meanSeconds cX7_meanSeconds 2 (some .double)) { frames := 1, cells := 0, slots := 0, locals := 23 } [.ref (ad 0)] hn_v0 (fun (q : UInt64) (v1 : hh_M) => q = 0 ∧ v1 = hn_v0) := by
  refine hh_Kd_of (by decide) (Nat.le_of_ble_eq_true rfl) ?_
  intro p e s m args below meth c ls A C0 hp hl
  obtain ⟨hx, hb, hr9, hml, hown, hts, hK, hlk, hA⟩ := id C0
  have hl : lv_has ls 2 [(0, .ref (ad 0))] := hl
  refine lv_aload_n hx hb dX7_meanSeconds_0 rfl (lv_at hl 0 rfl) ?_
  refine hh_get C0 hp (C := RX7) (T := TX7) (N := 4) (ci := 7) (by decide) hh_E_0 rfl hh_uX7 1 (by decide) hm_313 rfl rfl dX7_meanSeconds_1 ?_
  refine hh_get C0 hp (C := RX5) (T := TX5) (N := 10) (ci := 5) (hh_b_r (by decide : 0 < 2)) (hh_E_r 0) rfl hh_uX5 6 (by decide) hm_370 rfl rfl dX7_meanSeconds_4 ?_
  rw [show hn_v0 (hh_rI 0) 6 = 0 from rfl]
  refine lv_aload_n hx hb dX7_meanSeconds_7 rfl (lv_at hl 0 rfl) ?_
  refine hh_get C0 hp (C := RX7) (T := TX7) (N := 4) (ci := 7) (by decide) hh_E_0 rfl hh_uX7 1 (by decide) hm_313 rfl rfl dX7_meanSeconds_8 ?_
  refine lv_iconst (v := 0) hx hb dX7_meanSeconds_11 (by decide) ?_
  refine hh_cVi C0 hp (As := [.int 0]) (rest := [.int 0]) (C := RX5) (T := TX5) (N := 10) (ci := 5) (n := 1) (hk_X5_callsThat l D K ad hn_T0 0 0 (by decide : 0 < 2)) rfl (hh_b_r (by decide : 0 < 2)) (hh_E_r 0) (hh_gV hm_391 hm_392 hm_393 hm_128 hm_267) ⟨rfl, rfl⟩ (by decide +kernel) ⟨Nat.le_of_ble_eq_true rfl, Nat.le_of_ble_eq_true rfl⟩ ⟨Nat.zero_le _, Nat.zero_le _⟩ hl.1 rfl rfl (Nat.le_of_ble_eq_true rfl) dX7_meanSeconds_12 (fun q v1 H locs hv hp => ?_)
  obtain ⟨eq, hv9⟩ := hv
  rw [hv9] at hp
  rw [eq, he_calls rfl]
  refine lv_isub hx hb dX7_meanSeconds_15 ?_
  rw [show (0 : Int32) - 0 = 0 from by decide]
  refine lv_istore_n (lv' := [(1, .int 0), (0, .ref (ad 0))]) hx hb dX7_meanSeconds_16 rfl hl (by decide) rfl (fun ls hl => ?_)
  refine lv_iload_n hx hb dX7_meanSeconds_17 rfl (lv_at hl 0 rfl) ?_
  refine lv_if_gt (tgt := 23) hx hb dX7_meanSeconds_18 (by decide) (fun c9 => absurd c9 (by decide)) (fun _ => ?_)
  refine lv_dconst0 hx hb dX7_meanSeconds_21 ?_
  exact W.dret hx hb hr9 (fun t ht hW => ⟨⟨0, hn_v0, rfl, ⟨rfl, rfl⟩, by rw [ht]; exact hp.1, va_K.moved hW.alike hK, hp.2.1⟩, hp.2.2.F ht⟩) hp.2.2.2.2 dX7_meanSeconds_22 hlk
theorem he_best (pl : Int32) : hf_X7_best hn_v0 pl = -1 := rfl
theorem he_phw : hf_X5_placesHeardWell hn_v0 0 = 0 := by
  have h : ∀ n, hh_fld (fun (i9 : Nat) (z : Int32) => hl_X5_placesHeardWell_4 hn_v0 0 i9 z) n 0 = 0 := by
    intro n
    induction n with
    | zero => rfl
    | succ n ih => rw [hh_fld, ih]; rfl
  unfold hf_X5_placesHeardWell
  rw [h]
  rfl
theorem he_many (w : Int32) : hf_X7_many hn_v0 w = 0 := by
  unfold hf_X7_many
  by_cases c0 : w = 0
  · rw [if_pos c0]; rfl
  rw [if_neg c0]
  by_cases c1 : w = 1
  · rw [if_pos c1]; rfl
  rw [if_neg c1]
  by_cases c2 : w = 2
  · rw [if_pos c2]; rfl
  rw [if_neg c2]
  by_cases c3 : w = 3
  · rw [if_pos c3]; rfl
  rw [if_neg c3]
  by_cases c4 : w = 4
  · rw [if_pos c4]; rfl
  rw [if_neg c4]
  by_cases c5 : w = 5
  · rw [if_pos c5]; rfl
  rw [if_neg c5]
  by_cases c6 : w = 6
  · rw [if_pos c6]; rfl
  rw [if_neg c6]
  by_cases c7 : w = 7
  · rw [if_pos c7]; rfl
  rw [if_neg c7]
  by_cases c8 : w = 8
  · rw [if_pos c8]; rfl
  rw [if_neg c8]
  by_cases c9 : w = 9
  · rw [if_pos c9]; rfl
  rw [if_neg c9]
  by_cases c10 : w = 10
  · rw [if_pos c10]; rfl
  rw [if_neg c10]
  by_cases c11 : w = 11
  · rw [if_pos c11]; rfl
  rw [if_neg c11]
  by_cases c12 : w = 12
  · rw [if_pos c12]; rfl
  rw [if_neg c12]
  by_cases c13 : w = 13
  · rw [if_pos c13]; rfl
  rw [if_neg c13, he_phw]
  rfl
theorem he_mast {v v1 : hh_M} {q a b c d e f : Int32} (h : (q, v1) = hf_X7_mast v a b c d e f) : q = v1 1 2 - 1 := by
  have h1 : q = (hf_X7_mast v a b c d e f).1 := congrArg Prod.fst h
  have h2 : v1 = (hf_X7_mast v a b c d e f).2 := congrArg Prod.snd h
  rw [h1, h2]
  rfl
theorem he_handset {v v1 : hh_M} {q a b c d : Int32} (h : (q, v1) = hf_X7_handset v a b c d) : q = v1 (hh_rI 0) 5 - 1 := by
  have h1 : q = (hf_X7_handset v a b c d).1 := congrArg Prod.fst h
  have h2 : v1 = (hf_X7_handset v a b c d).2 := congrArg Prod.snd h
  rw [h1, h2]
  rfl
theorem he_pass {v v1 : hh_M} {q a : Int32} (h : (q, v1) = hf_X7_pass v a) : q = hf_X5_callsThat v 0 0 - hf_X5_callsThat v1 0 0 := by
  have h1 : q = (hf_X7_pass v a).1 := congrArg Prod.fst h
  have h2 : v1 = (hf_X7_pass v a).2 := congrArg Prod.snd h
  rw [h1, h2]
  rfl
theorem he_fld {σ : Type} {f g : Nat → σ → σ} {n : Nat} {s : σ} (h : ∀ i z, i < n → f i z = g i z) : hh_fld f n s = hh_fld g n s := by
  induction n with
  | zero => rfl
  | succ n ih => rw [hh_fld, hh_fld, ih (fun i z hi => h i z (by omega)), h n _ (by omega)]
theorem he_take (fr : Int32) (n : Nat) : (∀ i, i < n → (hh_fld (fun (i9 : Nat) (z : hh_M) => hl_X6_take_2 0 fr i9 z) n hn_v0) 5 i = -1000 ∧ (hh_fld (fun (i9 : Nat) (z : hh_M) => hl_X6_take_2 0 fr i9 z) n hn_v0) 6 i = -1000 ∧ (hh_fld (fun (i9 : Nat) (z : hh_M) => hl_X6_take_2 0 fr i9 z) n hn_v0) 7 i = 0) ∧ (hh_fld (fun (i9 : Nat) (z : hh_M) => hl_X6_take_2 0 fr i9 z) n hn_v0) 1 2 = 0 := by
  induction n with
  | zero => exact ⟨fun i hi => absurd hi (Nat.not_lt_zero i), rfl⟩
  | succ n ih =>
    rw [hh_fld]
    generalize hh_fld (fun (i9 : Nat) (z : hh_M) => hl_X6_take_2 0 fr i9 z) n hn_v0 = w at ih ⊢
    have e : hl_X6_take_2 0 fr n w = hh_up (hh_up (hh_up w 5 n (-1000)) 6 n (-1000)) 7 n 0 := by
      have h12 : (hh_up (hh_up (hh_up w 5 n (-1000)) 6 n (-1000)) 7 n 0) 1 2 = 0 := by simp [hh_up, ih.2]
      unfold hl_X6_take_2
      refine (hh_let_eq rfl).trans ((hh_let_eq rfl).trans ((hh_let_eq rfl).trans ?_))
      rw [h12]
      rfl
    rw [e]
    refine ⟨fun i hi => ?_, by simp [hh_up, ih.2]⟩
    by_cases c : i = n
    · subst c; simp [hh_up]
    · have := ih.1 i (by omega)
      simp [hh_up, c, this]
theorem he_srv {w : hh_M} {pw : Int32} {pl i : Nat} {z : Int32} (h0 : 10 ≤ pw) (h1 : pw ≤ 60) (hpl : pl < 100) (hi : i < 100) (h5 : w 5 i = -1000) (h6 : w 6 i = -1000) (h7 : w 7 i = 0) : hl_X6_servedFrom_5 w (nI pl) pw i z = hr_srv pw pl i z := by
  have a0 := Int32.le_iff_toInt_le.mp h0
  have a1 := Int32.le_iff_toInt_le.mp h1
  rw [show (10 : Int32).toInt = 10 from rfl] at a0
  rw [show (60 : Int32).toInt = 60 from rfl] at a1
  have d : (nI pl - nI i).toInt = (pl : Int) - i := pk_sub_toInt (by omega) (by omega)
  have ab : 0 ≤ (hr_abs (nI pl - nI i)).toInt ∧ (hr_abs (nI pl - nI i)).toInt ≤ 99 := by
    unfold hr_abs
    by_cases c : (0 : Int32) ≤ nI pl - nI i
    · rw [if_pos c]
      have c' := Int32.le_iff_toInt_le.mp c
      rw [show (0 : Int32).toInt = 0 from rfl, d] at c'
      rw [d]; omega
    · rw [if_neg c]
      have c' := Int32.lt_iff_toInt_lt.mp (Int32.not_le.mp c)
      rw [show (0 : Int32).toInt = 0 from rfl, d] at c'
      rw [hh_sub (by rw [show (0 : Int32).toInt = 0 from rfl, d]; omega), show (0 : Int32).toInt = 0 from rfl, d]; omega
  have x : (pw - hr_abs (nI pl - nI i)).toInt = pw.toInt - (hr_abs (nI pl - nI i)).toInt := hh_sub (by omega)
  have e : hl_X6_servedFrom_5 w (nI pl) pw i z = (if (pw - hr_abs (nI pl - nI i)) - 0 < 5 then z else z + 1) := by
    unfold hl_X6_servedFrom_5
    refine (hh_let_eq (q := hr_abs (nI pl - nI i)) rfl).trans ?_
    refine (hh_let_eq (q := pw - hr_abs (nI pl - nI i)) rfl).trans ?_
    generalize pw - hr_abs (nI pl - nI i) = y at x ⊢
    refine (hh_let_eq (q := if y ≤ 0 then 0 else y / 3) rfl).trans ?_
    rw [if_neg (by rw [h5]; decide), if_neg, h7]
    · rfl
    · rw [h6]
      have j : 0 ≤ (if y ≤ 0 then (0 : Int32) else y / 3).toInt ∧ (if y ≤ 0 then (0 : Int32) else y / 3).toInt ≤ 60 := by
        by_cases c : y ≤ 0
        · rw [if_pos c]; decide
        · rw [if_neg c]
          have c' := Int32.lt_iff_toInt_lt.mp (Int32.not_le.mp c)
          rw [show (0 : Int32).toInt = 0 from rfl] at c'
          obtain ⟨k, hk, rfl⟩ := nI_of (x := y) (fun q => by
            have := Int32.lt_iff_toInt_lt.mp q
            rw [show (0 : Int32).toInt = 0 from rfl] at this
            omega)
          rw [nI_toInt hk] at x
          rw [show nI k / 3 = nI (k / 3) from pk_div hk (by decide) (by decide), nI_toInt (by omega)]
          omega
      intro q
      have q' := Int32.le_iff_toInt_le.mp q
      rw [hh_sub (by rw [show (-1000 : Int32).toInt = -1000 from rfl]; omega), show (-1000 : Int32).toInt = -1000 from rfl, show (5 : Int32).toInt = 5 from rfl] at q'
      omega
  rw [e]
  unfold hr_srv hr_cov
  by_cases c : (pw - hr_abs (nI pl - nI i)) - 0 < 5
  · rw [if_pos c, if_pos c, show hr_one 0 = 0 from rfl, Int32.add_zero]
  · rw [if_neg c, if_neg c]; rfl
theorem he_bestPlace {pw fr : Int32} (h : hv_bestPlace pw fr) : (hf_X7_bestPlace hn_v0 pw fr).1 = hr_bf pw := by
  have ht := he_take fr 100
  have e1 : hf_X6_take hn_v0 0 fr = hh_fld (fun (i9 : Nat) (z : hh_M) => hl_X6_take_2 0 fr i9 z) 100 hn_v0 := by
    unfold hf_X6_take
    exact hh_let_eq rfl
  rw [← e1] at ht
  have e2 : ∀ i, i < 100 → hf_X6_servedFrom (hf_X6_take hn_v0 0 fr) (nI i) pw = hr_cnt pw i := fun i hi => by
    unfold hf_X6_servedFrom hr_cnt
    exact (hh_let_eq rfl).trans (he_fld (fun k z hk => he_srv h.1.1 h.1.2 hi hk (ht.1 k hk).1 (ht.1 k hk).2.1 (ht.1 k hk).2.2))
  have e3 : hf_X6_placeFor (hf_X6_take hn_v0 0 fr) pw = hr_bf pw := by
    unfold hf_X6_placeFor hr_bf
    refine (hh_let_eq rfl).trans ((hh_let_eq rfl).trans ?_)
    refine congrArg Prod.fst (he_fld (fun i z hi => ?_))
    unfold hl_X6_placeFor_7 hr_bst
    refine (hh_let_eq (e2 i hi).symm).trans ?_
    by_cases c : z.2 < hr_cnt pw i
    · rw [if_pos c, if_neg (Int32.not_le.mpr c)]
    · rw [if_neg c, if_pos (Int32.not_lt.mp c)]
  unfold hf_X7_bestPlace
  rw [if_pos (by decide)]
  generalize hf_X6_take hn_v0 0 fr = w at e3 ⊢
  generalize hr_bf pw = b at e3 ⊢
  simp only [hh_let, e3]
theorem he_digest : (hf_X7_digest hn_v0).1 = hr_dg := by
  have a1 : hh_fld (fun (i9 : Nat) (z : Int64) => hl_X7_digest_6 hn_v0 i9 z) 15 58188 = hr_dl 15 := by
    unfold hr_dl
    refine he_fld (fun i z _ => ?_)
    unfold hl_X7_digest_6
    exact hh_let_eq (he_many (nI i)).symm
  have a2 : ∀ d : Int64, hf_X7_addMasts hn_v0 d = d := fun _ => rfl
  have a3 : ∀ d : Int64, hf_X7_addHandsets hn_v0 d = (d, hn_v0) := fun _ => rfl
  have a4 : ∀ d : Int64, hf_X7_addCalls hn_v0 d = (d, hn_v0) := fun _ => rfl
  have a5 := he_bestPlace (pw := 30) (fr := 1) (by unfold hv_bestPlace; decide)
  unfold hf_X7_digest hr_dg
  rw [a1]
  generalize hr_dl 15 = d
  generalize hr_bf 30 = b at a5
  simp only [hh_let, a2, a3, a4, he_best, a5]
  rw [show (-1 : Int32).toInt64 = -1 from by decide]
