/-! THE LAW: its walk, and its setting up -/
section HQ3
variable {p : Program} {l : Launch} {e : Env} {s : State} {m : MethodId} {args : Array Value} {below : List Frame} {meth : Method} {c : Code} {H : Heap} {locs : List Loc} {cells slots : Nat} {Q : State → Prop}
variable {pc : Nat} {ls : Array Slot} {rest st0 : List Value} {D1 D2 : va_G} {K : Nat → ClassId} {ad a : Nat → Nat} {A : Nat → Prop} {s1 s2 z o b L : Nat} {xs : Nat → Int32} {cJ : ClassId} {W1 Y : va_W} {R : Room}
theorem hq_l7 : ∀ L : Nat, L < 8 → ¬ (Int32.ofNat L - 7 < 0) → L = 7 := by decide
theorem hq_l31 {args : Array Value} {s : State} {t : Term} {v : Value} {q : Addr} {cell : Cell} (hv : (Term.length t).eval args s none [] s = some v) (ht : t.eval args s none [] s = some (.ref q)) (hat : s.arrayAt? q = some cell) : cell.slots.size < 2 ^ 31 := by
  simp only [Term.eval, ht, hat, Option.bind_eq_bind, Option.bind_some] at hv
  by_cases hlt : cell.slots.size < 2147483648
  · exact hlt
  · simp [hlt] at hv
theorem hq_Zof {args : Array Value} {s : State} {A : Nat → Prop} (hl : (Cond.laysStatic RJx4a65c hr_eN hr_eD).before args s = true) (hini : (Cond.initialized RJx4a65c).before args s = true) (harr : (Cond.arrayOf (.static RJx4a65c hr_eN hr_eD) (.object "java/lang/Object")).before args s = true) (hlen : (Cond.eq (.length (.static RJx4a65c hr_eN hr_eD)) (.int 0)).before args s = true) (hA : ∀ a : Nat, a < s.heap.size → ¬ A a) : ∃ z : Nat, hr_Z z A s s.heap := by
  have hv := va_eqt hlen
  obtain ⟨t, cell, ht, hat, he⟩ := Term.length_spec hv
  have hsz := hq_l31 hv ht hat
  obtain ⟨hcell, hkn, -, -⟩ := State.arrayAt?_spec hat
  obtain ⟨hof, -⟩ := Cond.arrayOf_spec harr ht hcell
  refine ⟨t, va_Zof hl hini ht hA, cell, hcell, hof, hkn, ?_, hA t (Array.getElem?_eq_some_iff.mp hcell).1⟩
  have h0 : Int32.ofNat cell.slots.size = 0 := (Value.int.inj he).symm
  have h1 := congrArg Int32.toInt h0
  rw [Int32.toInt_ofNat_small hsz] at h1
  have z0 : (0 : Int32).toInt = 0 := rfl
  rw [z0] at h1
  omega
theorem hq_new {fs : List Value} (hx : p.tables.exec = Jvm.exec) (hb : c.code = cL_law) (hown : s.vm.findClass RL = some m.cls) (hts : ∀ w ∈ lw_tbl, w.before args s = true) (hK2 : va_K D2 hr_cl [] s) (hP : va_P D1 hh_cl W1 H) (hD : va_D A W1) (hS : va_S A s.heap H locs) (hA : ∀ q, s.heap.size ≤ q → A q) (hfs : ∀ j, j < 4 → defaultValue (tyX12 j) = vp_V fs j) (hcells : cells + 1 ≤ R.cells) (hslots : slots + 4 ≤ R.slots)
    (kk : ∀ (q : Nat) (H1 : Heap), va_P D1 hh_cl W1 H1 → va_P D2 hr_cl [(q, .inr (2, fs))] H1 → va_D A (W1 ++ [(q, .inr (2, fs))]) → va_S A s.heap H1 locs → W p l e R s m args below meth c H1 locs (cells + 1) (slots + 4) Q (F0 m 11 ls (.ref q :: rest))) : W p l e R s m args below meth c H locs cells slots Q (F0 m 8 ls rest) := by
  have hc : hr_cl[2]? = some (RX12, TX12, 4) := rfl
  have hKn := hK2.1 2 _ hc
  refine W.newcK hx hb hown (hts _ (hq_tbl _ hq_149)) (hts (.instantiable RX12 4) (by decide +kernel)) (hts _ (hq_tbl _ hq_146)) rfl dL_law_8 hcells hslots hKn.2.1 rfl fun H1 kC hkC e1 z1 o1 => ?_
  have hk : ∀ (k : Nat) (x : Nat × va_E), W1[k]? = some x → H1[x.1]? = H[x.1]? := fun k x hx => o1 x.1 ((hP k x hx).lt)
  refine kk H.size H1 (hP.kept hk) (fun k x hx => ?_) (hD.push hP rfl (hA _ hS.1)) ⟨Nat.le_trans hS.1 (by omega), fun x h1 h2 => (o1 x (Nat.lt_of_lt_of_le h1 hS.1)).trans (hS.2.1 x h1 h2), hS.2.2⟩
  have hz : k < 1 := (List.getElem?_eq_some_iff.mp hx).1
  rw [show k = 0 by omega] at hx
  cases hx
  exact ⟨_, hc, (u_born tyX12 hts hr_tX12 hKn hkC e1 tyX12_ok).to hfs⟩
theorem hq_ini {b0 : Nat} (hx : p.tables.exec = Jvm.exec) (hb : c.code = cL_law) (hml : c.maxLocals = 9) (hown : s.vm.findClass RL = some m.cls) (hts : ∀ w ∈ lw_tbl, w.before args s = true) (hK2 : va_K D2 hr_cl [] s) (hP : va_P D1 hh_cl W1 H) (hP2 : va_P D2 hr_cl [(b0, .inr (2, [.int 0, .null, .int 0, .int 0]))] H) (hD : va_D A (W1 ++ [(b0, .inr (2, [.int 0, .null, .int 0, .int 0]))])) (hS : va_S A s.heap H locs) (hA : ∀ q, s.heap.size ≤ q → A q) (hN : hr_N z A s s.heap) (hR : 6 ≤ R.frames ∧ 200 ≤ R.locals) (hf : cells + 5 ≤ R.cells ∧ slots + 17 ≤ R.slots) (hsz : ls.size = 9) (hst : (rest.map fun v => v.category).sum ≤ 8)
    (kk : ∀ (a : Nat → Nat) (H1 : Heap) (locs1 : List Loc), a 0 = b0 → va_P D1 hh_cl W1 H1 → va_P D2 hr_cl (hr_Y a z 0 0) H1 → va_D A (W1 ++ hr_Y a z 0 0) → va_S A s.heap H1 locs1 → W p l e R s m args below meth c H1 locs1 (cells + 5) (slots + 17) Q (F0 m 15 ls rest)) : W p l e R s m args below meth c H locs cells slots Q (F0 m 12 ls (.ref b0 :: rest)) := by
  have hp : hr_H D2 A s.heap ([(b0, .inr (2, [.int 0, .null, .int 0, .int 0]))] ++ []) H locs := ⟨hP2, hr_Dr hD, hS⟩
  have hF := hr_free hp hA
  have gg : GoodIn lw_tbl (hr_wm yX12_init cX12_init 1 none) := fun w hw => by
    rcases List.mem_cons.mp hw with rfl | hw
    · exact ⟨hr_tbl _ hw_135, (hr_good _ hw_135).2⟩
    · exact ⟨hr_tbl _ hw, (hr_good _ hw).2⟩
  refine va_callv (va_runI (As := []) (rest := rest) ⟨hx, hb, hml, hown, hts⟩ (hr_X12_init l D2 z b0 H.size) (cwI 0 hts gg rfl rfl rfl (hts _ (hq_tbl _ hq_146)) (hts _ (hq_tbl _ hq_2)) (hts _ (hq_tbl _ hq_3)) rfl (by decide +kernel) ⟨hR.1, Nat.le_trans (Nat.le_of_ble_eq_true rfl) hR.2⟩) ⟨hr_blind, fun U hU hW => ⟨rfl, congrArg Array.size hU, by rw [hU]; exact hP2, va_K.moved hW.alike hK2, (hr_Dr hD).weaken (fun _ _ _ _ => trivial), hr_sub hp hA hN hU hW⟩⟩ rfl rfl hsz rfl (lv_room hst) dL_law_12 hf) hS (fun q _ h => hF q h) hF (fun u t H1 locs1 ht hvm hw hB hz1 hk1 hS1 => ?_)
  obtain ⟨hP3, hD3⟩ := hB
  rw [ht] at hP3
  have hx1 : ∀ (k : Nat) (q : Nat × va_E), W1[k]? = some q → q.1 < H.size ∧ ¬ va_A [(b0, .inr (2, [.int 0, .null, .int 0, .int 0]))] H.size q.1 := fun k q hk => by
    have hlt := (hP k q hk).lt
    refine ⟨hlt, fun h => ?_⟩
    rcases h with ⟨k2, e2, h2⟩ | h2
    · exact hr_Dx hD hk h2 rfl
    · omega
  refine kk u H1 locs1 hw (hP.kept (fun k q hk => hk1 q.1 (hx1 k q hk).1 (hx1 k q hk).2)) hP3 (va_D.app (hr_Dl hD) (hD3.weaken (fun k q _ h => hF _ h)) (fun i j p q hi hj e => ?_)) hS1
  have h := hD3.2 j q hj
  rw [← e] at h
  exact (hx1 i p hi).2 h
theorem hq_newl (hx : p.tables.exec = Jvm.exec) (hb : c.code = cL_law) (hts : ∀ w ∈ lw_tbl, w.before args s = true) (hK1 : va_K D1 hh_cl [] s) (hK2 : va_K D2 hr_cl [] s) (hP : va_P D1 hh_cl W1 H) (hP2 : va_P D2 hr_cl Y H) (hD : va_D A (W1 ++ Y)) (hS : va_S A s.heap H locs) (hA : ∀ q, s.heap.size ≤ q → A q) (hcells : cells + 1 ≤ R.cells) (hslots : slots + 1 ≤ R.slots)
    (kk : ∀ (q : Nat) (cA : ClassId) (H1 : Heap), va_K D1 hh_cl [(cA, .long)] s → va_K D2 hr_cl [(cA, .long)] s → va_P D1 hh_cl W1 H1 → va_P D2 hr_cl (Y ++ hq_R q cA (fun _ => 0)) H1 → va_D A (W1 ++ (Y ++ hq_R q cA (fun _ => 0))) → va_S A s.heap H1 locs → W p l e R s m args below meth c H1 locs (cells + 1) (slots + 1) Q (F0 m 19 ls (.ref q :: rest))) : W p l e R s m args below meth c H locs cells slots Q (F0 m 17 ls (.int 1 :: rest)) := by
  refine va_newaK hx hb (atype := .long) (hts _ (hq_tbl _ hq_150)) rfl dL_law_17 rfl (by decide) (show (1 : Int32).toNatClampNeg = 1 from rfl) (by decide) hcells hslots rfl fun H1 cA e1 z1 o1 hAr hNm => ?_
  have ty : ∀ (D : va_G) (cl : List vw_C), va_K D cl [] s → va_K D cl [(cA, .long)] s := fun D cl h => ⟨h.1, fun k x hx => by
    have hz : k < 1 := (List.getElem?_eq_some_iff.mp hx).1
    rw [show k = 0 by omega] at hx
    cases hx
    exact ⟨hAr, hNm⟩⟩
  have hlt1 : ∀ (k : Nat) (x : Nat × va_E), W1[k]? = some x → x.1 < H.size := fun k x hx => (hP k x hx).lt
  have hlt2 : ∀ (k : Nat) (x : Nat × va_E), Y[k]? = some x → x.1 < H.size := fun k x hx => (hP2 k x hx).lt
  have hD3 : va_D A ((W1 ++ Y) ++ hq_R H.size cA (fun _ => 0)) := va_D.app hD ⟨fun i j p q hi hj e => by
    have h1 : i < 1 := (List.getElem?_eq_some_iff.mp hi).1
    have h2 : j < 1 := (List.getElem?_eq_some_iff.mp hj).1
    omega, fun k q hk => by
    have h1 : k < 1 := (List.getElem?_eq_some_iff.mp hk).1
    rw [show k = 0 by omega] at hk
    cases hk
    exact hA _ hS.1⟩ (fun i j p q hi hj e => by
    have h1 : j < 1 := (List.getElem?_eq_some_iff.mp hj).1
    rw [show j = 0 by omega] at hj
    cases hj
    have h2 : p.1 < H.size := by
      rcases List.mem_append.mp (List.mem_of_getElem? hi) with h | h
      · obtain ⟨i9, hi9⟩ := List.getElem?_of_mem h
        exact hlt1 i9 p hi9
      · obtain ⟨i9, hi9⟩ := List.getElem?_of_mem h
        exact hlt2 i9 p hi9
    have h3 : p.1 = H.size := e
    omega)
  rw [List.append_assoc] at hD3
  refine kk H.size cA H1 (ty D1 hh_cl hK1) (ty D2 hr_cl hK2) (hP.kept (fun k x hx => o1 x.1 (hlt1 k x hx))) (va_P.app (hP2.kept (fun k x hx => o1 x.1 (hlt2 k x hx))) (fun k x hx => ?_)) hD3 ⟨Nat.le_trans hS.1 (by omega), fun x h1 h2 => (o1 x (Nat.lt_of_lt_of_le h1 hS.1)).trans (hS.2.1 x h1 h2), hS.2.2⟩
  have hz : k < 1 := (List.getElem?_eq_some_iff.mp hx).1
  rw [show k = 0 by omega] at hx
  cases hx
  show H1[H.size]? = some (arrV cA 1 (fun _ => .long 0))
  exact e1
set_option maxHeartbeats 4000000 in
set_option maxRecDepth 100000 in
theorem hq_body (C0 : hq_C p s m args meth c D1 D2 K z s1 s2 b L xs cJ A) (hfl : l.stackTraces = false) (hp : hq_W D1 D2 K ad a z o cJ A s.heap H locs) (hL : L ≤ 7) (hl : lv_has ls 9 [(4, .int 0), (3, .ref o), (2, .ref (a 0)), (1, .ref (ad 0)), (0, .ref b)])
    (kk : ∀ (H : Heap) (locs : List Loc) (ls : Array Slot), va_S A s.heap H locs → W p l e room_1 s m args below meth c H locs 1000 5000 Q (F0 m 1643 ls [.int 1])) : W p l e room_1 s m args below meth c H locs 197 2214 Q (F0 m 23 ls []) := by
  obtain ⟨hx, hb, hml, hown, hts, hK1, hJ1, hK2, hJ2, hA, hN, hV, hZ, hX, hbl, hbA⟩ := id C0
  have hS := hp.2.2.2
  refine lv_iload hx hb dL_law_23 (lv_at hl 0 rfl) ?_
  refine lv_aload_n hx hb dL_law_25 rfl (lv_at hl 4 rfl) ?_
  refine va_slen hx hb hX hbl hbA hS dL_law_26 ?_
  refine lv_bipush (v := 7) hx hb dL_law_27 (by decide) ?_
  refine lv_isub hx hb dL_law_29 ?_
  refine lv_icmp_gt (tgt := 1642) hx hb dL_law_30 (by decide) (fun _ => ?_) (fun h7 => ?_)
  · refine W.widen (k := 1000) (n := 5000) (Nat.le_of_ble_eq_true rfl) (Nat.le_of_ble_eq_true rfl) ?_
    refine lv_iconst (v := 1) hx hb dL_law_1642 (by decide) ?_
    exact kk _ _ _ hS
  have h7 : L = 7 := hq_l7 L (by omega) h7
  have hE : ∀ (H : Heap) (locs : List Loc) (ls : Array Slot), va_S A s.heap H locs → lv_has ls 9 [(4, .int 0), (0, .ref b)] → W p l e room_1 s m args below meth c H locs 1000 5000 Q (F0 m 1636 ls []) := by
    intro H locs ls hS hl
    refine lv_iinc (v := 7) (lv' := [(4, .int 7), (0, .ref b)]) hx hb dL_law_1636 hl (k := 0) rfl (by decide) (by decide) rfl (fun ls hl => ?_)
    refine lv_goto (tgt := 23) hx hb dL_law_1639 (by decide) ?_
    refine lv_iload hx hb dL_law_23 (lv_at hl 0 rfl) ?_
    refine lv_aload_n hx hb dL_law_25 rfl (lv_at hl 1 rfl) ?_
    refine va_slen hx hb hX hbl hbA hS dL_law_26 ?_
    refine lv_bipush (v := 7) hx hb dL_law_27 (by decide) ?_
    refine lv_isub hx hb dL_law_29 ?_
    refine lv_icmp_gt (tgt := 1642) hx hb dL_law_30 (by decide) (fun _ => ?_) (fun h => absurd (by rw [h7]; decide) h)
    refine lv_iconst (v := 1) hx hb dL_law_1642 (by decide) ?_
    exact kk _ _ _ hS
  refine lv_aload_n hx hb dL_law_33 rfl (lv_at hl 4 rfl) ?_
  refine lv_iload hx hb dL_law_34 (lv_at hl 0 rfl) ?_
  refine hq_arg (k := 0) C0 hp.2.2.2 (by decide) (by omega) dL_law_36 ?_
  refine lv_bipush (v := 31) hx hb dL_law_37 (by decide) ?_
  refine lv_iand hx hb dL_law_39 ?_
  refine lv_topi (fun x hx9 => ?_)
  have hv : (x.toInt < 0 ∨ 22 < x.toInt) ∨ x.toInt = 0 ∨ x.toInt = 1 ∨ x.toInt = 2 ∨ x.toInt = 3 ∨ x.toInt = 4 ∨ x.toInt = 5 ∨ x.toInt = 6 ∨ x.toInt = 7 ∨ x.toInt = 8 ∨ x.toInt = 9 ∨ x.toInt = 10 ∨ x.toInt = 11 ∨ x.toInt = 12 ∨ x.toInt = 13 ∨ x.toInt = 14 ∨ x.toInt = 15 ∨ x.toInt = 16 ∨ x.toInt = 17 ∨ x.toInt = 18 ∨ x.toInt = 19 ∨ x.toInt = 20 ∨ x.toInt = 21 ∨ x.toInt = 22 := by omega
  rcases hv with hv | hv | hv | hv | hv | hv | hv | hv | hv | hv | hv | hv | hv | hv | hv | hv | hv | hv | hv | hv | hv | hv | hv | hv
  · refine lv_tableOut (tgt := 1636) hx hb dL_law_40 hv (by decide) ?_
    refine W.widen (k := 1000) (n := 5000) (Nat.le_of_ble_eq_true rfl) (Nat.le_of_ble_eq_true rfl) ?_
    exact hE _ _ _ hS (lv_sub hl [0, 4] rfl)
  · refine lv_tableIn (off := 108) (tgt := 148) hx hb dL_law_40 (by rw [hv]; decide) (by rw [hv]; decide) (by rw [hv]; rfl) (by decide) ?_
    exact hq_case_mast C0 hfl hp h7 (lv_sub hl [0, 1, 2, 3, 4] rfl) hE
  · refine lv_tableIn (off := 226) (tgt := 266) hx hb dL_law_40 (by rw [hv]; decide) (by rw [hv]; decide) (by rw [hv]; rfl) (by decide) ?_
    exact hq_case_handset C0 hfl hp h7 (lv_sub hl [0, 1, 2, 3, 4] rfl) hE
  · refine lv_tableIn (off := 318) (tgt := 358) hx hb dL_law_40 (by rw [hv]; decide) (by rw [hv]; decide) (by rw [hv]; rfl) (by decide) ?_
    exact hq_case_speed C0 hfl hp h7 (lv_sub hl [0, 1, 2, 3, 4] rfl) hE
  · refine lv_tableIn (off := 386) (tgt := 426) hx hb dL_law_40 (by rw [hv]; decide) (by rw [hv]; decide) (by rw [hv]; rfl) (by decide) ?_
    exact hq_case_top C0 hfl hp h7 (lv_sub hl [0, 1, 2, 3, 4] rfl) hE
  · refine lv_tableIn (off := 454) (tgt := 494) hx hb dL_law_40 (by rw [hv]; decide) (by rw [hv]; decide) (by rw [hv]; rfl) (by decide) ?_
    exact hq_case_turn C0 hfl hp h7 (lv_sub hl [0, 1, 2, 3, 4] rfl) hE
  · refine lv_tableIn (off := 545) (tgt := 585) hx hb dL_law_40 (by rw [hv]; decide) (by rw [hv]; decide) (by rw [hv]; rfl) (by decide) ?_
    exact hq_case_wake C0 hfl hp h7 (lv_sub hl [0, 1, 2, 3, 4] rfl) hE
  · refine lv_tableIn (off := 636) (tgt := 676) hx hb dL_law_40 (by rw [hv]; decide) (by rw [hv]; decide) (by rw [hv]; rfl) (by decide) ?_
    exact hq_case_call C0 hfl hp h7 (lv_sub hl [0, 1, 2, 3, 4] rfl) hE
  · refine lv_tableIn (off := 704) (tgt := 744) hx hb dL_law_40 (by rw [hv]; decide) (by rw [hv]; decide) (by rw [hv]; rfl) (by decide) ?_
    exact hq_case_emergency C0 hfl hp h7 (lv_sub hl [0, 1, 2, 3, 4] rfl) hE
  · refine lv_tableIn (off := 760) (tgt := 800) hx hb dL_law_40 (by rw [hv]; decide) (by rw [hv]; decide) (by rw [hv]; rfl) (by decide) ?_
    exact hq_case_hang C0 hfl hp h7 (lv_sub hl [0, 1, 2, 3, 4] rfl) hE
  · refine lv_tableIn (off := 816) (tgt := 856) hx hb dL_law_40 (by rw [hv]; decide) (by rw [hv]; decide) (by rw [hv]; rfl) (by decide) ?_
    exact hq_case_text C0 hfl hp h7 (lv_sub hl [0, 1, 2, 3, 4] rfl) hE
  · refine lv_tableIn (off := 884) (tgt := 924) hx hb dL_law_40 (by rw [hv]; decide) (by rw [hv]; decide) (by rw [hv]; rfl) (by decide) ?_
    exact hq_case_forget C0 hfl hp h7 (lv_sub hl [0, 1, 2, 3, 4] rfl) hE
  · refine lv_tableIn (off := 897) (tgt := 937) hx hb dL_law_40 (by rw [hv]; decide) (by rw [hv]; decide) (by rw [hv]; rfl) (by decide) ?_
    exact hq_case_pass C0 hfl hp h7 (lv_sub hl [0, 1, 2, 3, 4] rfl) hE
  · refine lv_tableIn (off := 953) (tgt := 993) hx hb dL_law_40 (by rw [hv]; decide) (by rw [hv]; decide) (by rw [hv]; rfl) (by decide) ?_
    exact hq_case_quality C0 hfl hp h7 (lv_sub hl [0, 1, 2, 3, 4] rfl) hE
  · refine lv_tableIn (off := 1021) (tgt := 1061) hx hb dL_law_40 (by rw [hv]; decide) (by rw [hv]; decide) (by rw [hv]; rfl) (by decide) ?_
    exact hq_case_best C0 hfl hp h7 (lv_sub hl [0, 1, 2, 3, 4] rfl) hE
  · refine lv_tableIn (off := 1077) (tgt := 1117) hx hb dL_law_40 (by rw [hv]; decide) (by rw [hv]; decide) (by rw [hv]; rfl) (by decide) ?_
    exact hq_case_ofMast C0 hfl hp h7 (lv_sub hl [0, 1, 2, 3, 4] rfl) hE
  · refine lv_tableIn (off := 1145) (tgt := 1185) hx hb dL_law_40 (by rw [hv]; decide) (by rw [hv]; decide) (by rw [hv]; rfl) (by decide) ?_
    exact hq_case_ofHandset C0 hfl hp h7 (lv_sub hl [0, 1, 2, 3, 4] rfl) hE
  · refine lv_tableIn (off := 1213) (tgt := 1253) hx hb dL_law_40 (by rw [hv]; decide) (by rw [hv]; decide) (by rw [hv]; rfl) (by decide) ?_
    exact hq_case_ofCall C0 hfl hp h7 (lv_sub hl [0, 1, 2, 3, 4] rfl) hE
  · refine lv_tableIn (off := 1281) (tgt := 1321) hx hb dL_law_40 (by rw [hv]; decide) (by rw [hv]; decide) (by rw [hv]; rfl) (by decide) ?_
    exact hq_case_many C0 hfl hp h7 (lv_sub hl [0, 1, 2, 3, 4] rfl) hE
  · refine lv_tableIn (off := 1337) (tgt := 1377) hx hb dL_law_40 (by rw [hv]; decide) (by rw [hv]; decide) (by rw [hv]; rfl) (by decide) ?_
    exact hq_case_meanSeconds C0 hfl hp h7 (lv_sub hl [0, 1, 2, 3, 4] rfl) hE
  · refine lv_tableIn (off := 1378) (tgt := 1418) hx hb dL_law_40 (by rw [hv]; decide) (by rw [hv]; decide) (by rw [hv]; rfl) (by decide) ?_
    exact hq_case_endsIn C0 hfl hp h7 (lv_sub hl [0, 1, 2, 3, 4] rfl) hE
  · refine lv_tableIn (off := 1446) (tgt := 1486) hx hb dL_law_40 (by rw [hv]; decide) (by rw [hv]; decide) (by rw [hv]; rfl) (by decide) ?_
    exact hq_case_wouldBeOn C0 hfl hp h7 (lv_sub hl [0, 1, 2, 3, 4] rfl) hE
  · refine lv_tableIn (off := 1514) (tgt := 1554) hx hb dL_law_40 (by rw [hv]; decide) (by rw [hv]; decide) (by rw [hv]; rfl) (by decide) ?_
    exact hq_case_bestPlace C0 hfl hp h7 (lv_sub hl [0, 1, 2, 3, 4] rfl) hE
  · refine lv_tableIn (off := 1582) (tgt := 1622) hx hb dL_law_40 (by rw [hv]; decide) (by rw [hv]; decide) (by rw [hv]; rfl) (by decide) ?_
    exact hq_case_digest C0 hfl hp h7 (lv_sub hl [0, 1, 2, 3, 4] rfl) hE
end HQ3
