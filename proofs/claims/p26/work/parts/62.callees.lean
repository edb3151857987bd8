/-! the words of the law's calls -/
theorem hl_gV {index nL : Nat} {y : MethodName} {bytes : ByteArray} {ret : Option FieldType} (h1 : Cond.methodLink RL index y ∈ lw_tbl) (h2 : Cond.instanceMethod y ∈ lw_tbl) (h3 : Cond.selects RX7 y y ∈ lw_tbl) (h4 : Cond.initialized RX7 ∈ lw_tbl) (h5 : Cond.code y bytes nL ret ∈ hh_wa) : GoodIn lw_tbl (wsV RL index RX7 y (hh_wm y bytes nL ret)) := by
  intro w hw
  unfold wsV at hw
  rcases List.mem_append.mp hw with hw | hw
  · simp only [List.mem_cons, List.not_mem_nil, or_false] at hw
    rcases hw with rfl | rfl | rfl | rfl
    · exact ⟨h1, good_of_word rfl⟩
    · exact ⟨h2, good_of_word rfl⟩
    · exact ⟨h3, good_of_word rfl⟩
    · exact ⟨h4, good_of_word rfl⟩
  · rcases List.mem_cons.mp hw with rfl | hw
    · exact ⟨hh_tbl _ h5, (hh_good _ h5).2⟩
    · exact ⟨hh_tbl _ hw, (hh_good _ hw).2⟩
theorem hl_i7 : Cond.initialized RX7 ∈ lw_tbl := by decide +kernel
theorem hl_g_mast : GoodIn lw_tbl (wsV RL 22 RX7 yX7_mast (hh_wm yX7_mast cX7_mast 8 (some .int))) := hl_gV (by decide +kernel) (by decide +kernel) (by decide +kernel) hl_i7 hm_310
theorem hl_g_handset : GoodIn lw_tbl (wsV RL 26 RX7 yX7_handset (hh_wm yX7_handset cX7_handset 6 (some .int))) := hl_gV (by decide +kernel) (by decide +kernel) (by decide +kernel) hl_i7 hm_327
theorem hl_g_pass : GoodIn lw_tbl (wsV RL 30 RX7 yX7_pass (hh_wm yX7_pass cX7_pass 4 (some .int))) := hl_gV (by decide +kernel) (by decide +kernel) (by decide +kernel) hl_i7 hm_354
theorem hl_g_many : GoodIn lw_tbl (wsV RL 34 RX7 yX7_many (hh_wm yX7_many cX7_many 2 (some .int))) := hl_gV (by decide +kernel) (by decide +kernel) (by decide +kernel) hl_i7 hm_379
theorem hl_g_call : GoodIn lw_tbl (wsV RL 37 RX7 yX7_call (hh_wm yX7_call cX7_call 3 (some .int))) := hl_gV (by decide +kernel) (by decide +kernel) (by decide +kernel) hl_i7 hm_339
theorem hl_g_text : GoodIn lw_tbl (wsV RL 40 RX7 yX7_text (hh_wm yX7_text cX7_text 3 (some .int))) := hl_gV (by decide +kernel) (by decide +kernel) (by decide +kernel) hl_i7 hm_351
theorem hl_g_speed : GoodIn lw_tbl (wsV RL 43 RX7 yX7_speed (hh_wm yX7_speed cX7_speed 4 (some .int))) := hl_gV (by decide +kernel) (by decide +kernel) (by decide +kernel) hl_i7 hm_335
theorem hl_g_ofHandset : GoodIn lw_tbl (wsV RL 46 RX7 yX7_ofHandset (hh_wm yX7_ofHandset cX7_ofHandset 3 (some .int))) := hl_gV (by decide +kernel) (by decide +kernel) (by decide +kernel) hl_i7 hm_374
theorem hl_g_ofCall : GoodIn lw_tbl (wsV RL 49 RX7 yX7_ofCall (hh_wm yX7_ofCall cX7_ofCall 3 (some .int))) := hl_gV (by decide +kernel) (by decide +kernel) (by decide +kernel) hl_i7 hm_376
theorem hl_g_endsIn : GoodIn lw_tbl (wsV RL 52 RX7 yX7_endsIn (hh_wm yX7_endsIn cX7_endsIn 4 (some .int))) := hl_gV (by decide +kernel) (by decide +kernel) (by decide +kernel) hl_i7 hm_394
theorem hl_g_digest : GoodIn lw_tbl (wsV RL 55 RX7 yX7_digest (hh_wm yX7_digest cX7_digest 4 (some .long))) := hl_gV (by decide +kernel) (by decide +kernel) (by decide +kernel) hl_i7 hm_408
theorem hl_g_wouldBeOn : GoodIn lw_tbl (wsV RL 59 RX7 yX7_wouldBeOn (hh_wm yX7_wouldBeOn cX7_wouldBeOn 4 (some .int))) := hl_gV (by decide +kernel) (by decide +kernel) (by decide +kernel) hl_i7 hm_399
theorem hl_g_bestPlace : GoodIn lw_tbl (wsV RL 62 RX7 yX7_bestPlace (hh_wm yX7_bestPlace cX7_bestPlace 3 (some .int))) := hl_gV (by decide +kernel) (by decide +kernel) (by decide +kernel) hl_i7 hm_401
def wsL_below : List Cond := .code yL_below cL_below 2 (some .int) :: ([.constant RL 7 (2147483647)])
def wsL_cell : List Cond := .code yL_cell cL_cell 2 (some .int) :: ([.constant RL 8 (790386105)])
theorem hl_g_below : GoodIn lw_tbl (wsS RL 18 yL_below wsL_below) := goodIn_p _ [739] (by decide +kernel) (by decide +kernel)
theorem hl_g_cell : GoodIn lw_tbl (wsS RL 12 yL_cell wsL_cell) := goodIn_p _ [743] (by decide +kernel) (by decide +kernel)
set_option maxRecDepth 100000 in
/-- below(v, n): from 0 to less than n -/
theorem hk_below (l : Launch) (x : Int32) {N : Nat} (h0 : 0 < N) (hN : N < 2 ^ 31) (sz : Nat) : Met l yL_below wsL_below { frames := 0, cells := 0, slots := 0, locals := 0 } (va_Pc [.int x, .int (nI N)] (fun U => U.heap.size = sz)) (va_Qi (fun (r : Int32) (_ : Unit) => ∃ j, j < N ∧ r = nI j) (fun _ _ => True) (fun q => sz ≤ q)) 0 0 (fun q => sz ≤ q) := by
  refine Met.ofW (cc := cL_below) (maxL := 2) (ret := (some .int)) (by decide) rfl ?_
  intro p e s m args below meth c s₁ B hml hv
  obtain ⟨rfl, hsz⟩ := hv
  have hx := B.exec
  have hb := B.bytes
  have hr := B.returns
  have hts := atoms_spec (ws := wsL_below) B.pre
  have hown : s.vm.findClass RL = some m.cls := findClass_of_methodNamed B.named
  have hlk := B.notSynchronized
  subst hsz
  have hS : va_S (fun q => s.heap.size ≤ q) s.heap s.heap [] := va_S.rf
  have hl := lv_entry ([.int x, .int (nI N)]) (n := 2) (Nat.le_of_ble_eq_true rfl)
  rw [lg_entry_eq]
  generalize (lg_sl ([.int x, .int (nI N)]) ++ List.replicate (2 - (lg_sl ([.int x, .int (nI N)])).length) Slot.unset).toArray = ls at hl ⊢
  have hl : lv_has ls 2 [(0, .int x), (1, .int (nI N))] := hl
  refine lv_iload_n hx hb dL_below_0 rfl (lv_at hl 0 rfl) ?_
  refine lv_ldc (v := 2147483647) hx hb hown (hts (.constant RL 7 (2147483647)) (by decide +kernel)) dL_below_1 ?_
  refine lv_iand hx hb dL_below_3 ?_
  obtain ⟨j, hj, ej⟩ := pk_andE x (m := 2147483647) 31 (by decide)
  rw [ej]
  refine lv_iload_n hx hb dL_below_4 rfl (lv_at hl 1 rfl) ?_
  refine lv_irem hx hb dL_below_5 (nI_ne0 h0 hN) ?_
  exact W.iret hx hb hr (fun t ht hW => ⟨⟨_, (), rfl, ⟨j % N, Nat.mod_lt _ h0, pk_rem hj h0 hN⟩, trivial⟩, hS.F ht⟩) hS.2.2 dL_below_6 hlk
set_option maxRecDepth 100000 in
/-- cell(s, k): some number -/
theorem hk_cell (l : Launch) {b L k : Nat} {xs : Nat → Int32} (hL : L ≤ 260) (hk : k < 2 ^ 31) (sz : Nat) : Met l yL_cell wsL_cell { frames := 0, cells := 0, slots := 0, locals := 0 } (va_Pc [.ref b, .int (nI k)] (fun U => U.heap.size = sz ∧ va_X b L xs U U.heap ∧ b < sz)) (va_Qi (fun (_ : Int32) (_ : Unit) => True) (fun _ _ => True) (fun q => sz ≤ q)) 0 0 (fun q => sz ≤ q) := by
  refine Met.ofW (cc := cL_cell) (maxL := 2) (ret := (some .int)) (by decide) rfl ?_
  intro p e s m args below meth c s₁ B hml hv
  obtain ⟨rfl, hsz, hX, hbl⟩ := hv
  have hx := B.exec
  have hb := B.bytes
  have hr := B.returns
  have hts := atoms_spec (ws := wsL_cell) B.pre
  have hown : s.vm.findClass RL = some m.cls := findClass_of_methodNamed B.named
  have hlk := B.notSynchronized
  subst hsz
  have hbA : ¬ (fun q => s.heap.size ≤ q) b := Nat.not_le.mpr hbl
  have hS : va_S (fun q => s.heap.size ≤ q) s.heap s.heap [] := va_S.rf
  have hl := lv_entry ([.ref b, .int (nI k)]) (n := 2) (Nat.le_of_ble_eq_true rfl)
  rw [lg_entry_eq]
  generalize (lg_sl ([.ref b, .int (nI k)]) ++ List.replicate (2 - (lg_sl ([.ref b, .int (nI k)])).length) Slot.unset).toArray = ls at hl ⊢
  have hl : lv_has ls 2 [(0, .ref b), (1, .int (nI k))] := hl
  refine lv_iload_n hx hb dL_cell_0 rfl (lv_at hl 1 rfl) ?_
  refine lv_aload_n hx hb dL_cell_1 rfl (lv_at hl 0 rfl) ?_
  refine va_slen hx hb hX hbl hbA hS dL_cell_2 ?_
  refine lv_icmp_ge (tgt := 12) hx hb dL_cell_3 (by decide) (fun c_3 => ?_) (fun c_3 => ?_)
  · refine lv_ldc (v := 790386105) hx hb hown (hts (.constant RL 8 (790386105)) (by decide +kernel)) dL_cell_12 ?_
    refine lv_iload_n hx hb dL_cell_14 rfl (lv_at hl 1 rfl) ?_
    refine lv_iconst (v := 3) hx hb dL_cell_15 (by decide) ?_
    refine lv_iadd hx hb dL_cell_16 ?_
    refine lv_imul hx hb dL_cell_17 ?_
    exact W.iret hx hb hr (fun t ht hW => ⟨⟨_, (), rfl, trivial, trivial⟩, hS.F ht⟩) hS.2.2 dL_cell_18 hlk
  · have hlt : k < L := by
      rcases Nat.lt_or_ge k L with q | q
      · exact q
      · exact absurd (nI_le q hk) c_3
    refine lv_aload_n hx hb dL_cell_6 rfl (lv_at hl 0 rfl) ?_
    refine lv_iload_n hx hb dL_cell_7 rfl (lv_at hl 1 rfl) ?_
    refine va_sld hx hb hX hbl hbA hS (vp_in_nI hlt (by omega)) dL_cell_8 ?_
    refine lv_goto (tgt := 18) hx hb dL_cell_9 (by decide) ?_
    exact W.iret hx hb hr (fun t ht hW => ⟨⟨_, (), rfl, trivial, trivial⟩, hS.F ht⟩) hS.2.2 dL_cell_18 hlk
section HLS
variable {p : Program} {l : Launch} {e : Env} {s : State} {m : MethodId} {args : Array Value} {below : List Frame} {meth : Method} {c : Code} {H : Heap} {locs : List Loc} {cells slots : Nat} {Q : State → Prop}
variable {pc b L : Nat} {xs : Nat → Int32} {ls : Array Slot} {rest : List Value} {D : va_G} {K : Nat → ClassId} {ad : Nat → Nat} {A : Nat → Prop} {v : hh_M} {X : va_W}
theorem hl_same (hp : hl_H D K ad A s.heap v X H locs) {H1 : Heap} {locs1 : List Loc} (hk : ∀ q : Nat, q < H.size → H1[q]? = H[q]?) (hS : va_S A s.heap H1 locs1) : hl_H D K ad A s.heap v X H1 locs1 := ⟨hp.1.kept (fun k q h => hk q.1 (hp.1 k q h).lt), hp.2.1, hS⟩
theorem hl_cB (C0 : hl_C p s m args meth c D K A b L xs) (hp : hl_H D K ad A s.heap v X H locs) {x : Int32} (N : Nat) {y : Int32} (hy : y = nI N) (h0 : 0 < N) (hN : N < 2 ^ 31) (hf : cells ≤ room_1.cells ∧ slots ≤ room_1.slots) (hsz : ls.size = 9) (hst : (rest.map fun v => v.category).sum ≤ 8) (hdg : decode code pc = .ok (.invokestatic 18, 3))
    (kk : ∀ (j : Nat) (H1 : Heap) (locs1 : List Loc), j < N → hl_H D K ad A s.heap v X H1 locs1 → W p l e room_1 s m args below meth c H1 locs1 cells slots Q (F0 m (pc + 3) ls (.int (nI j) :: rest))) : W p l e room_1 s m args below meth c H locs cells slots Q (F0 m pc ls (.int y :: .int x :: rest)) := by
  subst hy
  obtain ⟨hx, hb, hml, hown, hts, hK, hA, -, -, -⟩ := C0
  refine va_calli (A1 := fun q => H.size ≤ q) (va_runS (As := [.int x, .int (nI N)]) (rest := rest) ⟨hx, hb, hml, hown, hts⟩ (hk_below l x h0 hN H.size) (cwS 2 hts hl_g_below rfl rfl rfl (by decide +kernel) ⟨Nat.le_of_ble_eq_true rfl, Nat.le_of_ble_eq_true rfl⟩) ⟨fun a U g mk q => ⟨q.1, q.2⟩, fun U hU hW => ⟨rfl, congrArg Array.size hU⟩⟩ rfl rfl hsz rfl (lv_room hst) hdg ⟨hf.1, hf.2⟩) hp.2.2 (fun q h1 h2 => absurd h2 (Nat.not_le.mpr h1)) (fun q h => hA q (Nat.le_trans hp.2.2.1 h)) (fun q u t H1 locs1 ht hvm hw hB hz1 hk1 hS1 => ?_)
  obtain ⟨j, hj, rfl⟩ := hw
  exact kk j H1 locs1 hj (hl_same hp (fun q h => hk1 q h (Nat.not_le.mpr h)) hS1)
theorem hl_cC (C0 : hl_C p s m args meth c D K A b L xs) (hp : hl_H D K ad A s.heap v X H locs) (k : Nat) (hk : k < 2 ^ 31) (hL : L ≤ 260) (hf : cells ≤ room_1.cells ∧ slots ≤ room_1.slots) (hsz : ls.size = 9) (hst : (rest.map fun v => v.category).sum ≤ 8) {y : Int32} (hy : y = nI k) (hdg : decode code pc = .ok (.invokestatic 12, 3))
    (kk : ∀ (x : Int32) (H1 : Heap) (locs1 : List Loc), hl_H D K ad A s.heap v X H1 locs1 → W p l e room_1 s m args below meth c H1 locs1 cells slots Q (F0 m (pc + 3) ls (.int x :: rest))) : W p l e room_1 s m args below meth c H locs cells slots Q (F0 m pc ls (.int y :: .ref b :: rest)) := by
  subst hy
  obtain ⟨hx, hb, hml, hown, hts, hK, hA, hX, hbl, hbA⟩ := C0
  have hbH : b < H.size := Nat.lt_of_lt_of_le hbl hp.2.2.1
  have hXH : va_X b L xs s H := hX.kept (hp.2.2.2.1 b hbl hbA)
  refine va_calli (A1 := fun q => H.size ≤ q) (va_runS (As := [.ref b, .int (nI k)]) (rest := rest) ⟨hx, hb, hml, hown, hts⟩ (hk_cell l (xs := xs) hL hk H.size) (cwS 2 hts hl_g_cell rfl rfl rfl (by decide +kernel) ⟨Nat.le_of_ble_eq_true rfl, Nat.le_of_ble_eq_true rfl⟩) ⟨fun a U g mk q => ⟨q.1, q.2.1, va_X.moved (u := U) (U := U.calling g mk a) (Vm.Alike.refl U.vm) q.2.2.1, q.2.2.2⟩, fun U hU hW => ⟨rfl, by rw [hU], by rw [hU]; exact va_X.moved hW.alike hXH, hbH⟩⟩ rfl rfl hsz rfl (lv_room hst) hdg ⟨hf.1, hf.2⟩) hp.2.2 (fun q h1 h2 => absurd h2 (Nat.not_le.mpr h1)) (fun q h => hA q (Nat.le_trans hp.2.2.1 h)) (fun q u t H1 locs1 ht hvm hw hB hz1 hk1 hS1 => ?_)
  exact kk q H1 locs1 (hl_same hp (fun q h => hk1 q h (Nat.not_le.mpr h)) hS1)
end HLS
