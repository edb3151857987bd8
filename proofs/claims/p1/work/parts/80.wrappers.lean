/-! the law's own methods: a call of the class, and what it throws -/
abbrev hy_wm (y : MethodName) (cc : ByteArray) (nL : Nat) (hh : List (Nat × Nat × Nat × Nat)) : List Cond := Cond.codeWith y cc nL (some .int) hh :: hy_wl
theorem hy_gx {index nL : Nat} {y : MethodName} {bytes : ByteArray} {ret : Option FieldType} (h1 : Cond.methodLink RL index y ∈ hy_we) (h2 : Cond.instanceMethod y ∈ hy_wl) (h3 : Cond.selects RX7 y y ∈ hy_wl) (h5 : Cond.code y bytes nL ret ∈ hh_wa) : GoodIn hy_wl (wsV RL index RX7 y (hx_wm y bytes nL ret)) := by
  intro w hw
  unfold wsV at hw
  rcases List.mem_append.mp hw with hw | hw
  · simp only [List.mem_cons, List.not_mem_nil, or_false] at hw
    rcases hw with rfl | rfl | rfl | rfl
    · exact hy_good _ (List.mem_append_right _ h1)
    · exact hy_good _ h2
    · exact hy_good _ h3
    · exact hy_good _ (List.mem_append_left _ (hx_l hm_335))
  · rcases List.mem_cons.mp hw with rfl | hw
    · exact hy_good _ (List.mem_append_left _ (hx_l h5))
    · exact hy_good _ (List.mem_append_left _ hw)
theorem hy_gh {index nL : Nat} {y : MethodName} {bytes : ByteArray} {ret : Option FieldType} (h1 : Cond.methodLink RL index y ∈ hy_we) (h2 : Cond.instanceMethod y ∈ hy_wl) (h3 : Cond.selects RX7 y y ∈ hy_wl) (h5 : Cond.code y bytes nL ret ∈ hh_wa) : GoodIn hy_wl (wsV RL index RX7 y (hh_wm y bytes nL ret)) := by
  intro w hw
  unfold wsV at hw
  rcases List.mem_append.mp hw with hw | hw
  · simp only [List.mem_cons, List.not_mem_nil, or_false] at hw
    rcases hw with rfl | rfl | rfl | rfl
    · exact hy_good _ (List.mem_append_right _ h1)
    · exact hy_good _ h2
    · exact hy_good _ h3
    · exact hy_good _ (List.mem_append_left _ (hx_l hm_335))
  · rcases List.mem_cons.mp hw with rfl | hw
    · exact hy_good _ (List.mem_append_left _ (hx_l h5))
    · exact hy_good _ (List.mem_append_left _ (hx_l hw))
/-- it throws: the answer is 1 -/
def hy_K1 (l : Launch) (D : va_G) (K : Nat → ClassId) (ad : Nat → Nat) (s1 s2 : Nat) (y : MethodName) (ws : List Cond) (rm : Room) (As : List Value) : Prop := ∀ sz : Nat, Met l y ws rm (hx_Pc D K ad s1 s2 As hn_v0 sz) (va_Qi (fun (q : Int32) (_ : Unit) => q = 1) (fun _ _ => True) (va_A (hh_W K ad hn_v0) sz)) 1 6 (va_A (hh_W K ad hn_v0) sz)
/-- it doesn't: 0, and the answer in the row -/
def hy_W (K : Nat → ClassId) (ad : Nat → Nat) (v : hh_M) (o : Nat) (cJ : ClassId) (g : Nat → Int64) : va_W := hh_W K ad v ++ [(o, .inl (cJ, 1, .inr (.inl g)))]
def hy_P0 (D : va_G) (K : Nat → ClassId) (ad : Nat → Nat) (o : Nat) (cJ : ClassId) (As : List Value) (sz : Nat) : Array Value → State → Prop := va_Pc As (fun U => U.heap.size = sz ∧ va_P D hh_cl (hy_W K ad hn_v0 o cJ (fun _ => 0)) U.heap ∧ va_K D hh_cl (hh_ty K) U ∧ va_K D hh_cl [(cJ, .long)] U ∧ va_D (fun _ => True) (hy_W K ad hn_v0 o cJ (fun _ => 0)))
def hy_K0 (l : Launch) (D : va_G) (K : Nat → ClassId) (ad : Nat → Nat) (o : Nat) (cJ : ClassId) (y : MethodName) (ws : List Cond) (rm : Room) (As : List Value) (ans : Int64) : Prop := ∀ sz : Nat, Met l y ws rm (hy_P0 D K ad o cJ As sz) (va_Qi (fun (q : Int32) (_ : Unit) => q = 0) (fun _ t => va_P D hh_cl [(o, .inl (cJ, 1, .inr (.inl (fun _ => ans))))] t.heap) (va_A (hy_W K ad hn_v0 o cJ (fun _ => 0)) sz)) 0 0 (va_A (hy_W K ad hn_v0 o cJ (fun _ => 0)) sz)
theorem hy_blind {D : va_G} {K : Nat → ClassId} {ad : Nat → Nat} {o : Nat} {cJ : ClassId} {As : List Value} {sz : Nat} : FrameBlind (hy_P0 D K ad o cJ As sz) := by
  intro a U g mk q
  obtain ⟨q0, q1, qP, qK, qJ, qD⟩ := q
  exact ⟨q0, q1, qP, va_K.moved (u := U) (U := U.calling g mk a) (Vm.Alike.refl U.vm) qK, va_K.moved (u := U) (U := U.calling g mk a) (Vm.Alike.refl U.vm) qJ, qD⟩
section HYM
variable {l : Launch} {D : va_G} {K : Nat → ClassId} {ad : Nat → Nat} {s1 s2 : Nat} {y : MethodName} {cc : ByteArray} {nL : Nat} {hh : List (Nat × Nat × Nat × Nat)} {rm : Room} {As : List Value} {o : Nat} {cJ : ClassId} {ans : Int64}
theorem hy_K1_of (hy : plainName y.cls = true) (hn : (lg_sl As).length ≤ nL)
    (body : ∀ (p : Program) (e : Env) (s : State) (m : MethodId) (args : Array Value) (below : List Frame) (meth : Method) (c : Code) (ls : Array Slot) (A : Nat → Prop), hh_C p s m args meth c D K cc nL (some .int) y.cls A → (∀ w ∈ hy_wl, w.before args s = true) → c.exceptionTable.toList = tableOf hh → hx_V s1 s2 s → hx_Z A s s.heap → hh_H D K ad A s.heap hn_v0 s.heap [] → lv_has ls nL (lv_args 0 As) → W p l e rm s m args below meth c s.heap [] 0 0 (MQ below (va_Qi (fun (q : Int32) (_ : Unit) => q = 1) (fun _ _ => True) A) args s 1 6 A) (F0 m 0 ls [])) : hy_K1 l D K ad s1 s2 y (hy_wm y cc nL hh) rm As := by
  intro sz
  refine va_MetW (cc := cc) (maxL := nL) (ret := some .int) (hh := hh) hy rfl ?_
  intro p e s m args below meth c s₁ B hml hv
  obtain ⟨rfl, hsz, hP, hK, hD0, hV, hZ⟩ := hv
  have hts := atoms_spec (ws := hy_wm y cc nL hh) B.pre
  subst hsz
  have hl := lv_entry As (n := nL) hn
  rw [lg_entry_eq]
  have h9 : ∀ w ∈ hy_wl, w.before As.toArray s = true := fun w hw => hts w (List.mem_cons_of_mem _ hw)
  exact body p e s m _ below meth c _ _ ⟨B.exec, B.bytes, B.returns, hml, findClass_of_methodNamed B.named, fun w hw => h9 w (List.mem_append_left _ (hx_l hw)), hK, B.notSynchronized, fun q h => Or.inr h⟩ h9 (vx_table (x := y) B (hts _ List.mem_cons_self)) hV hZ ⟨hP, hD0.self, va_S.rf⟩ hl
theorem hy_K0_of (hy : plainName y.cls = true) (hn : (lg_sl As).length ≤ nL)
    (body : ∀ (p : Program) (e : Env) (s : State) (m : MethodId) (args : Array Value) (below : List Frame) (meth : Method) (c : Code) (ls : Array Slot) (A : Nat → Prop), hh_C p s m args meth c D K cc nL (some .int) y.cls A → (∀ w ∈ hy_wl, w.before args s = true) → va_K D hh_cl [(cJ, .long)] s → va_P D hh_cl (hy_W K ad hn_v0 o cJ (fun _ => 0)) s.heap → va_D A (hy_W K ad hn_v0 o cJ (fun _ => 0)) → lv_has ls nL (lv_args 0 As) → W p l e rm s m args below meth c s.heap [] 0 0 (MQ below (va_Qi (fun (q : Int32) (_ : Unit) => q = 0) (fun _ t => va_P D hh_cl [(o, .inl (cJ, 1, .inr (.inl (fun _ => ans))))] t.heap) A) args s 0 0 A) (F0 m 0 ls [])) : hy_K0 l D K ad o cJ y (hy_wm y cc nL hh) rm As ans := by
  intro sz
  refine va_MetW (cc := cc) (maxL := nL) (ret := some .int) (hh := hh) hy rfl ?_
  intro p e s m args below meth c s₁ B hml hv
  obtain ⟨rfl, hsz, hP, hK, hJ, hD0⟩ := hv
  have hts := atoms_spec (ws := hy_wm y cc nL hh) B.pre
  subst hsz
  have hl := lv_entry As (n := nL) hn
  rw [lg_entry_eq]
  have h9 : ∀ w ∈ hy_wl, w.before As.toArray s = true := fun w hw => hts w (List.mem_cons_of_mem _ hw)
  exact body p e s m _ below meth c _ _ ⟨B.exec, B.bytes, B.returns, hml, findClass_of_methodNamed B.named, fun w hw => h9 w (List.mem_append_left _ (hx_l hw)), hK, B.notSynchronized, fun q h => Or.inr h⟩ h9 hJ hP hD0.self hl
end HYM
theorem hy_row (cJ : ClassId) {f g : Nat → Int64} (h : f 0 = g 0) : vp_cell cJ (1, .inr (.inl f)) = vp_cell cJ (1, .inr (.inl g)) := by
  show arrV cJ 1 (fun j => .long (f j)) = arrV cJ 1 (fun j => .long (g j))
  unfold arrV
  simp [h]
section HYC
variable {p : Program} {l : Launch} {e : Env} {R : Room} {s : State} {m : MethodId} {args : Array Value} {below : List Frame} {meth : Method} {c : Code} {H : Heap} {locs : List Loc} {cells slots : Nat} {Q : State → Prop}
variable {cc : ByteArray} {pc nL : Nat} {ls : Array Slot} {rest st0 : List Value} {D : va_G} {K : Nat → ClassId} {ad : Nat → Nat} {A : Nat → Prop} {v : hh_M} {ret : Option FieldType} {s1 s2 : Nat} {E : String}
variable {index maxL n : Nat} {y : MethodName} {bytes : ByteArray} {ret' : Option FieldType} {rm : Room} {As : List Value}
/-- the class throws, and it is caught here -/
theorem hy_cx (C0 : hh_C p s m args meth c D K cc nL ret RL A) (h9 : ∀ w ∈ hy_wl, w.before args s = true) (hV : hx_V s1 s2 s) (hZ : hx_Z A s s.heap) (hp : hh_H D K ad A s.heap v H locs) (M : hx_K l D K ad s1 s2 y (hx_wm y bytes maxL ret') rm (.ref (ad 0) :: As) v E) (g : GoodIn hy_wl (wsV RL index RX7 y (hx_wm y bytes maxL ret'))) (hrm : rm.cells = 1 ∧ rm.slots = 6)
    (hd : y.cls = RX7 ∧ y.cls ≠ "java/lang/invoke/MethodHandle" ∧ y.cls ≠ "java/lang/invoke/VarHandle" ∧ (parseMethodDescriptor y.desc).map (fun d => d.parameters.length) = some n) (hR : rm.frames + 1 ≤ R.frames ∧ 8 + (maxL + 11) + rm.locals ≤ R.locals) (hf : 0 + 1 ≤ R.cells ∧ 0 + 6 ≤ R.slots) (hsz : ls.size = nL) (hn : As.length = n) (hst0 : st0 = As.reverse ++ .ref (ad 0) :: rest) (hst : (rest.map fun v => v.category).sum ≤ 8) (hdg : decode cc pc = .ok (.invokevirtual index, 3))
    (x : ExceptionTableEntry) (suf : List ExceptionTableEntry) (htab : c.exceptionTable.toList = x :: suf) (hcov : covers x pc = true) (h0 : x.catchType ≠ 0) (hlink : Cond.classLink RL x.catchType E ∈ hy_wl) (hcast : (Cond.castable E E).before args s = true)
    (kk : ∀ (q : Nat) (H : Heap) (locs : List Loc), va_S A s.heap H locs → W p l e R s m args below meth c H locs 1 6 Q (F0 m x.handlerPc ls [.ref q])) : W p l e R s m args below meth c H locs 0 0 Q (F0 m pc ls st0) := by
  subst hst0
  obtain ⟨hx, hb, hr, hml, hown, hts, hK, hlk, hA⟩ := C0
  have hF := hh_free hp hA
  refine hx_thrown (vx_runV (As := As) (rest := rest) ⟨hx, hb, hml, hown, h9⟩ (M H.size) (cwV n h9 g rfl hrm.1 hrm.2 hd hR) ⟨hx_blind, va_recv (ci := 7) (q0 := 0) (q := (RX7, TX7, 4)) hK hp.1 rfl (by rw [hh_W_at (by decide), hh_E_0]), fun U hU hW => ⟨rfl, congrArg Array.size hU, by rw [hU]; exact hp.1, va_K.moved hW.alike hK, hp.2.1.weaken (fun _ _ _ _ => trivial), hV.warm hW, by rw [hU]; exact ((hZ.kept hp.2.2.2.1).moved hW.alike).narrow hF⟩⟩ rfl hn hsz rfl (lv_room hst) hdg ⟨hf.1, hf.2⟩) hp.2.2 (fun q _ h => hF q h) hF (fun ce q9 t H1 locs1 ht1 hvm hz hk hS1 hce hcv hcl => ?_)
  exact vx_catch hown [] x suf htab (fun z hz => by cases hz) hcov h0 (h9 _ hlink) hcast hce hcv hcl (kk q9 H1 locs1 hS1)
/-- the class answers -/
theorem hy_ch {φ : Int32 → hh_M → Prop} {X : va_W} (C0 : hh_C p s m args meth c D K cc nL ret RL A) (h9 : ∀ w ∈ hy_wl, w.before args s = true) (hP : va_P D hh_cl (hh_W K ad v ++ X) H) (hD : va_D A (hh_W K ad v ++ X)) (hS : va_S A s.heap H locs) (M : hh_Ki l D K ad y (hh_wm y bytes maxL ret') rm (.ref (ad 0) :: As) v φ) (g : GoodIn hy_wl (wsV RL index RX7 y (hh_wm y bytes maxL ret'))) (hrm : rm.cells = 0 ∧ rm.slots = 0)
    (hd : y.cls = RX7 ∧ y.cls ≠ "java/lang/invoke/MethodHandle" ∧ y.cls ≠ "java/lang/invoke/VarHandle" ∧ (parseMethodDescriptor y.desc).map (fun d => d.parameters.length) = some n) (hR : rm.frames + 1 ≤ R.frames ∧ 8 + (maxL + 11) + rm.locals ≤ R.locals) (hf : cells ≤ R.cells ∧ slots ≤ R.slots) (hsz : ls.size = nL) (hn : As.length = n) (hst0 : st0 = As.reverse ++ .ref (ad 0) :: rest) (hst : (rest.map fun v => v.category).sum ≤ 8) (hdg : decode cc pc = .ok (.invokevirtual index, 3))
    (kk : ∀ (q : Int32) (v1 : hh_M) (H : Heap) (locs : List Loc), φ q v1 → va_P D hh_cl X H → va_S A s.heap H locs → W p l e R s m args below meth c H locs cells slots Q (F0 m (pc + 3) ls (.int q :: rest))) : W p l e R s m args below meth c H locs cells slots Q (F0 m pc ls st0) := by
  subst hst0
  obtain ⟨hx, hb, hr, hml, hown, hts, hK, hlk, hA⟩ := C0
  have hP0 := hr_Pl hP
  have hD0 := hr_Dl hD
  have hF : ∀ q, va_A (hh_W K ad v) H.size q → A q := fun q hq => by
    rcases hq with ⟨k, e', he⟩ | hq
    · exact hD0.2 k (q, e') he
    · exact hA q (Nat.le_trans hS.1 hq)
  refine va_calli (va_runV (As := As) (rest := rest) ⟨hx, hb, hml, hown, h9⟩ (M H.size) (cwV n h9 g rfl hrm.1 hrm.2 hd hR) ⟨hh_blind, va_recv (ci := 7) (q0 := 0) (q := (RX7, TX7, 4)) hK hP0 rfl (by rw [hh_W_at (by decide), hh_E_0]), fun U hU hW => ⟨rfl, congrArg Array.size hU, by rw [hU]; exact hP0, va_K.moved hW.alike hK, hD0.weaken (fun _ _ _ _ => trivial)⟩⟩ rfl hn hsz rfl (lv_room hst) hdg ⟨hf.1, hf.2⟩) hS (fun q _ h => hF q h) hF (fun q v1 t H1 locs1 ht hvm hw hB hz1 hk1 hS1 => ?_)
  refine kk q v1 H1 locs1 hw ((hr_Pr hP).kept (fun k q hk => hk1 q.1 (hr_Pr hP k q hk).lt (fun h => ?_))) hS1
  rcases h with ⟨k2, e2, h2⟩ | h2
  · exact hr_Dx hD h2 hk rfl
  · have := (hr_Pr hP k q hk).lt
    omega
end HYC
set_option maxHeartbeats 4000000 in
set_option maxRecDepth 100000 in
theorem hy_speed_1 (l : Launch) (hfl : l.stackTraces = false) (D : va_G) (K : Nat → ClassId) (ad : Nat → Nat) (s1 s2 o : Nat) (x y : Int32) : hy_K1 l D K ad s1 s2 yL_speed (hy_wm yL_speed cL_speed 5 [(0, 10, 13, 25), (0, 10, 17, 13)]) { frames := 8, cells := 1, slots := 6, locals := 126 } [.ref (ad 0), .int x, .int y, .ref o] := by
  refine hy_K1_of (by decide) (Nat.le_of_ble_eq_true rfl) ?_
  intro p e s m args below meth c ls A C0 h9 htab hV hZ hp hl
  obtain ⟨hx, hb, hr9, hml, hown, hts, hK, hlk, hA⟩ := id C0
  have hl : lv_has ls 5 [(0, .ref (ad 0)), (1, .int x), (2, .int y), (3, .ref o)] := hl
  refine lv_aload_n hx hb dL_speed_0 rfl (lv_at hl 3 rfl) ?_
  refine lv_iconst (v := 0) hx hb dL_speed_1 (by decide) ?_
  refine lv_aload_n hx hb dL_speed_2 rfl (lv_at hl 0 rfl) ?_
  refine lv_iload_n hx hb dL_speed_3 rfl (lv_at hl 1 rfl) ?_
  refine lv_iload_n hx hb dL_speed_4 rfl (lv_at hl 2 rfl) ?_
  refine hy_cx C0 h9 hV hZ hp (As := [.int x, .int y]) (rest := [.int 0, .ref o]) (n := 2) (hx_X7_speed l hfl D K ad s1 s2 x y) (hy_gx hy_8 (List.mem_append_right _ hy_9) (List.mem_append_right _ hy_10) hm_348) ⟨rfl, rfl⟩ (by decide +kernel) ⟨Nat.le_of_ble_eq_true rfl, Nat.le_of_ble_eq_true rfl⟩ ⟨Nat.le_of_ble_eq_true rfl, Nat.le_of_ble_eq_true rfl⟩ hl.1 rfl rfl (Nat.le_of_ble_eq_true rfl) dL_speed_5 _ _ htab (by decide) (by decide) (List.mem_append_right _ hy_7) (va_Nw.use rfl hV.2.1) (fun q H locs hS => ?_)
  show W p l e _ s m args below meth c H locs 1 6 _ (F0 m 13 ls [.ref q])
  refine lv_astore (lv' := [(4, .ref q), (0, .ref (ad 0)), (1, .int x), (2, .int y), (3, .ref o)]) hx hb dL_speed_13 hl (by decide) rfl (fun ls hl => ?_)
  refine lv_iconst (v := 1) hx hb dL_speed_15 (by decide) ?_
  exact W.iret hx hb hr9 (fun t ht hW => ⟨⟨1, (), rfl, rfl, trivial⟩, hS.F ht⟩) hS.2.2 dL_speed_16 hlk
set_option maxHeartbeats 4000000 in
set_option maxRecDepth 100000 in
theorem hy_top_1 (l : Launch) (hfl : l.stackTraces = false) (D : va_G) (K : Nat → ClassId) (ad : Nat → Nat) (s1 s2 o : Nat) (x y : Int32) : hy_K1 l D K ad s1 s2 yL_top (hy_wm yL_top cL_top 5 [(0, 10, 13, 25), (0, 10, 17, 13)]) { frames := 8, cells := 1, slots := 6, locals := 125 } [.ref (ad 0), .int x, .int y, .ref o] := by
  refine hy_K1_of (by decide) (Nat.le_of_ble_eq_true rfl) ?_
  intro p e s m args below meth c ls A C0 h9 htab hV hZ hp hl
  obtain ⟨hx, hb, hr9, hml, hown, hts, hK, hlk, hA⟩ := id C0
  have hl : lv_has ls 5 [(0, .ref (ad 0)), (1, .int x), (2, .int y), (3, .ref o)] := hl
  refine lv_aload_n hx hb dL_top_0 rfl (lv_at hl 3 rfl) ?_
  refine lv_iconst (v := 0) hx hb dL_top_1 (by decide) ?_
  refine lv_aload_n hx hb dL_top_2 rfl (lv_at hl 0 rfl) ?_
  refine lv_iload_n hx hb dL_top_3 rfl (lv_at hl 1 rfl) ?_
  refine lv_iload_n hx hb dL_top_4 rfl (lv_at hl 2 rfl) ?_
  refine hy_cx C0 h9 hV hZ hp (As := [.int x, .int y]) (rest := [.int 0, .ref o]) (n := 2) (hx_X7_top l hfl D K ad s1 s2 x y) (hy_gx hy_11 (List.mem_append_right _ hy_12) (List.mem_append_right _ hy_13) hm_352) ⟨rfl, rfl⟩ (by decide +kernel) ⟨Nat.le_of_ble_eq_true rfl, Nat.le_of_ble_eq_true rfl⟩ ⟨Nat.le_of_ble_eq_true rfl, Nat.le_of_ble_eq_true rfl⟩ hl.1 rfl rfl (Nat.le_of_ble_eq_true rfl) dL_top_5 _ _ htab (by decide) (by decide) (List.mem_append_right _ hy_7) (va_Nw.use rfl hV.2.1) (fun q H locs hS => ?_)
  show W p l e _ s m args below meth c H locs 1 6 _ (F0 m 13 ls [.ref q])
  refine lv_astore (lv' := [(4, .ref q), (0, .ref (ad 0)), (1, .int x), (2, .int y), (3, .ref o)]) hx hb dL_top_13 hl (by decide) rfl (fun ls hl => ?_)
  refine lv_iconst (v := 1) hx hb dL_top_15 (by decide) ?_
  exact W.iret hx hb hr9 (fun t ht hW => ⟨⟨1, (), rfl, rfl, trivial⟩, hS.F ht⟩) hS.2.2 dL_top_16 hlk
set_option maxHeartbeats 4000000 in
set_option maxRecDepth 100000 in
theorem hy_turn_1 (l : Launch) (hfl : l.stackTraces = false) (D : va_G) (K : Nat → ClassId) (ad : Nat → Nat) (s1 s2 o : Nat) (x y : Int32) : hy_K1 l D K ad s1 s2 yL_turn (hy_wm yL_turn cL_turn 5 [(0, 17, 20, 25)]) { frames := 8, cells := 1, slots := 6, locals := 126 } [.ref (ad 0), .int x, .int y, .ref o] := by
  refine hy_K1_of (by decide) (Nat.le_of_ble_eq_true rfl) ?_
  intro p e s m args below meth c ls A C0 h9 htab hV hZ hp hl
  obtain ⟨hx, hb, hr9, hml, hown, hts, hK, hlk, hA⟩ := id C0
  have hl : lv_has ls 5 [(0, .ref (ad 0)), (1, .int x), (2, .int y), (3, .ref o)] := hl
  refine lv_aload_n hx hb dL_turn_0 rfl (lv_at hl 3 rfl) ?_
  refine lv_iconst (v := 0) hx hb dL_turn_1 (by decide) ?_
  refine lv_aload_n hx hb dL_turn_2 rfl (lv_at hl 0 rfl) ?_
  refine lv_iload_n hx hb dL_turn_3 rfl (lv_at hl 1 rfl) ?_
  refine lv_iload_n hx hb dL_turn_4 rfl (lv_at hl 2 rfl) ?_
  refine hy_cx C0 h9 hV hZ hp (As := [.int x, .int y]) (rest := [.int 0, .ref o]) (n := 2) (hx_X7_turn l hfl D K ad s1 s2 x y) (hy_gx hy_14 (List.mem_append_right _ hy_15) (List.mem_append_right _ hy_16) hm_353) ⟨rfl, rfl⟩ (by decide +kernel) ⟨Nat.le_of_ble_eq_true rfl, Nat.le_of_ble_eq_true rfl⟩ ⟨Nat.le_of_ble_eq_true rfl, Nat.le_of_ble_eq_true rfl⟩ hl.1 rfl rfl (Nat.le_of_ble_eq_true rfl) dL_turn_5 _ _ htab (by decide) (by decide) (List.mem_append_right _ hy_7) (va_Nw.use rfl hV.2.1) (fun q H locs hS => ?_)
  show W p l e _ s m args below meth c H locs 1 6 _ (F0 m 20 ls [.ref q])
  refine lv_astore (lv' := [(4, .ref q), (0, .ref (ad 0)), (1, .int x), (2, .int y), (3, .ref o)]) hx hb dL_turn_20 hl (by decide) rfl (fun ls hl => ?_)
  refine lv_iconst (v := 1) hx hb dL_turn_22 (by decide) ?_
  exact W.iret hx hb hr9 (fun t ht hW => ⟨⟨1, (), rfl, rfl, trivial⟩, hS.F ht⟩) hS.2.2 dL_turn_23 hlk
set_option maxHeartbeats 4000000 in
set_option maxRecDepth 100000 in
theorem hy_wake_1 (l : Launch) (hfl : l.stackTraces = false) (D : va_G) (K : Nat → ClassId) (ad : Nat → Nat) (s1 s2 o : Nat) (x y : Int32) : hy_K1 l D K ad s1 s2 yL_wake (hy_wm yL_wake cL_wake 5 [(0, 17, 20, 25)]) { frames := 8, cells := 1, slots := 6, locals := 125 } [.ref (ad 0), .int x, .int y, .ref o] := by
  refine hy_K1_of (by decide) (Nat.le_of_ble_eq_true rfl) ?_
  intro p e s m args below meth c ls A C0 h9 htab hV hZ hp hl
  obtain ⟨hx, hb, hr9, hml, hown, hts, hK, hlk, hA⟩ := id C0
  have hl : lv_has ls 5 [(0, .ref (ad 0)), (1, .int x), (2, .int y), (3, .ref o)] := hl
  refine lv_aload_n hx hb dL_wake_0 rfl (lv_at hl 3 rfl) ?_
  refine lv_iconst (v := 0) hx hb dL_wake_1 (by decide) ?_
  refine lv_aload_n hx hb dL_wake_2 rfl (lv_at hl 0 rfl) ?_
  refine lv_iload_n hx hb dL_wake_3 rfl (lv_at hl 1 rfl) ?_
  refine lv_iload_n hx hb dL_wake_4 rfl (lv_at hl 2 rfl) ?_
  refine hy_cx C0 h9 hV hZ hp (As := [.int x, .int y]) (rest := [.int 0, .ref o]) (n := 2) (hx_X7_wake l hfl D K ad s1 s2 x y) (hy_gx hy_17 (List.mem_append_right _ hy_18) (List.mem_append_right _ hy_19) hm_357) ⟨rfl, rfl⟩ (by decide +kernel) ⟨Nat.le_of_ble_eq_true rfl, Nat.le_of_ble_eq_true rfl⟩ ⟨Nat.le_of_ble_eq_true rfl, Nat.le_of_ble_eq_true rfl⟩ hl.1 rfl rfl (Nat.le_of_ble_eq_true rfl) dL_wake_5 _ _ htab (by decide) (by decide) (List.mem_append_right _ hy_7) (va_Nw.use rfl hV.2.1) (fun q H locs hS => ?_)
  show W p l e _ s m args below meth c H locs 1 6 _ (F0 m 20 ls [.ref q])
  refine lv_astore (lv' := [(4, .ref q), (0, .ref (ad 0)), (1, .int x), (2, .int y), (3, .ref o)]) hx hb dL_wake_20 hl (by decide) rfl (fun ls hl => ?_)
  refine lv_iconst (v := 1) hx hb dL_wake_22 (by decide) ?_
  exact W.iret hx hb hr9 (fun t ht hW => ⟨⟨1, (), rfl, rfl, trivial⟩, hS.F ht⟩) hS.2.2 dL_wake_23 hlk
set_option maxHeartbeats 4000000 in
set_option maxRecDepth 100000 in
theorem hy_call_1 (l : Launch) (hfl : l.stackTraces = false) (D : va_G) (K : Nat → ClassId) (ad : Nat → Nat) (s1 s2 o : Nat) (x y : Int32) : hy_K1 l D K ad s1 s2 yL_call (hy_wm yL_call cL_call 5 [(0, 10, 13, 25), (0, 10, 17, 13), (0, 10, 21, 15)]) { frames := 8, cells := 1, slots := 6, locals := 125 } [.ref (ad 0), .int x, .int y, .ref o] := by
  refine hy_K1_of (by decide) (Nat.le_of_ble_eq_true rfl) ?_
  intro p e s m args below meth c ls A C0 h9 htab hV hZ hp hl
  obtain ⟨hx, hb, hr9, hml, hown, hts, hK, hlk, hA⟩ := id C0
  have hl : lv_has ls 5 [(0, .ref (ad 0)), (1, .int x), (2, .int y), (3, .ref o)] := hl
  refine lv_aload_n hx hb dL_call_0 rfl (lv_at hl 3 rfl) ?_
  refine lv_iconst (v := 0) hx hb dL_call_1 (by decide) ?_
  refine lv_aload_n hx hb dL_call_2 rfl (lv_at hl 0 rfl) ?_
  refine lv_iload_n hx hb dL_call_3 rfl (lv_at hl 1 rfl) ?_
  refine lv_iload_n hx hb dL_call_4 rfl (lv_at hl 2 rfl) ?_
  refine hy_cx C0 h9 hV hZ hp (As := [.int x, .int y]) (rest := [.int 0, .ref o]) (n := 2) (hx_X7_call l hfl D K ad s1 s2 x y) (hy_gx hy_20 (List.mem_append_right _ hy_21) (List.mem_append_right _ hy_22) hm_362) ⟨rfl, rfl⟩ (by decide +kernel) ⟨Nat.le_of_ble_eq_true rfl, Nat.le_of_ble_eq_true rfl⟩ ⟨Nat.le_of_ble_eq_true rfl, Nat.le_of_ble_eq_true rfl⟩ hl.1 rfl rfl (Nat.le_of_ble_eq_true rfl) dL_call_5 _ _ htab (by decide) (by decide) (List.mem_append_right _ hy_7) (va_Nw.use rfl hV.2.1) (fun q H locs hS => ?_)
  show W p l e _ s m args below meth c H locs 1 6 _ (F0 m 13 ls [.ref q])
  refine lv_astore (lv' := [(4, .ref q), (0, .ref (ad 0)), (1, .int x), (2, .int y), (3, .ref o)]) hx hb dL_call_13 hl (by decide) rfl (fun ls hl => ?_)
  refine lv_iconst (v := 1) hx hb dL_call_15 (by decide) ?_
  exact W.iret hx hb hr9 (fun t ht hW => ⟨⟨1, (), rfl, rfl, trivial⟩, hS.F ht⟩) hS.2.2 dL_call_16 hlk
set_option maxHeartbeats 4000000 in
set_option maxRecDepth 100000 in
theorem hy_emergency_1 (l : Launch) (hfl : l.stackTraces = false) (D : va_G) (K : Nat → ClassId) (ad : Nat → Nat) (s1 s2 o : Nat) (x : Int32) : hy_K1 l D K ad s1 s2 yL_emergency (hy_wm yL_emergency cL_emergency 4 [(0, 9, 12, 25), (0, 9, 15, 15)]) { frames := 8, cells := 1, slots := 6, locals := 124 } [.ref (ad 0), .int x, .ref o] := by
  refine hy_K1_of (by decide) (Nat.le_of_ble_eq_true rfl) ?_
  intro p e s m args below meth c ls A C0 h9 htab hV hZ hp hl
  obtain ⟨hx, hb, hr9, hml, hown, hts, hK, hlk, hA⟩ := id C0
  have hl : lv_has ls 4 [(0, .ref (ad 0)), (1, .int x), (2, .ref o)] := hl
  refine lv_aload_n hx hb dL_emergency_0 rfl (lv_at hl 2 rfl) ?_
  refine lv_iconst (v := 0) hx hb dL_emergency_1 (by decide) ?_
  refine lv_aload_n hx hb dL_emergency_2 rfl (lv_at hl 0 rfl) ?_
  refine lv_iload_n hx hb dL_emergency_3 rfl (lv_at hl 1 rfl) ?_
  refine hy_cx C0 h9 hV hZ hp (As := [.int x]) (rest := [.int 0, .ref o]) (n := 1) (hx_X7_emergency l hfl D K ad s1 s2 x) (hy_gx hy_23 (List.mem_append_right _ hy_24) (List.mem_append_right _ hy_25) hm_374) ⟨rfl, rfl⟩ (by decide +kernel) ⟨Nat.le_of_ble_eq_true rfl, Nat.le_of_ble_eq_true rfl⟩ ⟨Nat.le_of_ble_eq_true rfl, Nat.le_of_ble_eq_true rfl⟩ hl.1 rfl rfl (Nat.le_of_ble_eq_true rfl) dL_emergency_4 _ _ htab (by decide) (by decide) (List.mem_append_right _ hy_7) (va_Nw.use rfl hV.2.1) (fun q H locs hS => ?_)
  show W p l e _ s m args below meth c H locs 1 6 _ (F0 m 12 ls [.ref q])
  refine lv_astore_n (lv' := [(3, .ref q), (0, .ref (ad 0)), (1, .int x), (2, .ref o)]) hx hb dL_emergency_12 rfl hl (by decide) rfl (fun ls hl => ?_)
  refine lv_iconst (v := 1) hx hb dL_emergency_13 (by decide) ?_
  exact W.iret hx hb hr9 (fun t ht hW => ⟨⟨1, (), rfl, rfl, trivial⟩, hS.F ht⟩) hS.2.2 dL_emergency_14 hlk
set_option maxHeartbeats 4000000 in
set_option maxRecDepth 100000 in
theorem hy_hang_1 (l : Launch) (hfl : l.stackTraces = false) (D : va_G) (K : Nat → ClassId) (ad : Nat → Nat) (s1 s2 o : Nat) (x : Int32) : hy_K1 l D K ad s1 s2 yL_hang (hy_wm yL_hang cL_hang 4 [(0, 9, 12, 25), (0, 9, 15, 15)]) { frames := 8, cells := 1, slots := 6, locals := 125 } [.ref (ad 0), .int x, .ref o] := by
  refine hy_K1_of (by decide) (Nat.le_of_ble_eq_true rfl) ?_
  intro p e s m args below meth c ls A C0 h9 htab hV hZ hp hl
  obtain ⟨hx, hb, hr9, hml, hown, hts, hK, hlk, hA⟩ := id C0
  have hl : lv_has ls 4 [(0, .ref (ad 0)), (1, .int x), (2, .ref o)] := hl
  refine lv_aload_n hx hb dL_hang_0 rfl (lv_at hl 2 rfl) ?_
  refine lv_iconst (v := 0) hx hb dL_hang_1 (by decide) ?_
  refine lv_aload_n hx hb dL_hang_2 rfl (lv_at hl 0 rfl) ?_
  refine lv_iload_n hx hb dL_hang_3 rfl (lv_at hl 1 rfl) ?_
  refine hy_cx C0 h9 hV hZ hp (As := [.int x]) (rest := [.int 0, .ref o]) (n := 1) (hx_X7_hang l hfl D K ad s1 s2 x) (hy_gx hy_26 (List.mem_append_right _ hy_27) (List.mem_append_right _ hy_28) hm_378) ⟨rfl, rfl⟩ (by decide +kernel) ⟨Nat.le_of_ble_eq_true rfl, Nat.le_of_ble_eq_true rfl⟩ ⟨Nat.le_of_ble_eq_true rfl, Nat.le_of_ble_eq_true rfl⟩ hl.1 rfl rfl (Nat.le_of_ble_eq_true rfl) dL_hang_4 _ _ htab (by decide) (by decide) (List.mem_append_right _ hy_7) (va_Nw.use rfl hV.2.1) (fun q H locs hS => ?_)
  show W p l e _ s m args below meth c H locs 1 6 _ (F0 m 12 ls [.ref q])
  refine lv_astore_n (lv' := [(3, .ref q), (0, .ref (ad 0)), (1, .int x), (2, .ref o)]) hx hb dL_hang_12 rfl hl (by decide) rfl (fun ls hl => ?_)
  refine lv_iconst (v := 1) hx hb dL_hang_13 (by decide) ?_
  exact W.iret hx hb hr9 (fun t ht hW => ⟨⟨1, (), rfl, rfl, trivial⟩, hS.F ht⟩) hS.2.2 dL_hang_14 hlk
set_option maxHeartbeats 4000000 in
set_option maxRecDepth 100000 in
theorem hy_text_1 (l : Launch) (hfl : l.stackTraces = false) (D : va_G) (K : Nat → ClassId) (ad : Nat → Nat) (s1 s2 o : Nat) (x y : Int32) : hy_K1 l D K ad s1 s2 yL_text (hy_wm yL_text cL_text 5 [(0, 10, 13, 25), (0, 10, 17, 13), (0, 10, 21, 15)]) { frames := 8, cells := 1, slots := 6, locals := 125 } [.ref (ad 0), .int x, .int y, .ref o] := by
  refine hy_K1_of (by decide) (Nat.le_of_ble_eq_true rfl) ?_
  intro p e s m args below meth c ls A C0 h9 htab hV hZ hp hl
  obtain ⟨hx, hb, hr9, hml, hown, hts, hK, hlk, hA⟩ := id C0
  have hl : lv_has ls 5 [(0, .ref (ad 0)), (1, .int x), (2, .int y), (3, .ref o)] := hl
  refine lv_aload_n hx hb dL_text_0 rfl (lv_at hl 3 rfl) ?_
  refine lv_iconst (v := 0) hx hb dL_text_1 (by decide) ?_
  refine lv_aload_n hx hb dL_text_2 rfl (lv_at hl 0 rfl) ?_
  refine lv_iload_n hx hb dL_text_3 rfl (lv_at hl 1 rfl) ?_
  refine lv_iload_n hx hb dL_text_4 rfl (lv_at hl 2 rfl) ?_
  refine hy_cx C0 h9 hV hZ hp (As := [.int x, .int y]) (rest := [.int 0, .ref o]) (n := 2) (hx_X7_text l hfl D K ad s1 s2 x y) (hy_gx hy_29 (List.mem_append_right _ hy_30) (List.mem_append_right _ hy_31) hm_383) ⟨rfl, rfl⟩ (by decide +kernel) ⟨Nat.le_of_ble_eq_true rfl, Nat.le_of_ble_eq_true rfl⟩ ⟨Nat.le_of_ble_eq_true rfl, Nat.le_of_ble_eq_true rfl⟩ hl.1 rfl rfl (Nat.le_of_ble_eq_true rfl) dL_text_5 _ _ htab (by decide) (by decide) (List.mem_append_right _ hy_7) (va_Nw.use rfl hV.2.1) (fun q H locs hS => ?_)
  show W p l e _ s m args below meth c H locs 1 6 _ (F0 m 13 ls [.ref q])
  refine lv_astore (lv' := [(4, .ref q), (0, .ref (ad 0)), (1, .int x), (2, .int y), (3, .ref o)]) hx hb dL_text_13 hl (by decide) rfl (fun ls hl => ?_)
  refine lv_iconst (v := 1) hx hb dL_text_15 (by decide) ?_
  exact W.iret hx hb hr9 (fun t ht hW => ⟨⟨1, (), rfl, rfl, trivial⟩, hS.F ht⟩) hS.2.2 dL_text_16 hlk
set_option maxHeartbeats 4000000 in
set_option maxRecDepth 100000 in
theorem hy_quality_1 (l : Launch) (hfl : l.stackTraces = false) (D : va_G) (K : Nat → ClassId) (ad : Nat → Nat) (s1 s2 o : Nat) (x y : Int32) : hy_K1 l D K ad s1 s2 yL_quality (hy_wm yL_quality cL_quality 5 [(0, 10, 13, 25), (0, 10, 17, 13)]) { frames := 8, cells := 1, slots := 6, locals := 125 } [.ref (ad 0), .int x, .int y, .ref o] := by
  refine hy_K1_of (by decide) (Nat.le_of_ble_eq_true rfl) ?_
  intro p e s m args below meth c ls A C0 h9 htab hV hZ hp hl
  obtain ⟨hx, hb, hr9, hml, hown, hts, hK, hlk, hA⟩ := id C0
  have hl : lv_has ls 5 [(0, .ref (ad 0)), (1, .int x), (2, .int y), (3, .ref o)] := hl
  refine lv_aload_n hx hb dL_quality_0 rfl (lv_at hl 3 rfl) ?_
  refine lv_iconst (v := 0) hx hb dL_quality_1 (by decide) ?_
  refine lv_aload_n hx hb dL_quality_2 rfl (lv_at hl 0 rfl) ?_
  refine lv_iload_n hx hb dL_quality_3 rfl (lv_at hl 1 rfl) ?_
  refine lv_iload_n hx hb dL_quality_4 rfl (lv_at hl 2 rfl) ?_
  refine hy_cx C0 h9 hV hZ hp (As := [.int x, .int y]) (rest := [.int 0, .ref o]) (n := 2) (hx_X7_quality l hfl D K ad s1 s2 x y) (hy_gx hy_35 (List.mem_append_left _ (hx_l hm_459)) (List.mem_append_left _ (hx_l hm_460)) hm_397) ⟨rfl, rfl⟩ (by decide +kernel) ⟨Nat.le_of_ble_eq_true rfl, Nat.le_of_ble_eq_true rfl⟩ ⟨Nat.le_of_ble_eq_true rfl, Nat.le_of_ble_eq_true rfl⟩ hl.1 rfl rfl (Nat.le_of_ble_eq_true rfl) dL_quality_5 _ _ htab (by decide) (by decide) (List.mem_append_right _ hy_7) (va_Nw.use rfl hV.2.1) (fun q H locs hS => ?_)
  show W p l e _ s m args below meth c H locs 1 6 _ (F0 m 13 ls [.ref q])
  refine lv_astore (lv' := [(4, .ref q), (0, .ref (ad 0)), (1, .int x), (2, .int y), (3, .ref o)]) hx hb dL_quality_13 hl (by decide) rfl (fun ls hl => ?_)
  refine lv_iconst (v := 1) hx hb dL_quality_15 (by decide) ?_
  exact W.iret hx hb hr9 (fun t ht hW => ⟨⟨1, (), rfl, rfl, trivial⟩, hS.F ht⟩) hS.2.2 dL_quality_16 hlk
set_option maxHeartbeats 4000000 in
set_option maxRecDepth 100000 in
theorem hy_ofMast_1 (l : Launch) (hfl : l.stackTraces = false) (D : va_G) (K : Nat → ClassId) (ad : Nat → Nat) (s1 s2 o : Nat) (x y : Int32) : hy_K1 l D K ad s1 s2 yL_ofMast (hy_wm yL_ofMast cL_ofMast 5 [(0, 10, 13, 25), (0, 10, 17, 13)]) { frames := 8, cells := 1, slots := 6, locals := 125 } [.ref (ad 0), .int x, .int y, .ref o] := by
  refine hy_K1_of (by decide) (Nat.le_of_ble_eq_true rfl) ?_
  intro p e s m args below meth c ls A C0 h9 htab hV hZ hp hl
  obtain ⟨hx, hb, hr9, hml, hown, hts, hK, hlk, hA⟩ := id C0
  have hl : lv_has ls 5 [(0, .ref (ad 0)), (1, .int x), (2, .int y), (3, .ref o)] := hl
  refine lv_aload_n hx hb dL_ofMast_0 rfl (lv_at hl 3 rfl) ?_
  refine lv_iconst (v := 0) hx hb dL_ofMast_1 (by decide) ?_
  refine lv_aload_n hx hb dL_ofMast_2 rfl (lv_at hl 0 rfl) ?_
  refine lv_iload_n hx hb dL_ofMast_3 rfl (lv_at hl 1 rfl) ?_
  refine lv_iload_n hx hb dL_ofMast_4 rfl (lv_at hl 2 rfl) ?_
  refine hy_cx C0 h9 hV hZ hp (As := [.int x, .int y]) (rest := [.int 0, .ref o]) (n := 2) (hx_X7_ofMast l hfl D K ad s1 s2 x y) (hy_gx hy_37 (List.mem_append_left _ (hx_l hm_456)) (List.mem_append_left _ (hx_l hm_457)) hm_401) ⟨rfl, rfl⟩ (by decide +kernel) ⟨Nat.le_of_ble_eq_true rfl, Nat.le_of_ble_eq_true rfl⟩ ⟨Nat.le_of_ble_eq_true rfl, Nat.le_of_ble_eq_true rfl⟩ hl.1 rfl rfl (Nat.le_of_ble_eq_true rfl) dL_ofMast_5 _ _ htab (by decide) (by decide) (List.mem_append_right _ hy_7) (va_Nw.use rfl hV.2.1) (fun q H locs hS => ?_)
  show W p l e _ s m args below meth c H locs 1 6 _ (F0 m 13 ls [.ref q])
  refine lv_astore (lv' := [(4, .ref q), (0, .ref (ad 0)), (1, .int x), (2, .int y), (3, .ref o)]) hx hb dL_ofMast_13 hl (by decide) rfl (fun ls hl => ?_)
  refine lv_iconst (v := 1) hx hb dL_ofMast_15 (by decide) ?_
  exact W.iret hx hb hr9 (fun t ht hW => ⟨⟨1, (), rfl, rfl, trivial⟩, hS.F ht⟩) hS.2.2 dL_ofMast_16 hlk
set_option maxHeartbeats 4000000 in
set_option maxRecDepth 100000 in
theorem hy_ofHandset_1 (l : Launch) (hfl : l.stackTraces = false) (D : va_G) (K : Nat → ClassId) (ad : Nat → Nat) (s1 s2 o : Nat) (x y : Int32) : hy_K1 l D K ad s1 s2 yL_ofHandset (hy_wm yL_ofHandset cL_ofHandset 5 [(0, 10, 13, 25), (0, 10, 17, 13)]) { frames := 8, cells := 1, slots := 6, locals := 125 } [.ref (ad 0), .int x, .int y, .ref o] := by
  refine hy_K1_of (by decide) (Nat.le_of_ble_eq_true rfl) ?_
  intro p e s m args below meth c ls A C0 h9 htab hV hZ hp hl
  obtain ⟨hx, hb, hr9, hml, hown, hts, hK, hlk, hA⟩ := id C0
  have hl : lv_has ls 5 [(0, .ref (ad 0)), (1, .int x), (2, .int y), (3, .ref o)] := hl
  refine lv_aload_n hx hb dL_ofHandset_0 rfl (lv_at hl 3 rfl) ?_
  refine lv_iconst (v := 0) hx hb dL_ofHandset_1 (by decide) ?_
  refine lv_aload_n hx hb dL_ofHandset_2 rfl (lv_at hl 0 rfl) ?_
  refine lv_iload_n hx hb dL_ofHandset_3 rfl (lv_at hl 1 rfl) ?_
  refine lv_iload_n hx hb dL_ofHandset_4 rfl (lv_at hl 2 rfl) ?_
  refine hy_cx C0 h9 hV hZ hp (As := [.int x, .int y]) (rest := [.int 0, .ref o]) (n := 2) (hx_X7_ofHandset l hfl D K ad s1 s2 x y) (hy_gx hy_38 (List.mem_append_left _ (hx_l hm_466)) (List.mem_append_left _ (hx_l hm_467)) hm_409) ⟨rfl, rfl⟩ (by decide +kernel) ⟨Nat.le_of_ble_eq_true rfl, Nat.le_of_ble_eq_true rfl⟩ ⟨Nat.le_of_ble_eq_true rfl, Nat.le_of_ble_eq_true rfl⟩ hl.1 rfl rfl (Nat.le_of_ble_eq_true rfl) dL_ofHandset_5 _ _ htab (by decide) (by decide) (List.mem_append_right _ hy_7) (va_Nw.use rfl hV.2.1) (fun q H locs hS => ?_)
  show W p l e _ s m args below meth c H locs 1 6 _ (F0 m 13 ls [.ref q])
  refine lv_astore (lv' := [(4, .ref q), (0, .ref (ad 0)), (1, .int x), (2, .int y), (3, .ref o)]) hx hb dL_ofHandset_13 hl (by decide) rfl (fun ls hl => ?_)
  refine lv_iconst (v := 1) hx hb dL_ofHandset_15 (by decide) ?_
  exact W.iret hx hb hr9 (fun t ht hW => ⟨⟨1, (), rfl, rfl, trivial⟩, hS.F ht⟩) hS.2.2 dL_ofHandset_16 hlk
set_option maxHeartbeats 4000000 in
set_option maxRecDepth 100000 in
theorem hy_ofCall_1 (l : Launch) (hfl : l.stackTraces = false) (D : va_G) (K : Nat → ClassId) (ad : Nat → Nat) (s1 s2 o : Nat) (x y : Int32) : hy_K1 l D K ad s1 s2 yL_ofCall (hy_wm yL_ofCall cL_ofCall 5 [(0, 10, 13, 25), (0, 10, 17, 13)]) { frames := 8, cells := 1, slots := 6, locals := 125 } [.ref (ad 0), .int x, .int y, .ref o] := by
  refine hy_K1_of (by decide) (Nat.le_of_ble_eq_true rfl) ?_
  intro p e s m args below meth c ls A C0 h9 htab hV hZ hp hl
  obtain ⟨hx, hb, hr9, hml, hown, hts, hK, hlk, hA⟩ := id C0
  have hl : lv_has ls 5 [(0, .ref (ad 0)), (1, .int x), (2, .int y), (3, .ref o)] := hl
  refine lv_aload_n hx hb dL_ofCall_0 rfl (lv_at hl 3 rfl) ?_
  refine lv_iconst (v := 0) hx hb dL_ofCall_1 (by decide) ?_
  refine lv_aload_n hx hb dL_ofCall_2 rfl (lv_at hl 0 rfl) ?_
  refine lv_iload_n hx hb dL_ofCall_3 rfl (lv_at hl 1 rfl) ?_
  refine lv_iload_n hx hb dL_ofCall_4 rfl (lv_at hl 2 rfl) ?_
  refine hy_cx C0 h9 hV hZ hp (As := [.int x, .int y]) (rest := [.int 0, .ref o]) (n := 2) (hx_X7_ofCall l hfl D K ad s1 s2 x y) (hy_gx hy_39 (List.mem_append_left _ (hx_l hm_476)) (List.mem_append_left _ (hx_l hm_477)) hm_411) ⟨rfl, rfl⟩ (by decide +kernel) ⟨Nat.le_of_ble_eq_true rfl, Nat.le_of_ble_eq_true rfl⟩ ⟨Nat.le_of_ble_eq_true rfl, Nat.le_of_ble_eq_true rfl⟩ hl.1 rfl rfl (Nat.le_of_ble_eq_true rfl) dL_ofCall_5 _ _ htab (by decide) (by decide) (List.mem_append_right _ hy_7) (va_Nw.use rfl hV.2.1) (fun q H locs hS => ?_)
  show W p l e _ s m args below meth c H locs 1 6 _ (F0 m 13 ls [.ref q])
  refine lv_astore (lv' := [(4, .ref q), (0, .ref (ad 0)), (1, .int x), (2, .int y), (3, .ref o)]) hx hb dL_ofCall_13 hl (by decide) rfl (fun ls hl => ?_)
  refine lv_iconst (v := 1) hx hb dL_ofCall_15 (by decide) ?_
  exact W.iret hx hb hr9 (fun t ht hW => ⟨⟨1, (), rfl, rfl, trivial⟩, hS.F ht⟩) hS.2.2 dL_ofCall_16 hlk
set_option maxHeartbeats 4000000 in
set_option maxRecDepth 100000 in
theorem hy_endsIn_1 (l : Launch) (hfl : l.stackTraces = false) (D : va_G) (K : Nat → ClassId) (ad : Nat → Nat) (s1 s2 o : Nat) (x y : Int32) : hy_K1 l D K ad s1 s2 yL_endsIn (hy_wm yL_endsIn cL_endsIn 5 [(0, 10, 13, 25), (0, 10, 17, 13)]) { frames := 8, cells := 1, slots := 6, locals := 126 } [.ref (ad 0), .int x, .int y, .ref o] := by
  refine hy_K1_of (by decide) (Nat.le_of_ble_eq_true rfl) ?_
  intro p e s m args below meth c ls A C0 h9 htab hV hZ hp hl
  obtain ⟨hx, hb, hr9, hml, hown, hts, hK, hlk, hA⟩ := id C0
  have hl : lv_has ls 5 [(0, .ref (ad 0)), (1, .int x), (2, .int y), (3, .ref o)] := hl
  refine lv_aload_n hx hb dL_endsIn_0 rfl (lv_at hl 3 rfl) ?_
  refine lv_iconst (v := 0) hx hb dL_endsIn_1 (by decide) ?_
  refine lv_aload_n hx hb dL_endsIn_2 rfl (lv_at hl 0 rfl) ?_
  refine lv_iload_n hx hb dL_endsIn_3 rfl (lv_at hl 1 rfl) ?_
  refine lv_iload_n hx hb dL_endsIn_4 rfl (lv_at hl 2 rfl) ?_
  refine hy_cx C0 h9 hV hZ hp (As := [.int x, .int y]) (rest := [.int 0, .ref o]) (n := 2) (hx_X7_endsIn l hfl D K ad s1 s2 x y) (hy_gx hy_41 (List.mem_append_left _ (hx_l hm_479)) (List.mem_append_left _ (hx_l hm_480)) hm_432) ⟨rfl, rfl⟩ (by decide +kernel) ⟨Nat.le_of_ble_eq_true rfl, Nat.le_of_ble_eq_true rfl⟩ ⟨Nat.le_of_ble_eq_true rfl, Nat.le_of_ble_eq_true rfl⟩ hl.1 rfl rfl (Nat.le_of_ble_eq_true rfl) dL_endsIn_5 _ _ htab (by decide) (by decide) (List.mem_append_right _ hy_7) (va_Nw.use rfl hV.2.1) (fun q H locs hS => ?_)
  show W p l e _ s m args below meth c H locs 1 6 _ (F0 m 13 ls [.ref q])
  refine lv_astore (lv' := [(4, .ref q), (0, .ref (ad 0)), (1, .int x), (2, .int y), (3, .ref o)]) hx hb dL_endsIn_13 hl (by decide) rfl (fun ls hl => ?_)
  refine lv_iconst (v := 1) hx hb dL_endsIn_15 (by decide) ?_
  exact W.iret hx hb hr9 (fun t ht hW => ⟨⟨1, (), rfl, rfl, trivial⟩, hS.F ht⟩) hS.2.2 dL_endsIn_16 hlk
set_option maxHeartbeats 4000000 in
set_option maxRecDepth 100000 in
theorem hy_wouldBeOn_1 (l : Launch) (hfl : l.stackTraces = false) (D : va_G) (K : Nat → ClassId) (ad : Nat → Nat) (s1 s2 o : Nat) (x y : Int32) : hy_K1 l D K ad s1 s2 yL_wouldBeOn (hy_wm yL_wouldBeOn cL_wouldBeOn 5 [(0, 10, 13, 25), (0, 10, 17, 13)]) { frames := 8, cells := 1, slots := 6, locals := 126 } [.ref (ad 0), .int x, .int y, .ref o] := by
  refine hy_K1_of (by decide) (Nat.le_of_ble_eq_true rfl) ?_
  intro p e s m args below meth c ls A C0 h9 htab hV hZ hp hl
  obtain ⟨hx, hb, hr9, hml, hown, hts, hK, hlk, hA⟩ := id C0
  have hl : lv_has ls 5 [(0, .ref (ad 0)), (1, .int x), (2, .int y), (3, .ref o)] := hl
  refine lv_aload_n hx hb dL_wouldBeOn_0 rfl (lv_at hl 3 rfl) ?_
  refine lv_iconst (v := 0) hx hb dL_wouldBeOn_1 (by decide) ?_
  refine lv_aload_n hx hb dL_wouldBeOn_2 rfl (lv_at hl 0 rfl) ?_
  refine lv_iload_n hx hb dL_wouldBeOn_3 rfl (lv_at hl 1 rfl) ?_
  refine lv_iload_n hx hb dL_wouldBeOn_4 rfl (lv_at hl 2 rfl) ?_
  refine hy_cx C0 h9 hV hZ hp (As := [.int x, .int y]) (rest := [.int 0, .ref o]) (n := 2) (hx_X7_wouldBeOn l hfl D K ad s1 s2 x y) (hy_gx hy_42 (List.mem_append_left _ (hx_l hm_469)) (List.mem_append_left _ (hx_l hm_470)) hm_436) ⟨rfl, rfl⟩ (by decide +kernel) ⟨Nat.le_of_ble_eq_true rfl, Nat.le_of_ble_eq_true rfl⟩ ⟨Nat.le_of_ble_eq_true rfl, Nat.le_of_ble_eq_true rfl⟩ hl.1 rfl rfl (Nat.le_of_ble_eq_true rfl) dL_wouldBeOn_5 _ _ htab (by decide) (by decide) (List.mem_append_right _ hy_7) (va_Nw.use rfl hV.2.1) (fun q H locs hS => ?_)
  show W p l e _ s m args below meth c H locs 1 6 _ (F0 m 13 ls [.ref q])
  refine lv_astore (lv' := [(4, .ref q), (0, .ref (ad 0)), (1, .int x), (2, .int y), (3, .ref o)]) hx hb dL_wouldBeOn_13 hl (by decide) rfl (fun ls hl => ?_)
  refine lv_iconst (v := 1) hx hb dL_wouldBeOn_15 (by decide) ?_
  exact W.iret hx hb hr9 (fun t ht hW => ⟨⟨1, (), rfl, rfl, trivial⟩, hS.F ht⟩) hS.2.2 dL_wouldBeOn_16 hlk
set_option maxHeartbeats 4000000 in
set_option maxRecDepth 100000 in
theorem hy_mast_1 (l : Launch) (hfl : l.stackTraces = false) (D : va_G) (K : Nat → ClassId) (ad : Nat → Nat) (s1 s2 o : Nat) (p0 p1 p2 p3 p4 p5 : Int32) (hvd : ¬ hv_mast p0 p1 p2 p3 p4 p5) : hy_K1 l D K ad s1 s2 yL_mast (hy_wm yL_mast cL_mast 9 [(0, 18, 21, 13), (0, 18, 25, 15)]) { frames := 8, cells := 1, slots := 6, locals := 131 } [.ref (ad 0), .int p0, .int p1, .int p2, .int p3, .int p4, .int p5, .ref o] := by
  refine hy_K1_of (by decide) (Nat.le_of_ble_eq_true rfl) ?_
  intro p e s m args below meth c ls A C0 h9 htab hV hZ hp hl
  obtain ⟨hx, hb, hr9, hml, hown, hts, hK, hlk, hA⟩ := id C0
  have hl : lv_has ls 9 [(0, .ref (ad 0)), (1, .int p0), (2, .int p1), (3, .int p2), (4, .int p3), (5, .int p4), (6, .int p5), (7, .ref o)] := hl
  refine lv_aload hx hb dL_mast_0 (lv_at hl 7 rfl) ?_
  refine lv_iconst (v := 0) hx hb dL_mast_2 (by decide) ?_
  refine lv_aload_n hx hb dL_mast_3 rfl (lv_at hl 0 rfl) ?_
  refine lv_iload_n hx hb dL_mast_4 rfl (lv_at hl 1 rfl) ?_
  refine lv_iload_n hx hb dL_mast_5 rfl (lv_at hl 2 rfl) ?_
  refine lv_iload_n hx hb dL_mast_6 rfl (lv_at hl 3 rfl) ?_
  refine lv_iload hx hb dL_mast_7 (lv_at hl 4 rfl) ?_
  refine lv_iload hx hb dL_mast_9 (lv_at hl 5 rfl) ?_
  refine lv_iload hx hb dL_mast_11 (lv_at hl 6 rfl) ?_
  refine hy_cx C0 h9 hV hZ hp (As := [.int p0, .int p1, .int p2, .int p3, .int p4, .int p5]) (rest := [.int 0, .ref o]) (n := 6) (hx_X7_mast l hfl D K ad s1 s2 p0 p1 p2 p3 p4 p5 hvd) (hy_gx hy_1 (List.mem_append_right _ hy_2) (List.mem_append_right _ hy_3) hm_323) ⟨rfl, rfl⟩ (by decide +kernel) ⟨Nat.le_of_ble_eq_true rfl, Nat.le_of_ble_eq_true rfl⟩ ⟨Nat.le_of_ble_eq_true rfl, Nat.le_of_ble_eq_true rfl⟩ hl.1 rfl rfl (Nat.le_of_ble_eq_true rfl) dL_mast_13 _ _ htab (by decide) (by decide) (List.mem_append_right _ hy_0) (va_Nw.use rfl hV.1) (fun q H locs hS => ?_)
  show W p l e _ s m args below meth c H locs 1 6 _ (F0 m 21 ls [.ref q])
  refine lv_astore (lv' := [(8, .ref q), (0, .ref (ad 0)), (1, .int p0), (2, .int p1), (3, .int p2), (4, .int p3), (5, .int p4), (6, .int p5), (7, .ref o)]) hx hb dL_mast_21 hl (by decide) rfl (fun ls hl => ?_)
  refine lv_iconst (v := 1) hx hb dL_mast_23 (by decide) ?_
  exact W.iret hx hb hr9 (fun t ht hW => ⟨⟨1, (), rfl, rfl, trivial⟩, hS.F ht⟩) hS.2.2 dL_mast_24 hlk
set_option maxHeartbeats 4000000 in
set_option maxRecDepth 100000 in
theorem hy_mast_0 (l : Launch) (D : va_G) (K : Nat → ClassId) (ad : Nat → Nat) (o : Nat) (cJ : ClassId) (p0 p1 p2 p3 p4 p5 : Int32) (hvd : hv_mast p0 p1 p2 p3 p4 p5) : hy_K0 l D K ad o cJ yL_mast (hy_wm yL_mast cL_mast 9 [(0, 18, 21, 13), (0, 18, 25, 15)]) { frames := 5, cells := 0, slots := 0, locals := 117 } [.ref (ad 0), .int p0, .int p1, .int p2, .int p3, .int p4, .int p5, .ref o] 0 := by
  refine hy_K0_of (by decide) (Nat.le_of_ble_eq_true rfl) ?_
  intro p e s m args below meth c ls A C0 h9 hJ hP hD hl
  obtain ⟨hx, hb, hr9, hml, hown, hts, hK, hlk, hA⟩ := id C0
  have hl : lv_has ls 9 [(0, .ref (ad 0)), (1, .int p0), (2, .int p1), (3, .int p2), (4, .int p3), (5, .int p4), (6, .int p5), (7, .ref o)] := hl
  refine lv_aload hx hb dL_mast_0 (lv_at hl 7 rfl) ?_
  refine lv_iconst (v := 0) hx hb dL_mast_2 (by decide) ?_
  refine lv_aload_n hx hb dL_mast_3 rfl (lv_at hl 0 rfl) ?_
  refine lv_iload_n hx hb dL_mast_4 rfl (lv_at hl 1 rfl) ?_
  refine lv_iload_n hx hb dL_mast_5 rfl (lv_at hl 2 rfl) ?_
  refine lv_iload_n hx hb dL_mast_6 rfl (lv_at hl 3 rfl) ?_
  refine lv_iload hx hb dL_mast_7 (lv_at hl 4 rfl) ?_
  refine lv_iload hx hb dL_mast_9 (lv_at hl 5 rfl) ?_
  refine lv_iload hx hb dL_mast_11 (lv_at hl 6 rfl) ?_
  refine hy_ch C0 h9 hP hD va_S.rf (As := [.int p0, .int p1, .int p2, .int p3, .int p4, .int p5]) (rest := [.int 0, .ref o]) (n := 6) (hk_X7_mast l D K ad hn_T0 p0 p1 p2 p3 p4 p5 hvd.1.1 hvd.1.2 hvd.2.1.1 hvd.2.1.2 hvd.2.2.1.1 hvd.2.2.1.2 hvd.2.2.2.1.1 hvd.2.2.2.1.2 hvd.2.2.2.2.1.1 hvd.2.2.2.2.1.2 hvd.2.2.2.2.2.1 hvd.2.2.2.2.2.2 (by decide)) (hy_gh hy_1 (List.mem_append_right _ hy_2) (List.mem_append_right _ hy_3) hm_323) ⟨rfl, rfl⟩ (by decide +kernel) ⟨Nat.le_of_ble_eq_true rfl, Nat.le_of_ble_eq_true rfl⟩ ⟨Nat.zero_le _, Nat.zero_le _⟩ hl.1 rfl rfl (Nat.le_of_ble_eq_true rfl) dL_mast_13 (fun q v1 H locs hv hP hS => ?_)
  have eq : q = 0 := by
    rw [he_mast hv.1, hh_T_M hv.2]
    rfl
  subst eq
  refine lv_i2l (v := 0) hx hb dL_mast_16 (by decide) ?_
  refine va_last (D := D) (cl := hh_cl) (tys := [(cJ, .long)]) (ws := [(o, .inl (cJ, 1, .inr (.inl (fun _ => 0))))]) (f := fun _ => 0) hx hb hJ hP (hr_Dr hD) hS 0 0 rfl rfl (by unfold vp_in; decide) dL_mast_17 (fun H locs hP hD hS => ?_)
  refine lv_goto (tgt := 29) hx hb dL_mast_18 (by decide) ?_
  refine lv_iconst (v := 0) hx hb dL_mast_29 (by decide) ?_
  refine W.iret hx hb hr9 (fun t ht hW => ⟨⟨0, (), rfl, rfl, ?_⟩, hS.F ht⟩) hS.2.2 dL_mast_30 hlk
  show va_P D hh_cl _ t.heap
  rw [ht]
  intro k q hk
  have hz : k < 1 := (List.getElem?_eq_some_iff.mp hk).1
  have h0 : k = 0 := by omega
  subst h0
  cases hk
  have h := hP 0 _ rfl
  refine Eq.trans h (congrArg some ?_)
  exact hy_row cJ rfl
set_option maxHeartbeats 4000000 in
set_option maxRecDepth 100000 in
theorem hy_handset_1 (l : Launch) (hfl : l.stackTraces = false) (D : va_G) (K : Nat → ClassId) (ad : Nat → Nat) (s1 s2 o : Nat) (p0 p1 p2 p3 : Int32) (hvd : ¬ hv_handset p0 p1 p2 p3) : hy_K1 l D K ad s1 s2 yL_handset (hy_wm yL_handset cL_handset 7 [(0, 14, 17, 13), (0, 14, 21, 15)]) { frames := 8, cells := 1, slots := 6, locals := 129 } [.ref (ad 0), .int p0, .int p1, .int p2, .int p3, .ref o] := by
  refine hy_K1_of (by decide) (Nat.le_of_ble_eq_true rfl) ?_
  intro p e s m args below meth c ls A C0 h9 htab hV hZ hp hl
  obtain ⟨hx, hb, hr9, hml, hown, hts, hK, hlk, hA⟩ := id C0
  have hl : lv_has ls 7 [(0, .ref (ad 0)), (1, .int p0), (2, .int p1), (3, .int p2), (4, .int p3), (5, .ref o)] := hl
  refine lv_aload hx hb dL_handset_0 (lv_at hl 5 rfl) ?_
  refine lv_iconst (v := 0) hx hb dL_handset_2 (by decide) ?_
  refine lv_aload_n hx hb dL_handset_3 rfl (lv_at hl 0 rfl) ?_
  refine lv_iload_n hx hb dL_handset_4 rfl (lv_at hl 1 rfl) ?_
  refine lv_iload_n hx hb dL_handset_5 rfl (lv_at hl 2 rfl) ?_
  refine lv_iload_n hx hb dL_handset_6 rfl (lv_at hl 3 rfl) ?_
  refine lv_iload hx hb dL_handset_7 (lv_at hl 4 rfl) ?_
  refine hy_cx C0 h9 hV hZ hp (As := [.int p0, .int p1, .int p2, .int p3]) (rest := [.int 0, .ref o]) (n := 4) (hx_X7_handset l hfl D K ad s1 s2 p0 p1 p2 p3 hvd) (hy_gx hy_4 (List.mem_append_right _ hy_5) (List.mem_append_right _ hy_6) hm_340) ⟨rfl, rfl⟩ (by decide +kernel) ⟨Nat.le_of_ble_eq_true rfl, Nat.le_of_ble_eq_true rfl⟩ ⟨Nat.le_of_ble_eq_true rfl, Nat.le_of_ble_eq_true rfl⟩ hl.1 rfl rfl (Nat.le_of_ble_eq_true rfl) dL_handset_9 _ _ htab (by decide) (by decide) (List.mem_append_right _ hy_0) (va_Nw.use rfl hV.1) (fun q H locs hS => ?_)
  show W p l e _ s m args below meth c H locs 1 6 _ (F0 m 17 ls [.ref q])
  refine lv_astore (lv' := [(6, .ref q), (0, .ref (ad 0)), (1, .int p0), (2, .int p1), (3, .int p2), (4, .int p3), (5, .ref o)]) hx hb dL_handset_17 hl (by decide) rfl (fun ls hl => ?_)
  refine lv_iconst (v := 1) hx hb dL_handset_19 (by decide) ?_
  exact W.iret hx hb hr9 (fun t ht hW => ⟨⟨1, (), rfl, rfl, trivial⟩, hS.F ht⟩) hS.2.2 dL_handset_20 hlk
set_option maxHeartbeats 4000000 in
set_option maxRecDepth 100000 in
theorem hy_handset_0 (l : Launch) (D : va_G) (K : Nat → ClassId) (ad : Nat → Nat) (o : Nat) (cJ : ClassId) (p0 p1 p2 p3 : Int32) (hvd : hv_handset p0 p1 p2 p3) : hy_K0 l D K ad o cJ yL_handset (hy_wm yL_handset cL_handset 7 [(0, 14, 17, 13), (0, 14, 21, 15)]) { frames := 2, cells := 0, slots := 0, locals := 47 } [.ref (ad 0), .int p0, .int p1, .int p2, .int p3, .ref o] 0 := by
  refine hy_K0_of (by decide) (Nat.le_of_ble_eq_true rfl) ?_
  intro p e s m args below meth c ls A C0 h9 hJ hP hD hl
  obtain ⟨hx, hb, hr9, hml, hown, hts, hK, hlk, hA⟩ := id C0
  have hl : lv_has ls 7 [(0, .ref (ad 0)), (1, .int p0), (2, .int p1), (3, .int p2), (4, .int p3), (5, .ref o)] := hl
  refine lv_aload hx hb dL_handset_0 (lv_at hl 5 rfl) ?_
  refine lv_iconst (v := 0) hx hb dL_handset_2 (by decide) ?_
  refine lv_aload_n hx hb dL_handset_3 rfl (lv_at hl 0 rfl) ?_
  refine lv_iload_n hx hb dL_handset_4 rfl (lv_at hl 1 rfl) ?_
  refine lv_iload_n hx hb dL_handset_5 rfl (lv_at hl 2 rfl) ?_
  refine lv_iload_n hx hb dL_handset_6 rfl (lv_at hl 3 rfl) ?_
  refine lv_iload hx hb dL_handset_7 (lv_at hl 4 rfl) ?_
  refine hy_ch C0 h9 hP hD va_S.rf (As := [.int p0, .int p1, .int p2, .int p3]) (rest := [.int 0, .ref o]) (n := 4) (hk_X7_handset l D K ad hn_T0 p0 p1 p2 p3 hvd.1.1 hvd.1.2 hvd.2.1.1 hvd.2.1.2 hvd.2.2.1.1 hvd.2.2.1.2 hvd.2.2.2.1 hvd.2.2.2.2 (by decide)) (hy_gh hy_4 (List.mem_append_right _ hy_5) (List.mem_append_right _ hy_6) hm_340) ⟨rfl, rfl⟩ (by decide +kernel) ⟨Nat.le_of_ble_eq_true rfl, Nat.le_of_ble_eq_true rfl⟩ ⟨Nat.zero_le _, Nat.zero_le _⟩ hl.1 rfl rfl (Nat.le_of_ble_eq_true rfl) dL_handset_9 (fun q v1 H locs hv hP hS => ?_)
  have eq : q = 0 := by
    rw [he_handset hv.1, hh_T_r5 hv.2 0]
    rfl
  subst eq
  refine lv_i2l (v := 0) hx hb dL_handset_12 (by decide) ?_
  refine va_last (D := D) (cl := hh_cl) (tys := [(cJ, .long)]) (ws := [(o, .inl (cJ, 1, .inr (.inl (fun _ => 0))))]) (f := fun _ => 0) hx hb hJ hP (hr_Dr hD) hS 0 0 rfl rfl (by unfold vp_in; decide) dL_handset_13 (fun H locs hP hD hS => ?_)
  refine lv_goto (tgt := 25) hx hb dL_handset_14 (by decide) ?_
  refine lv_iconst (v := 0) hx hb dL_handset_25 (by decide) ?_
  refine W.iret hx hb hr9 (fun t ht hW => ⟨⟨0, (), rfl, rfl, ?_⟩, hS.F ht⟩) hS.2.2 dL_handset_26 hlk
  show va_P D hh_cl _ t.heap
  rw [ht]
  intro k q hk
  have hz : k < 1 := (List.getElem?_eq_some_iff.mp hk).1
  have h0 : k = 0 := by omega
  subst h0
  cases hk
  have h := hP 0 _ rfl
  refine Eq.trans h (congrArg some ?_)
  exact hy_row cJ rfl
set_option maxHeartbeats 4000000 in
set_option maxRecDepth 100000 in
theorem hy_pass_1 (l : Launch) (hfl : l.stackTraces = false) (D : va_G) (K : Nat → ClassId) (ad : Nat → Nat) (s1 s2 o : Nat) (p0 : Int32) (hvd : ¬ hv_pass p0) : hy_K1 l D K ad s1 s2 yL_pass (hy_wm yL_pass cL_pass 4 [(0, 9, 12, 13)]) { frames := 8, cells := 1, slots := 6, locals := 127 } [.ref (ad 0), .int p0, .ref o] := by
  refine hy_K1_of (by decide) (Nat.le_of_ble_eq_true rfl) ?_
  intro p e s m args below meth c ls A C0 h9 htab hV hZ hp hl
  obtain ⟨hx, hb, hr9, hml, hown, hts, hK, hlk, hA⟩ := id C0
  have hl : lv_has ls 4 [(0, .ref (ad 0)), (1, .int p0), (2, .ref o)] := hl
  refine lv_aload_n hx hb dL_pass_0 rfl (lv_at hl 2 rfl) ?_
  refine lv_iconst (v := 0) hx hb dL_pass_1 (by decide) ?_
  refine lv_aload_n hx hb dL_pass_2 rfl (lv_at hl 0 rfl) ?_
  refine lv_iload_n hx hb dL_pass_3 rfl (lv_at hl 1 rfl) ?_
  refine hy_cx C0 h9 hV hZ hp (As := [.int p0]) (rest := [.int 0, .ref o]) (n := 1) (hx_X7_pass l hfl D K ad s1 s2 p0 hvd) (hy_gx hy_32 (List.mem_append_right _ hy_33) (List.mem_append_right _ hy_34) hm_390) ⟨rfl, rfl⟩ (by decide +kernel) ⟨Nat.le_of_ble_eq_true rfl, Nat.le_of_ble_eq_true rfl⟩ ⟨Nat.le_of_ble_eq_true rfl, Nat.le_of_ble_eq_true rfl⟩ hl.1 rfl rfl (Nat.le_of_ble_eq_true rfl) dL_pass_4 _ _ htab (by decide) (by decide) (List.mem_append_right _ hy_0) (va_Nw.use rfl hV.1) (fun q H locs hS => ?_)
  show W p l e _ s m args below meth c H locs 1 6 _ (F0 m 12 ls [.ref q])
  refine lv_astore_n (lv' := [(3, .ref q), (0, .ref (ad 0)), (1, .int p0), (2, .ref o)]) hx hb dL_pass_12 rfl hl (by decide) rfl (fun ls hl => ?_)
  refine lv_iconst (v := 1) hx hb dL_pass_13 (by decide) ?_
  exact W.iret hx hb hr9 (fun t ht hW => ⟨⟨1, (), rfl, rfl, trivial⟩, hS.F ht⟩) hS.2.2 dL_pass_14 hlk
set_option maxHeartbeats 4000000 in
set_option maxRecDepth 100000 in
theorem hy_pass_0 (l : Launch) (D : va_G) (K : Nat → ClassId) (ad : Nat → Nat) (o : Nat) (cJ : ClassId) (p0 : Int32) (hvd : hv_pass p0) : hy_K0 l D K ad o cJ yL_pass (hy_wm yL_pass cL_pass 4 [(0, 9, 12, 13)]) { frames := 5, cells := 0, slots := 0, locals := 118 } [.ref (ad 0), .int p0, .ref o] 0 := by
  refine hy_K0_of (by decide) (Nat.le_of_ble_eq_true rfl) ?_
  intro p e s m args below meth c ls A C0 h9 hJ hP hD hl
  obtain ⟨hx, hb, hr9, hml, hown, hts, hK, hlk, hA⟩ := id C0
  have hl : lv_has ls 4 [(0, .ref (ad 0)), (1, .int p0), (2, .ref o)] := hl
  refine lv_aload_n hx hb dL_pass_0 rfl (lv_at hl 2 rfl) ?_
  refine lv_iconst (v := 0) hx hb dL_pass_1 (by decide) ?_
  refine lv_aload_n hx hb dL_pass_2 rfl (lv_at hl 0 rfl) ?_
  refine lv_iload_n hx hb dL_pass_3 rfl (lv_at hl 1 rfl) ?_
  refine hy_ch C0 h9 hP hD va_S.rf (As := [.int p0]) (rest := [.int 0, .ref o]) (n := 1) (hk_X7_pass l D K ad hn_T0 p0 hvd.1 hvd.2) (hy_gh hy_32 (List.mem_append_right _ hy_33) (List.mem_append_right _ hy_34) hm_390) ⟨rfl, rfl⟩ (by decide +kernel) ⟨Nat.le_of_ble_eq_true rfl, Nat.le_of_ble_eq_true rfl⟩ ⟨Nat.zero_le _, Nat.zero_le _⟩ hl.1 rfl rfl (Nat.le_of_ble_eq_true rfl) dL_pass_4 (fun q v1 H locs hv hP hS => ?_)
  have eq : q = 0 := by
    rw [he_pass hv.1, he_calls (hh_T_r6 hn_T0 0), he_calls (hh_T_r6 hv.2 0)]
    rfl
  subst eq
  refine lv_i2l (v := 0) hx hb dL_pass_7 (by decide) ?_
  refine va_last (D := D) (cl := hh_cl) (tys := [(cJ, .long)]) (ws := [(o, .inl (cJ, 1, .inr (.inl (fun _ => 0))))]) (f := fun _ => 0) hx hb hJ hP (hr_Dr hD) hS 0 0 rfl rfl (by unfold vp_in; decide) dL_pass_8 (fun H locs hP hD hS => ?_)
  refine lv_goto (tgt := 15) hx hb dL_pass_9 (by decide) ?_
  refine lv_iconst (v := 0) hx hb dL_pass_15 (by decide) ?_
  refine W.iret hx hb hr9 (fun t ht hW => ⟨⟨0, (), rfl, rfl, ?_⟩, hS.F ht⟩) hS.2.2 dL_pass_16 hlk
  show va_P D hh_cl _ t.heap
  rw [ht]
  intro k q hk
  have hz : k < 1 := (List.getElem?_eq_some_iff.mp hk).1
  have h0 : k = 0 := by omega
  subst h0
  cases hk
  have h := hP 0 _ rfl
  refine Eq.trans h (congrArg some ?_)
  exact hy_row cJ rfl
set_option maxHeartbeats 4000000 in
set_option maxRecDepth 100000 in
theorem hy_best_1 (l : Launch) (hfl : l.stackTraces = false) (D : va_G) (K : Nat → ClassId) (ad : Nat → Nat) (s1 s2 o : Nat) (p0 : Int32) (hvd : ¬ hv_best p0) : hy_K1 l D K ad s1 s2 yL_best (hy_wm yL_best cL_best 4 [(0, 9, 12, 13)]) { frames := 8, cells := 1, slots := 6, locals := 125 } [.ref (ad 0), .int p0, .ref o] := by
  refine hy_K1_of (by decide) (Nat.le_of_ble_eq_true rfl) ?_
  intro p e s m args below meth c ls A C0 h9 htab hV hZ hp hl
  obtain ⟨hx, hb, hr9, hml, hown, hts, hK, hlk, hA⟩ := id C0
  have hl : lv_has ls 4 [(0, .ref (ad 0)), (1, .int p0), (2, .ref o)] := hl
  refine lv_aload_n hx hb dL_best_0 rfl (lv_at hl 2 rfl) ?_
  refine lv_iconst (v := 0) hx hb dL_best_1 (by decide) ?_
  refine lv_aload_n hx hb dL_best_2 rfl (lv_at hl 0 rfl) ?_
  refine lv_iload_n hx hb dL_best_3 rfl (lv_at hl 1 rfl) ?_
  refine hy_cx C0 h9 hV hZ hp (As := [.int p0]) (rest := [.int 0, .ref o]) (n := 1) (hx_X7_best l hfl D K ad s1 s2 p0 hvd) (hy_gx hy_36 (List.mem_append_left _ (hx_l hm_482)) (List.mem_append_left _ (hx_l hm_483)) hm_399) ⟨rfl, rfl⟩ (by decide +kernel) ⟨Nat.le_of_ble_eq_true rfl, Nat.le_of_ble_eq_true rfl⟩ ⟨Nat.le_of_ble_eq_true rfl, Nat.le_of_ble_eq_true rfl⟩ hl.1 rfl rfl (Nat.le_of_ble_eq_true rfl) dL_best_4 _ _ htab (by decide) (by decide) (List.mem_append_right _ hy_0) (va_Nw.use rfl hV.1) (fun q H locs hS => ?_)
  show W p l e _ s m args below meth c H locs 1 6 _ (F0 m 12 ls [.ref q])
  refine lv_astore_n (lv' := [(3, .ref q), (0, .ref (ad 0)), (1, .int p0), (2, .ref o)]) hx hb dL_best_12 rfl hl (by decide) rfl (fun ls hl => ?_)
  refine lv_iconst (v := 1) hx hb dL_best_13 (by decide) ?_
  exact W.iret hx hb hr9 (fun t ht hW => ⟨⟨1, (), rfl, rfl, trivial⟩, hS.F ht⟩) hS.2.2 dL_best_14 hlk
set_option maxHeartbeats 4000000 in
set_option maxRecDepth 100000 in
theorem hy_best_0 (l : Launch) (D : va_G) (K : Nat → ClassId) (ad : Nat → Nat) (o : Nat) (cJ : ClassId) (p0 : Int32) (hvd : hv_best p0) : hy_K0 l D K ad o cJ yL_best (hy_wm yL_best cL_best 4 [(0, 9, 12, 13)]) { frames := 3, cells := 0, slots := 0, locals := 68 } [.ref (ad 0), .int p0, .ref o] (-1) := by
  refine hy_K0_of (by decide) (Nat.le_of_ble_eq_true rfl) ?_
  intro p e s m args below meth c ls A C0 h9 hJ hP hD hl
  obtain ⟨hx, hb, hr9, hml, hown, hts, hK, hlk, hA⟩ := id C0
  have hl : lv_has ls 4 [(0, .ref (ad 0)), (1, .int p0), (2, .ref o)] := hl
  refine lv_aload_n hx hb dL_best_0 rfl (lv_at hl 2 rfl) ?_
  refine lv_iconst (v := 0) hx hb dL_best_1 (by decide) ?_
  refine lv_aload_n hx hb dL_best_2 rfl (lv_at hl 0 rfl) ?_
  refine lv_iload_n hx hb dL_best_3 rfl (lv_at hl 1 rfl) ?_
  refine hy_ch C0 h9 hP hD va_S.rf (As := [.int p0]) (rest := [.int 0, .ref o]) (n := 1) (hk_X7_best l D K ad hn_T0 p0 hvd.1 hvd.2) (hy_gh hy_36 (List.mem_append_left _ (hx_l hm_482)) (List.mem_append_left _ (hx_l hm_483)) hm_399) ⟨rfl, rfl⟩ (by decide +kernel) ⟨Nat.le_of_ble_eq_true rfl, Nat.le_of_ble_eq_true rfl⟩ ⟨Nat.zero_le _, Nat.zero_le _⟩ hl.1 rfl rfl (Nat.le_of_ble_eq_true rfl) dL_best_4 (fun q v1 H locs hv hP hS => ?_)
  have eq : q = (-1) := hv.1.trans (he_best p0)
  subst eq
  refine lv_i2l (v := (-1)) hx hb dL_best_7 (by decide) ?_
  refine va_last (D := D) (cl := hh_cl) (tys := [(cJ, .long)]) (ws := [(o, .inl (cJ, 1, .inr (.inl (fun _ => 0))))]) (f := fun _ => 0) hx hb hJ hP (hr_Dr hD) hS 0 0 rfl rfl (by unfold vp_in; decide) dL_best_8 (fun H locs hP hD hS => ?_)
  refine lv_goto (tgt := 15) hx hb dL_best_9 (by decide) ?_
  refine lv_iconst (v := 0) hx hb dL_best_15 (by decide) ?_
  refine W.iret hx hb hr9 (fun t ht hW => ⟨⟨0, (), rfl, rfl, ?_⟩, hS.F ht⟩) hS.2.2 dL_best_16 hlk
  show va_P D hh_cl _ t.heap
  rw [ht]
  intro k q hk
  have hz : k < 1 := (List.getElem?_eq_some_iff.mp hk).1
  have h0 : k = 0 := by omega
  subst h0
  cases hk
  have h := hP 0 _ rfl
  refine Eq.trans h (congrArg some ?_)
  exact hy_row cJ rfl
set_option maxHeartbeats 4000000 in
set_option maxRecDepth 100000 in
theorem hy_many_1 (l : Launch) (hfl : l.stackTraces = false) (D : va_G) (K : Nat → ClassId) (ad : Nat → Nat) (s1 s2 o : Nat) (p0 : Int32) (hvd : ¬ hv_many p0) : hy_K1 l D K ad s1 s2 yL_many (hy_wm yL_many cL_many 4 [(0, 9, 12, 13)]) { frames := 8, cells := 1, slots := 6, locals := 125 } [.ref (ad 0), .int p0, .ref o] := by
  refine hy_K1_of (by decide) (Nat.le_of_ble_eq_true rfl) ?_
  intro p e s m args below meth c ls A C0 h9 htab hV hZ hp hl
  obtain ⟨hx, hb, hr9, hml, hown, hts, hK, hlk, hA⟩ := id C0
  have hl : lv_has ls 4 [(0, .ref (ad 0)), (1, .int p0), (2, .ref o)] := hl
  refine lv_aload_n hx hb dL_many_0 rfl (lv_at hl 2 rfl) ?_
  refine lv_iconst (v := 0) hx hb dL_many_1 (by decide) ?_
  refine lv_aload_n hx hb dL_many_2 rfl (lv_at hl 0 rfl) ?_
  refine lv_iload_n hx hb dL_many_3 rfl (lv_at hl 1 rfl) ?_
  refine hy_cx C0 h9 hV hZ hp (As := [.int p0]) (rest := [.int 0, .ref o]) (n := 1) (hx_X7_many l hfl D K ad s1 s2 p0 hvd) (hy_gx hy_40 (List.mem_append_left _ (hx_l hm_449)) (List.mem_append_left _ (hx_l hm_450)) hm_413) ⟨rfl, rfl⟩ (by decide +kernel) ⟨Nat.le_of_ble_eq_true rfl, Nat.le_of_ble_eq_true rfl⟩ ⟨Nat.le_of_ble_eq_true rfl, Nat.le_of_ble_eq_true rfl⟩ hl.1 rfl rfl (Nat.le_of_ble_eq_true rfl) dL_many_4 _ _ htab (by decide) (by decide) (List.mem_append_right _ hy_0) (va_Nw.use rfl hV.1) (fun q H locs hS => ?_)
  show W p l e _ s m args below meth c H locs 1 6 _ (F0 m 12 ls [.ref q])
  refine lv_astore_n (lv' := [(3, .ref q), (0, .ref (ad 0)), (1, .int p0), (2, .ref o)]) hx hb dL_many_12 rfl hl (by decide) rfl (fun ls hl => ?_)
  refine lv_iconst (v := 1) hx hb dL_many_13 (by decide) ?_
  exact W.iret hx hb hr9 (fun t ht hW => ⟨⟨1, (), rfl, rfl, trivial⟩, hS.F ht⟩) hS.2.2 dL_many_14 hlk
set_option maxHeartbeats 4000000 in
set_option maxRecDepth 100000 in
theorem hy_many_0 (l : Launch) (D : va_G) (K : Nat → ClassId) (ad : Nat → Nat) (o : Nat) (cJ : ClassId) (p0 : Int32) (hvd : hv_many p0) : hy_K0 l D K ad o cJ yL_many (hy_wm yL_many cL_many 4 [(0, 9, 12, 13)]) { frames := 4, cells := 0, slots := 0, locals := 91 } [.ref (ad 0), .int p0, .ref o] 0 := by
  refine hy_K0_of (by decide) (Nat.le_of_ble_eq_true rfl) ?_
  intro p e s m args below meth c ls A C0 h9 hJ hP hD hl
  obtain ⟨hx, hb, hr9, hml, hown, hts, hK, hlk, hA⟩ := id C0
  have hl : lv_has ls 4 [(0, .ref (ad 0)), (1, .int p0), (2, .ref o)] := hl
  refine lv_aload_n hx hb dL_many_0 rfl (lv_at hl 2 rfl) ?_
  refine lv_iconst (v := 0) hx hb dL_many_1 (by decide) ?_
  refine lv_aload_n hx hb dL_many_2 rfl (lv_at hl 0 rfl) ?_
  refine lv_iload_n hx hb dL_many_3 rfl (lv_at hl 1 rfl) ?_
  refine hy_ch C0 h9 hP hD va_S.rf (As := [.int p0]) (rest := [.int 0, .ref o]) (n := 1) (hk_X7_many l D K ad hn_T0 p0 hvd.1 hvd.2) (hy_gh hy_40 (List.mem_append_left _ (hx_l hm_449)) (List.mem_append_left _ (hx_l hm_450)) hm_413) ⟨rfl, rfl⟩ (by decide +kernel) ⟨Nat.le_of_ble_eq_true rfl, Nat.le_of_ble_eq_true rfl⟩ ⟨Nat.zero_le _, Nat.zero_le _⟩ hl.1 rfl rfl (Nat.le_of_ble_eq_true rfl) dL_many_4 (fun q v1 H locs hv hP hS => ?_)
  have eq : q = 0 := hv.1.trans (he_many p0)
  subst eq
  refine lv_i2l (v := 0) hx hb dL_many_7 (by decide) ?_
  refine va_last (D := D) (cl := hh_cl) (tys := [(cJ, .long)]) (ws := [(o, .inl (cJ, 1, .inr (.inl (fun _ => 0))))]) (f := fun _ => 0) hx hb hJ hP (hr_Dr hD) hS 0 0 rfl rfl (by unfold vp_in; decide) dL_many_8 (fun H locs hP hD hS => ?_)
  refine lv_goto (tgt := 15) hx hb dL_many_9 (by decide) ?_
  refine lv_iconst (v := 0) hx hb dL_many_15 (by decide) ?_
  refine W.iret hx hb hr9 (fun t ht hW => ⟨⟨0, (), rfl, rfl, ?_⟩, hS.F ht⟩) hS.2.2 dL_many_16 hlk
  show va_P D hh_cl _ t.heap
  rw [ht]
  intro k q hk
  have hz : k < 1 := (List.getElem?_eq_some_iff.mp hk).1
  have h0 : k = 0 := by omega
  subst h0
  cases hk
  have h := hP 0 _ rfl
  refine Eq.trans h (congrArg some ?_)
  exact hy_row cJ rfl
set_option maxHeartbeats 4000000 in
set_option maxRecDepth 100000 in
theorem hy_bestPlace_1 (l : Launch) (hfl : l.stackTraces = false) (D : va_G) (K : Nat → ClassId) (ad : Nat → Nat) (s1 s2 o : Nat) (p0 p1 : Int32) (hvd : ¬ hv_bestPlace p0 p1) : hy_K1 l D K ad s1 s2 yL_bestPlace (hy_wm yL_bestPlace cL_bestPlace 5 [(0, 10, 13, 13)]) { frames := 8, cells := 1, slots := 6, locals := 126 } [.ref (ad 0), .int p0, .int p1, .ref o] := by
  refine hy_K1_of (by decide) (Nat.le_of_ble_eq_true rfl) ?_
  intro p e s m args below meth c ls A C0 h9 htab hV hZ hp hl
  obtain ⟨hx, hb, hr9, hml, hown, hts, hK, hlk, hA⟩ := id C0
  have hl : lv_has ls 5 [(0, .ref (ad 0)), (1, .int p0), (2, .int p1), (3, .ref o)] := hl
  refine lv_aload_n hx hb dL_bestPlace_0 rfl (lv_at hl 3 rfl) ?_
  refine lv_iconst (v := 0) hx hb dL_bestPlace_1 (by decide) ?_
  refine lv_aload_n hx hb dL_bestPlace_2 rfl (lv_at hl 0 rfl) ?_
  refine lv_iload_n hx hb dL_bestPlace_3 rfl (lv_at hl 1 rfl) ?_
  refine lv_iload_n hx hb dL_bestPlace_4 rfl (lv_at hl 2 rfl) ?_
  refine hy_cx C0 h9 hV hZ hp (As := [.int p0, .int p1]) (rest := [.int 0, .ref o]) (n := 2) (hx_X7_bestPlace l hfl D K ad s1 s2 p0 p1 hvd) (hy_gx hy_43 (List.mem_append_left _ (hx_l hm_485)) (List.mem_append_left _ (hx_l hm_486)) hm_438) ⟨rfl, rfl⟩ (by decide +kernel) ⟨Nat.le_of_ble_eq_true rfl, Nat.le_of_ble_eq_true rfl⟩ ⟨Nat.le_of_ble_eq_true rfl, Nat.le_of_ble_eq_true rfl⟩ hl.1 rfl rfl (Nat.le_of_ble_eq_true rfl) dL_bestPlace_5 _ _ htab (by decide) (by decide) (List.mem_append_right _ hy_0) (va_Nw.use rfl hV.1) (fun q H locs hS => ?_)
  show W p l e _ s m args below meth c H locs 1 6 _ (F0 m 13 ls [.ref q])
  refine lv_astore (lv' := [(4, .ref q), (0, .ref (ad 0)), (1, .int p0), (2, .int p1), (3, .ref o)]) hx hb dL_bestPlace_13 hl (by decide) rfl (fun ls hl => ?_)
  refine lv_iconst (v := 1) hx hb dL_bestPlace_15 (by decide) ?_
  exact W.iret hx hb hr9 (fun t ht hW => ⟨⟨1, (), rfl, rfl, trivial⟩, hS.F ht⟩) hS.2.2 dL_bestPlace_16 hlk
set_option maxHeartbeats 4000000 in
set_option maxRecDepth 100000 in
theorem hy_bestPlace_0 (l : Launch) (D : va_G) (K : Nat → ClassId) (ad : Nat → Nat) (o : Nat) (cJ : ClassId) (p0 p1 : Int32) (hvd : hv_bestPlace p0 p1) : hy_K0 l D K ad o cJ yL_bestPlace (hy_wm yL_bestPlace cL_bestPlace 5 [(0, 10, 13, 13)]) { frames := 5, cells := 0, slots := 0, locals := 115 } [.ref (ad 0), .int p0, .int p1, .ref o] (hr_bf p0).toInt64 := by
  refine hy_K0_of (by decide) (Nat.le_of_ble_eq_true rfl) ?_
  intro p e s m args below meth c ls A C0 h9 hJ hP hD hl
  obtain ⟨hx, hb, hr9, hml, hown, hts, hK, hlk, hA⟩ := id C0
  have hl : lv_has ls 5 [(0, .ref (ad 0)), (1, .int p0), (2, .int p1), (3, .ref o)] := hl
  refine lv_aload_n hx hb dL_bestPlace_0 rfl (lv_at hl 3 rfl) ?_
  refine lv_iconst (v := 0) hx hb dL_bestPlace_1 (by decide) ?_
  refine lv_aload_n hx hb dL_bestPlace_2 rfl (lv_at hl 0 rfl) ?_
  refine lv_iload_n hx hb dL_bestPlace_3 rfl (lv_at hl 1 rfl) ?_
  refine lv_iload_n hx hb dL_bestPlace_4 rfl (lv_at hl 2 rfl) ?_
  refine hy_ch C0 h9 hP hD va_S.rf (As := [.int p0, .int p1]) (rest := [.int 0, .ref o]) (n := 2) (hk_X7_bestPlace l D K ad hn_T0 p0 p1 hvd.1.1 hvd.1.2 hvd.2.1 hvd.2.2) (hy_gh hy_43 (List.mem_append_left _ (hx_l hm_485)) (List.mem_append_left _ (hx_l hm_486)) hm_438) ⟨rfl, rfl⟩ (by decide +kernel) ⟨Nat.le_of_ble_eq_true rfl, Nat.le_of_ble_eq_true rfl⟩ ⟨Nat.zero_le _, Nat.zero_le _⟩ hl.1 rfl rfl (Nat.le_of_ble_eq_true rfl) dL_bestPlace_5 (fun q v1 H locs hv hP hS => ?_)
  have eq : q = hr_bf p0 := (congrArg Prod.fst hv.1).trans (he_bestPlace hvd)
  subst eq
  refine lv_i2l hx hb dL_bestPlace_8 rfl ?_
  refine va_last (D := D) (cl := hh_cl) (tys := [(cJ, .long)]) (ws := [(o, .inl (cJ, 1, .inr (.inl (fun _ => 0))))]) (f := fun _ => 0) hx hb hJ hP (hr_Dr hD) hS 0 0 rfl rfl (by unfold vp_in; decide) dL_bestPlace_9 (fun H locs hP hD hS => ?_)
  refine lv_goto (tgt := 17) hx hb dL_bestPlace_10 (by decide) ?_
  refine lv_iconst (v := 0) hx hb dL_bestPlace_17 (by decide) ?_
  refine W.iret hx hb hr9 (fun t ht hW => ⟨⟨0, (), rfl, rfl, ?_⟩, hS.F ht⟩) hS.2.2 dL_bestPlace_18 hlk
  show va_P D hh_cl _ t.heap
  rw [ht]
  intro k q hk
  have hz : k < 1 := (List.getElem?_eq_some_iff.mp hk).1
  have h0 : k = 0 := by omega
  subst h0
  cases hk
  have h := hP 0 _ rfl
  refine Eq.trans h (congrArg some ?_)
  exact hy_row cJ rfl
