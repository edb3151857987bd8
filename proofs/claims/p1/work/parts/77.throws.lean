/-! what the class throws -/
abbrev hx_A : String := "java/lang/IllegalArgumentException"
abbrev hx_B : String := "java/lang/IndexOutOfBoundsException"
abbrev hx_ns : List String := ["java/lang/RuntimeException", "java/lang/Exception"]
def hx_we : List Cond := [.classLink RX7 270 hx_A, .initialized hx_A, .classLink RX7 265 hx_B, .initialized hx_B] ++ ((vx_atS RX7 274 hx_A hx_ns).filter goodWord ++ (vx_atS RX7 269 hx_B hx_ns).filter goodWord)
def hx_wl : List Cond := hh_wa ++ hx_we
abbrev hx_wm (y : MethodName) (cc : ByteArray) (nL : Nat) (ret : Option FieldType) : List Cond := Cond.code y cc nL ret :: hx_wl
theorem hx_good : GoodIn hx_wl hx_wl := fun w hw => ⟨hw, (List.mem_append.mp hw).elim (fun h => (hh_good w h).2) (fun h => good_of_word (List.all_eq_true.mp (by decide +kernel : hx_we.all goodWord = true) w h))⟩
theorem hx_l {w : Cond} (h : w ∈ hh_wa) : w ∈ hx_wl := List.mem_append_left _ h
theorem hx_gS {own : String} {index nL : Nat} {y : MethodName} {bytes : ByteArray} {ret : Option FieldType} (h1 : Cond.methodLink own index y ∈ hh_wa) (h2 : Cond.static y ∈ hh_wa) (h4 : Cond.initialized own ∈ hh_wa) (h5 : Cond.code y bytes nL ret ∈ hh_wa) : GoodIn hx_wl (wsS own index y (hx_wm y bytes nL ret)) := by
  intro w hw
  unfold wsS at hw
  rcases List.mem_append.mp hw with hw | hw
  · simp only [List.mem_cons, List.not_mem_nil, or_false] at hw
    rcases hw with rfl | rfl | rfl
    · exact hx_good _ (hx_l h1)
    · exact hx_good _ (hx_l h2)
    · exact hx_good _ (hx_l h4)
  · rcases List.mem_cons.mp hw with rfl | hw
    · exact hx_good _ (hx_l h5)
    · exact hx_good _ hw
/-- what the tables say, and the two texts; the statics of Throwable -/
def hx_V (s1 s2 : Nat) (U : State) : Prop := va_Nw (.castable hx_A hx_A) U ∧ va_Nw (.castable hx_B hx_B) U ∧ vk_R RX7 272 "a number is not in its range" s1 U ∧ vk_R RX7 267 "there is none with this number" s2 U ∧ va_Nw (.declares (Bundle.initS "java/lang/RuntimeException")) U ∧ va_Nw (.declares (Bundle.initS "java/lang/Exception")) U ∧ va_Nw (.declares (Bundle.initS Bundle.tN)) U
theorem hx_V.warm {s1 s2 : Nat} {s U : State} (hW : s.WarmedH U.vm) (h : hx_V s1 s2 s) : hx_V s1 s2 U := ⟨h.1.warmC hW, h.2.1.warmC hW, h.2.2.1.warm hW, h.2.2.2.1.warm hW, h.2.2.2.2.1.warmD hW, h.2.2.2.2.2.1.warmD hW, h.2.2.2.2.2.2.warmD hW⟩
theorem hx_V.same {s1 s2 : Nat} {u U : State} (e : U.vm = u.vm) (h : hx_V s1 s2 u) : hx_V s1 s2 U := ⟨h.1.same rfl e.symm, h.2.1.same rfl e.symm, h.2.2.1.same e, h.2.2.2.1.same e, h.2.2.2.2.1.same rfl e.symm, h.2.2.2.2.2.1.same rfl e.symm, h.2.2.2.2.2.2.same rfl e.symm⟩
def hx_Z (A : Nat → Prop) (U : State) (H : Heap) : Prop := vx_Zq Bundle.tN "UNASSIGNED_STACK" Bundle.steD A U H ∧ vx_Zq Bundle.tN "SUPPRESSED_SENTINEL" Bundle.listD A U H
theorem hx_Z.moved {A : Nat → Prop} {u U : State} {H : Heap} (hvm : u.vm.Alike U.vm) (h : hx_Z A u H) : hx_Z A U H := ⟨h.1.moved hvm, h.2.moved hvm⟩
theorem hx_Z.kept {A : Nat → Prop} {U : State} {H H1 : Heap} (h : hx_Z A U H) (hq : ∀ a : Nat, a < H.size → ¬ A a → H1[a]? = H[a]?) : hx_Z A U H1 := ⟨h.1.kept hq, h.2.kept hq⟩
theorem hx_Z.narrow {A B : Nat → Prop} {U : State} {H : Heap} (h : hx_Z A U H) (hAB : ∀ q, B q → A q) : hx_Z B U H := ⟨h.1.narrow hAB, h.2.narrow hAB⟩
def hx_Pc (D : va_G) (K : Nat → ClassId) (ad : Nat → Nat) (s1 s2 : Nat) (As : List Value) (v : hh_M) (sz : Nat) : Array Value → State → Prop := va_Pc As (fun U => U.heap.size = sz ∧ va_P D hh_cl (hh_W K ad v) U.heap ∧ va_K D hh_cl (hh_ty K) U ∧ va_D (fun _ => True) (hh_W K ad v) ∧ hx_V s1 s2 U ∧ hx_Z (va_A (hh_W K ad v) sz) U U.heap)
def hx_Q : Array Value → State → Outcome → State → Prop := fun _ _ _ _ => False
def hx_XC (E : String) (A : Nat → Prop) : String → State → State → Prop := vx_X (fun _ : Unit => True) (fun E' _ _ => E' = E) A
def hx_K (l : Launch) (D : va_G) (K : Nat → ClassId) (ad : Nat → Nat) (s1 s2 : Nat) (y : MethodName) (ws : List Cond) (rm : Room) (As : List Value) (v : hh_M) (E : String) : Prop := ∀ sz : Nat, vx_Met l y ws rm (hx_Pc D K ad s1 s2 As v sz) hx_Q (hx_XC E (va_A (hh_W K ad v) sz)) 1 6 (va_A (hh_W K ad v) sz)
theorem hx_blind {D : va_G} {K : Nat → ClassId} {ad : Nat → Nat} {s1 s2 : Nat} {As : List Value} {v : hh_M} {sz : Nat} : FrameBlind (hx_Pc D K ad s1 s2 As v sz) := by
  intro a U g mk q
  obtain ⟨q0, q1, qP, qK, qD, qV, qZ⟩ := q
  exact ⟨q0, q1, qP, va_K.moved (u := U) (U := U.calling g mk a) (Vm.Alike.refl U.vm) qK, qD, qV.same rfl, qZ.moved (u := U) (U := U.calling g mk a) (Vm.Alike.refl U.vm)⟩
section HXM
variable {l : Launch} {D : va_G} {K : Nat → ClassId} {ad : Nat → Nat} {s1 s2 : Nat} {y : MethodName} {cc : ByteArray} {nL : Nat} {ret : Option FieldType} {rm : Room} {As : List Value} {v : hh_M} {E : String}
theorem hx_K_of (hy : plainName y.cls = true) (hn : (lg_sl As).length ≤ nL)
    (body : ∀ (p : Program) (e : Env) (s : State) (m : MethodId) (args : Array Value) (below : List Frame) (meth : Method) (c : Code) (ls : Array Slot) (A : Nat → Prop), hh_C p s m args meth c D K cc nL ret y.cls A → (∀ w ∈ hx_we, w.before args s = true) → (∀ x ∈ c.exceptionTable.toList, False) → hx_V s1 s2 s → hx_Z A s s.heap → hh_H D K ad A s.heap v s.heap [] → lv_has ls nL (lv_args 0 As) → W p l e rm s m args below meth c s.heap [] 0 0 (vx_MQ below hx_Q (hx_XC E A) args s 1 6 A) (F0 m 0 ls [])) : hx_K l D K ad s1 s2 y (hx_wm y cc nL ret) rm As v E := by
  intro sz
  refine vx_ofW (cc := cc) (maxL := nL) (ret := ret) hy rfl ?_
  intro p e s m args below meth c s₁ B hml ht hv
  obtain ⟨rfl, hsz, hP, hK, hD0, hV, hZ⟩ := hv
  have hts := atoms_spec (ws := hx_wm y cc nL ret) B.pre
  subst hsz
  have hl := lv_entry As (n := nL) hn
  rw [lg_entry_eq]
  exact body p e s m _ below meth c _ _ ⟨B.exec, B.bytes, B.returns, hml, findClass_of_methodNamed B.named, fun w hw => hts w (List.mem_cons_of_mem _ (List.mem_append_left _ hw)), hK, B.notSynchronized, fun q h => Or.inr h⟩ (fun w hw => hts w (List.mem_cons_of_mem _ (List.mem_append_right _ hw))) ht hV hZ ⟨hP, hD0.self, va_S.rf⟩ hl
end HXM
section HXC
variable {p : Program} {l : Launch} {e : Env} {R : Room} {s : State} {m : MethodId} {args : Array Value} {below : List Frame} {meth : Method} {c : Code} {H : Heap} {locs : List Loc} {cells slots mc ms : Nat} {Q : State → Prop}
variable {cc : ByteArray} {pc nL : Nat} {ls : Array Slot} {rest st0 : List Value} {D : va_G} {K : Nat → ClassId} {ad : Nat → Nat} {A : Nat → Prop} {v : hh_M} {ret : Option FieldType} {own : String} {s1 s2 : Nat} {E : String}
variable {index maxL n : Nat} {y : MethodName} {bytes : ByteArray} {ret' : Option FieldType} {rm : Room} {As : List Value}
/-- a call that never returns -/
theorem hx_thrown {AX A0 : Nat → Prop} {H0 : Heap} {free : Addr → Prop} {a : Array Value} (hr : vx_Run p l e R s m args below meth c H locs cells slots mc ms (F0 m pc ls st0) rest (hx_Q a) (hx_XC E AX) free) (hS : va_S A0 H0 H locs) (hA : ∀ q, q < H.size → AX q → A0 q) (hf : ∀ q, free q → A0 q)
    (kx : ∀ (ce : Cell) (q9 : Addr) (t : State) (H1 : Heap) (locs1 : List Loc), t.heap = H1 → s.vm.Alike t.vm → H.size ≤ H1.size → (∀ q : Nat, q < H.size → ¬ AX q → H1[q]? = H[q]?) → va_S A0 H0 H1 locs1 → H1[q9]? = some ce → ce.vm = .none → s.vm.findClass E = some ce.cls → vx_W p l e R s m args below meth c H1 locs1 (cells + mc) (slots + ms) Q (F0 m pc ls rest) q9) : W p l e R s m args below meth c H locs cells slots Q (F0 m pc ls st0) := by
  intro T hT X
  rcases hr T hT X with ⟨v, st₀, t, T', L, h0, X', hL, e1, e2, hF, st⟩ | ⟨q, st₀, t, T', L, E', ce, h0, X', hL, e1, e2, ⟨u, hp, hb, hF⟩, hce, hcv, hcl, st⟩
  · exact hF.elim
  · subst hb
    obtain ⟨k1, k2, k3⟩ := vx_keep h0 e1 hS hA hf hL hF
    obtain ⟨t2, a1, b1⟩ := kx ce q t T'.heap (locs ++ L) e1.symm (by rw [← e2]; exact X'.warmed.alike) k1 k2 k3 (by rw [e1]; exact hce) hcv hcl T' rfl X'
    exact ⟨t2, st.trans a1, b1⟩
/-- a static method throws, and nothing here catches it -/
theorem hx_cS (C0 : hh_C p s m args meth c D K cc nL ret own A) (hxe : ∀ w ∈ hx_we, w.before args s = true) (ht : ∀ x ∈ c.exceptionTable.toList, False) (hV : hx_V s1 s2 s) (hZ : hx_Z A s s.heap) (hp : hh_H D K ad A s.heap v H locs) (M : hx_K l D K ad s1 s2 y (hx_wm y bytes maxL ret') rm As v E) (g : GoodIn hx_wl (wsS own index y (hx_wm y bytes maxL ret'))) (hrm : rm.cells = 1 ∧ rm.slots = 6)
    (hd : y.cls = own ∧ y.cls ≠ "java/lang/invoke/MethodHandle" ∧ y.cls ≠ "java/lang/invoke/VarHandle" ∧ (parseMethodDescriptor y.desc).map (fun d => d.parameters.length) = some n) (hR : rm.frames + 1 ≤ R.frames ∧ 8 + (maxL + 11) + rm.locals ≤ R.locals) (hf : 0 + 1 ≤ R.cells ∧ 0 + 6 ≤ R.slots) (hsz : ls.size = nL) (hn : As.length = n) (hst0 : st0 = As.reverse ++ rest) (hst : (rest.map fun v => v.category).sum ≤ 8) (hdg : decode cc pc = .ok (.invokestatic index, 3)) : W p l e R s m args below meth c H locs 0 0 (vx_MQ below hx_Q (hx_XC E A) args s 1 6 A) (F0 m pc ls st0) := by
  subst hst0
  obtain ⟨hx, hb, hr, hml, hown, hts, hK, hlk, hA⟩ := C0
  have hts2 : ∀ w ∈ hx_wl, w.before args s = true := fun w hw => (List.mem_append.mp hw).elim (hts w) (hxe w)
  have hF := hh_free hp hA
  refine hx_thrown (vx_runS (As := As) (rest := rest) ⟨hx, hb, hml, hown, hts2⟩ (M H.size) (cwS n hts2 g rfl hrm.1 hrm.2 hd hR) ⟨hx_blind, fun U hU hW => ⟨rfl, congrArg Array.size hU, by rw [hU]; exact hp.1, va_K.moved hW.alike hK, hp.2.1.weaken (fun _ _ _ _ => trivial), hV.warm hW, by rw [hU]; exact ((hZ.kept hp.2.2.2.1).moved hW.alike).narrow hF⟩⟩ rfl hn hsz rfl (lv_room hst) hdg ⟨hf.1, hf.2⟩) hp.2.2 (fun q _ h => hF q h) hF (fun ce q9 t H1 locs1 ht1 hvm hz hk hS1 hce hcv hcl => ?_)
  exact vx_out (fun x hx => (ht x hx).elim) hlk hce hcv hcl (fun t2 ht2 hal => ⟨(), trivial, rfl, hS1.F ht2⟩) hS1.2.2 (by decide) (by decide)
end HXC
set_option maxHeartbeats 4000000 in
set_option maxRecDepth 100000 in
theorem hx_X7_demandNumber (l : Launch) (hfl : l.stackTraces = false) (D : va_G) (K : Nat → ClassId) (ad : Nat → Nat) (s1 s2 : Nat) (v : hh_M) (x y : Int32) (hbad : ¬ (0 ≤ x ∧ x < y)) : hx_K l D K ad s1 s2 yX7_demandNumber (hx_wm yX7_demandNumber cX7_demandNumber 2 none) { frames := 6, cells := 1, slots := 6, locals := 82 } [.int x, .int y] v hx_B := by
  refine hx_K_of (by decide) (Nat.le_of_ble_eq_true rfl) ?_
  intro p e s m args below meth c ls A C0 hxe ht hV hZ hp hl
  obtain ⟨hx, hb, hr9, hml, hown, hts, hK, hlk, hA⟩ := id C0
  have hl : lv_has ls 2 [(0, .int x), (1, .int y)] := hl
  have K9 : W p l e ({ frames := 6, cells := 1, slots := 6, locals := 82 } : Room) s m args below meth c s.heap [] 0 0 (vx_MQ below hx_Q (hx_XC hx_B A) args s 1 6 A) (F0 m 9 ls []) := by
    refine vx_throwSW (cls := hx_B) (names := hx_ns) hx hb hfl hown (by decide +kernel) (by decide +kernel) (hxe _ (List.mem_append_left _ (List.mem_of_getElem? (i := 2) rfl))) (hxe _ (List.mem_append_left _ (List.mem_of_getElem? (i := 3) rfl))) hV.2.2.2.1 (vx_hat (B := [.castable hx_B hx_B, .declares (Bundle.initS "java/lang/RuntimeException"), .declares (Bundle.initS "java/lang/Exception"), .declares (Bundle.initS Bundle.tN)]) (fun w hw => hxe w (List.mem_append_right _ (List.mem_append_right _ hw))) (by decide +kernel) (vx_c (va_Nw.use rfl hV.2.1) (vx_c (va_Nw.use rfl hV.2.2.2.2.1) (vx_c (va_Nw.use rfl hV.2.2.2.2.2.1) (vx_c (va_Nw.use rfl hV.2.2.2.2.2.2) vx_n))))) (fun w hw => List.all_eq_true.mp (by decide +kernel : (Cond.classLink RX7 265 hx_B :: Cond.initialized hx_B :: vx_atS RX7 269 hx_B hx_ns).all vx_ot = true) w hw) hZ.1 hZ.2 hp.2.2 (hl.1.trans hml.symm) dX7_demandNumber_9 dX7_demandNumber_12 dX7_demandNumber_13 dX7_demandNumber_16 dX7_demandNumber_19 (fun x hx => (ht x hx).elim) (by decide) (by decide) (by decide) (by decide) hlk (fun t hal hsz hq => ⟨(), trivial, rfl, ⟨hsz, fun q h1 h2 => hq q h1⟩⟩) (fun z hz => by cases hz) (by decide) (by decide)
  refine lv_iload_n hx hb dX7_demandNumber_0 rfl (lv_at hl 0 rfl) ?_
  refine lv_if_lt (tgt := 9) hx hb dX7_demandNumber_1 (by decide) (fun _ => K9) (fun c1 => ?_)
  refine lv_iload_n hx hb dX7_demandNumber_4 rfl (lv_at hl 0 rfl) ?_
  refine lv_iload_n hx hb dX7_demandNumber_5 rfl (lv_at hl 1 rfl) ?_
  exact lv_icmp_lt (tgt := 20) hx hb dX7_demandNumber_6 (by decide) (fun c2 => absurd ⟨Int32.not_lt.mp c1, c2⟩ hbad) (fun _ => K9)
set_option maxHeartbeats 4000000 in
set_option maxRecDepth 100000 in
theorem hx_X7_demandWithin (l : Launch) (hfl : l.stackTraces = false) (D : va_G) (K : Nat → ClassId) (ad : Nat → Nat) (s1 s2 : Nat) (v : hh_M) (x lo hi : Int32) (hbad : ¬ (lo ≤ x ∧ x ≤ hi)) : hx_K l D K ad s1 s2 yX7_demandWithin (hx_wm yX7_demandWithin cX7_demandWithin 3 none) { frames := 6, cells := 1, slots := 6, locals := 82 } [.int x, .int lo, .int hi] v hx_A := by
  refine hx_K_of (by decide) (Nat.le_of_ble_eq_true rfl) ?_
  intro p e s m args below meth c ls A C0 hxe ht hV hZ hp hl
  obtain ⟨hx, hb, hr9, hml, hown, hts, hK, hlk, hA⟩ := id C0
  have hl : lv_has ls 3 [(0, .int x), (1, .int lo), (2, .int hi)] := hl
  have K9 : W p l e ({ frames := 6, cells := 1, slots := 6, locals := 82 } : Room) s m args below meth c s.heap [] 0 0 (vx_MQ below hx_Q (hx_XC hx_A A) args s 1 6 A) (F0 m 10 ls []) := by
    refine vx_throwSW (cls := hx_A) (names := hx_ns) hx hb hfl hown (by decide +kernel) (by decide +kernel) (hxe _ (List.mem_append_left _ (List.mem_of_getElem? (i := 0) rfl))) (hxe _ (List.mem_append_left _ (List.mem_of_getElem? (i := 1) rfl))) hV.2.2.1 (vx_hat (B := [.castable hx_A hx_A, .declares (Bundle.initS "java/lang/RuntimeException"), .declares (Bundle.initS "java/lang/Exception"), .declares (Bundle.initS Bundle.tN)]) (fun w hw => hxe w (List.mem_append_right _ (List.mem_append_left _ hw))) (by decide +kernel) (vx_c (va_Nw.use rfl hV.1) (vx_c (va_Nw.use rfl hV.2.2.2.2.1) (vx_c (va_Nw.use rfl hV.2.2.2.2.2.1) (vx_c (va_Nw.use rfl hV.2.2.2.2.2.2) vx_n))))) (fun w hw => List.all_eq_true.mp (by decide +kernel : (Cond.classLink RX7 270 hx_A :: Cond.initialized hx_A :: vx_atS RX7 274 hx_A hx_ns).all vx_ot = true) w hw) hZ.1 hZ.2 hp.2.2 (hl.1.trans hml.symm) dX7_demandWithin_10 dX7_demandWithin_13 dX7_demandWithin_14 dX7_demandWithin_17 dX7_demandWithin_20 (fun x hx => (ht x hx).elim) (by decide) (by decide) (by decide) (by decide) hlk (fun t hal hsz hq => ⟨(), trivial, rfl, ⟨hsz, fun q h1 h2 => hq q h1⟩⟩) (fun z hz => by cases hz) (by decide) (by decide)
  refine lv_iload_n hx hb dX7_demandWithin_0 rfl (lv_at hl 0 rfl) ?_
  refine lv_iload_n hx hb dX7_demandWithin_1 rfl (lv_at hl 1 rfl) ?_
  refine lv_icmp_lt (tgt := 10) hx hb dX7_demandWithin_2 (by decide) (fun _ => K9) (fun c1 => ?_)
  refine lv_iload_n hx hb dX7_demandWithin_5 rfl (lv_at hl 0 rfl) ?_
  refine lv_iload_n hx hb dX7_demandWithin_6 rfl (lv_at hl 2 rfl) ?_
  exact lv_icmp_le (tgt := 21) hx hb dX7_demandWithin_7 (by decide) (fun c2 => absurd ⟨Int32.not_lt.mp c1, c2⟩ hbad) (fun _ => K9)
theorem hx_none (x : Int32) : ¬ (0 ≤ x ∧ x < 0) := fun h => absurd (Int32.not_lt.mpr h.1) (fun q => q h.2)
set_option maxHeartbeats 4000000 in
set_option maxRecDepth 100000 in
theorem hx_X7_speed (l : Launch) (hfl : l.stackTraces = false) (D : va_G) (K : Nat → ClassId) (ad : Nat → Nat) (s1 s2 : Nat) (x y : Int32) : hx_K l D K ad s1 s2 yX7_speed (hx_wm yX7_speed cX7_speed 4 (some .int)) { frames := 7, cells := 1, slots := 6, locals := 103 } [.ref (ad 0), .int x, .int y] hn_v0 hx_B := by
  refine hx_K_of (by decide) (Nat.le_of_ble_eq_true rfl) ?_
  intro p e s m args below meth c ls A C0 hxe ht hV hZ hp hl
  obtain ⟨hx, hb, hr9, hml, hown, hts, hK, hlk, hA⟩ := id C0
  have hl : lv_has ls 4 [(0, .ref (ad 0)), (1, .int x), (2, .int y)] := hl
  refine lv_iload_n hx hb dX7_speed_0 rfl (lv_at hl 1 rfl) ?_
  refine lv_aload_n hx hb dX7_speed_1 rfl (lv_at hl 0 rfl) ?_
  refine hh_get C0 hp (C := RX7) (T := TX7) (N := 4) (ci := 7) (by decide) hh_E_0 rfl hh_uX7 1 (by decide) hm_313 rfl rfl dX7_speed_2 ?_
  refine hh_get C0 hp (C := RX5) (T := TX5) (N := 10) (ci := 5) (hh_b_r (by decide : 0 < 2)) (hh_E_r 0) rfl hh_uX5 5 (by decide) hm_341 rfl rfl dX7_speed_5 ?_
  rw [show hn_v0 (hh_rI 0) 5 = 0 from rfl]
  exact hx_cS C0 hxe ht hV hZ hp (As := [.int x, .int 0]) (rest := []) (n := 2) (hx_X7_demandNumber l hfl D K ad s1 s2 hn_v0 x 0 (hx_none x)) (hx_gS hm_349 hm_350 hm_335 hm_351) ⟨rfl, rfl⟩ (by decide +kernel) ⟨Nat.le_of_ble_eq_true rfl, Nat.le_of_ble_eq_true rfl⟩ ⟨Nat.le_of_ble_eq_true rfl, Nat.le_of_ble_eq_true rfl⟩ hl.1 rfl rfl (Nat.le_of_ble_eq_true rfl) dX7_speed_8
set_option maxHeartbeats 4000000 in
set_option maxRecDepth 100000 in
theorem hx_X7_top (l : Launch) (hfl : l.stackTraces = false) (D : va_G) (K : Nat → ClassId) (ad : Nat → Nat) (s1 s2 : Nat) (x y : Int32) : hx_K l D K ad s1 s2 yX7_top (hx_wm yX7_top cX7_top 3 (some .int)) { frames := 7, cells := 1, slots := 6, locals := 103 } [.ref (ad 0), .int x, .int y] hn_v0 hx_B := by
  refine hx_K_of (by decide) (Nat.le_of_ble_eq_true rfl) ?_
  intro p e s m args below meth c ls A C0 hxe ht hV hZ hp hl
  obtain ⟨hx, hb, hr9, hml, hown, hts, hK, hlk, hA⟩ := id C0
  have hl : lv_has ls 3 [(0, .ref (ad 0)), (1, .int x), (2, .int y)] := hl
  refine lv_iload_n hx hb dX7_top_0 rfl (lv_at hl 1 rfl) ?_
  refine lv_aload_n hx hb dX7_top_1 rfl (lv_at hl 0 rfl) ?_
  refine hh_get C0 hp (C := RX7) (T := TX7) (N := 4) (ci := 7) (by decide) hh_E_0 rfl hh_uX7 1 (by decide) hm_313 rfl rfl dX7_top_2 ?_
  refine hh_get C0 hp (C := RX5) (T := TX5) (N := 10) (ci := 5) (hh_b_r (by decide : 0 < 2)) (hh_E_r 0) rfl hh_uX5 5 (by decide) hm_341 rfl rfl dX7_top_5 ?_
  rw [show hn_v0 (hh_rI 0) 5 = 0 from rfl]
  exact hx_cS C0 hxe ht hV hZ hp (As := [.int x, .int 0]) (rest := []) (n := 2) (hx_X7_demandNumber l hfl D K ad s1 s2 hn_v0 x 0 (hx_none x)) (hx_gS hm_349 hm_350 hm_335 hm_351) ⟨rfl, rfl⟩ (by decide +kernel) ⟨Nat.le_of_ble_eq_true rfl, Nat.le_of_ble_eq_true rfl⟩ ⟨Nat.le_of_ble_eq_true rfl, Nat.le_of_ble_eq_true rfl⟩ hl.1 rfl rfl (Nat.le_of_ble_eq_true rfl) dX7_top_8
set_option maxHeartbeats 4000000 in
set_option maxRecDepth 100000 in
theorem hx_X7_turn (l : Launch) (hfl : l.stackTraces = false) (D : va_G) (K : Nat → ClassId) (ad : Nat → Nat) (s1 s2 : Nat) (x y : Int32) : hx_K l D K ad s1 s2 yX7_turn (hx_wm yX7_turn cX7_turn 4 (some .boolean)) { frames := 7, cells := 1, slots := 6, locals := 103 } [.ref (ad 0), .int x, .int y] hn_v0 hx_B := by
  refine hx_K_of (by decide) (Nat.le_of_ble_eq_true rfl) ?_
  intro p e s m args below meth c ls A C0 hxe ht hV hZ hp hl
  obtain ⟨hx, hb, hr9, hml, hown, hts, hK, hlk, hA⟩ := id C0
  have hl : lv_has ls 4 [(0, .ref (ad 0)), (1, .int x), (2, .int y)] := hl
  refine lv_iload_n hx hb dX7_turn_0 rfl (lv_at hl 1 rfl) ?_
  refine lv_aload_n hx hb dX7_turn_1 rfl (lv_at hl 0 rfl) ?_
  refine hh_get C0 hp (C := RX7) (T := TX7) (N := 4) (ci := 7) (by decide) hh_E_0 rfl hh_uX7 1 (by decide) hm_313 rfl rfl dX7_turn_2 ?_
  refine hh_get C0 hp (C := RX5) (T := TX5) (N := 10) (ci := 5) (hh_b_r (by decide : 0 < 2)) (hh_E_r 0) rfl hh_uX5 5 (by decide) hm_341 rfl rfl dX7_turn_5 ?_
  rw [show hn_v0 (hh_rI 0) 5 = 0 from rfl]
  exact hx_cS C0 hxe ht hV hZ hp (As := [.int x, .int 0]) (rest := []) (n := 2) (hx_X7_demandNumber l hfl D K ad s1 s2 hn_v0 x 0 (hx_none x)) (hx_gS hm_349 hm_350 hm_335 hm_351) ⟨rfl, rfl⟩ (by decide +kernel) ⟨Nat.le_of_ble_eq_true rfl, Nat.le_of_ble_eq_true rfl⟩ ⟨Nat.le_of_ble_eq_true rfl, Nat.le_of_ble_eq_true rfl⟩ hl.1 rfl rfl (Nat.le_of_ble_eq_true rfl) dX7_turn_8
set_option maxHeartbeats 4000000 in
set_option maxRecDepth 100000 in
theorem hx_X7_wake (l : Launch) (hfl : l.stackTraces = false) (D : va_G) (K : Nat → ClassId) (ad : Nat → Nat) (s1 s2 : Nat) (x y : Int32) : hx_K l D K ad s1 s2 yX7_wake (hx_wm yX7_wake cX7_wake 3 (some .boolean)) { frames := 7, cells := 1, slots := 6, locals := 103 } [.ref (ad 0), .int x, .int y] hn_v0 hx_B := by
  refine hx_K_of (by decide) (Nat.le_of_ble_eq_true rfl) ?_
  intro p e s m args below meth c ls A C0 hxe ht hV hZ hp hl
  obtain ⟨hx, hb, hr9, hml, hown, hts, hK, hlk, hA⟩ := id C0
  have hl : lv_has ls 3 [(0, .ref (ad 0)), (1, .int x), (2, .int y)] := hl
  refine lv_iload_n hx hb dX7_wake_0 rfl (lv_at hl 1 rfl) ?_
  refine lv_aload_n hx hb dX7_wake_1 rfl (lv_at hl 0 rfl) ?_
  refine hh_get C0 hp (C := RX7) (T := TX7) (N := 4) (ci := 7) (by decide) hh_E_0 rfl hh_uX7 0 (by decide) hm_310 rfl rfl dX7_wake_2 ?_
  refine hh_get C0 hp (C := RX4) (T := TX4) (N := 3) (ci := 4) (by decide) hh_E_1 rfl hh_uX4 2 (by decide) hm_324 rfl rfl dX7_wake_5 ?_
  rw [show hn_v0 1 2 = 0 from rfl]
  exact hx_cS C0 hxe ht hV hZ hp (As := [.int x, .int 0]) (rest := []) (n := 2) (hx_X7_demandNumber l hfl D K ad s1 s2 hn_v0 x 0 (hx_none x)) (hx_gS hm_349 hm_350 hm_335 hm_351) ⟨rfl, rfl⟩ (by decide +kernel) ⟨Nat.le_of_ble_eq_true rfl, Nat.le_of_ble_eq_true rfl⟩ ⟨Nat.le_of_ble_eq_true rfl, Nat.le_of_ble_eq_true rfl⟩ hl.1 rfl rfl (Nat.le_of_ble_eq_true rfl) dX7_wake_8
set_option maxHeartbeats 4000000 in
set_option maxRecDepth 100000 in
theorem hx_X7_call (l : Launch) (hfl : l.stackTraces = false) (D : va_G) (K : Nat → ClassId) (ad : Nat → Nat) (s1 s2 : Nat) (x y : Int32) : hx_K l D K ad s1 s2 yX7_call (hx_wm yX7_call cX7_call 3 (some .int)) { frames := 7, cells := 1, slots := 6, locals := 103 } [.ref (ad 0), .int x, .int y] hn_v0 hx_B := by
  refine hx_K_of (by decide) (Nat.le_of_ble_eq_true rfl) ?_
  intro p e s m args below meth c ls A C0 hxe ht hV hZ hp hl
  obtain ⟨hx, hb, hr9, hml, hown, hts, hK, hlk, hA⟩ := id C0
  have hl : lv_has ls 3 [(0, .ref (ad 0)), (1, .int x), (2, .int y)] := hl
  refine lv_iload_n hx hb dX7_call_0 rfl (lv_at hl 1 rfl) ?_
  refine lv_aload_n hx hb dX7_call_1 rfl (lv_at hl 0 rfl) ?_
  refine hh_get C0 hp (C := RX7) (T := TX7) (N := 4) (ci := 7) (by decide) hh_E_0 rfl hh_uX7 1 (by decide) hm_313 rfl rfl dX7_call_2 ?_
  refine hh_get C0 hp (C := RX5) (T := TX5) (N := 10) (ci := 5) (hh_b_r (by decide : 0 < 2)) (hh_E_r 0) rfl hh_uX5 5 (by decide) hm_341 rfl rfl dX7_call_5 ?_
  rw [show hn_v0 (hh_rI 0) 5 = 0 from rfl]
  exact hx_cS C0 hxe ht hV hZ hp (As := [.int x, .int 0]) (rest := []) (n := 2) (hx_X7_demandNumber l hfl D K ad s1 s2 hn_v0 x 0 (hx_none x)) (hx_gS hm_349 hm_350 hm_335 hm_351) ⟨rfl, rfl⟩ (by decide +kernel) ⟨Nat.le_of_ble_eq_true rfl, Nat.le_of_ble_eq_true rfl⟩ ⟨Nat.le_of_ble_eq_true rfl, Nat.le_of_ble_eq_true rfl⟩ hl.1 rfl rfl (Nat.le_of_ble_eq_true rfl) dX7_call_8
set_option maxHeartbeats 4000000 in
set_option maxRecDepth 100000 in
theorem hx_X7_emergency (l : Launch) (hfl : l.stackTraces = false) (D : va_G) (K : Nat → ClassId) (ad : Nat → Nat) (s1 s2 : Nat) (x : Int32) : hx_K l D K ad s1 s2 yX7_emergency (hx_wm yX7_emergency cX7_emergency 2 (some .int)) { frames := 7, cells := 1, slots := 6, locals := 103 } [.ref (ad 0), .int x] hn_v0 hx_B := by
  refine hx_K_of (by decide) (Nat.le_of_ble_eq_true rfl) ?_
  intro p e s m args below meth c ls A C0 hxe ht hV hZ hp hl
  obtain ⟨hx, hb, hr9, hml, hown, hts, hK, hlk, hA⟩ := id C0
  have hl : lv_has ls 2 [(0, .ref (ad 0)), (1, .int x)] := hl
  refine lv_iload_n hx hb dX7_emergency_0 rfl (lv_at hl 1 rfl) ?_
  refine lv_aload_n hx hb dX7_emergency_1 rfl (lv_at hl 0 rfl) ?_
  refine hh_get C0 hp (C := RX7) (T := TX7) (N := 4) (ci := 7) (by decide) hh_E_0 rfl hh_uX7 1 (by decide) hm_313 rfl rfl dX7_emergency_2 ?_
  refine hh_get C0 hp (C := RX5) (T := TX5) (N := 10) (ci := 5) (hh_b_r (by decide : 0 < 2)) (hh_E_r 0) rfl hh_uX5 5 (by decide) hm_341 rfl rfl dX7_emergency_5 ?_
  rw [show hn_v0 (hh_rI 0) 5 = 0 from rfl]
  exact hx_cS C0 hxe ht hV hZ hp (As := [.int x, .int 0]) (rest := []) (n := 2) (hx_X7_demandNumber l hfl D K ad s1 s2 hn_v0 x 0 (hx_none x)) (hx_gS hm_349 hm_350 hm_335 hm_351) ⟨rfl, rfl⟩ (by decide +kernel) ⟨Nat.le_of_ble_eq_true rfl, Nat.le_of_ble_eq_true rfl⟩ ⟨Nat.le_of_ble_eq_true rfl, Nat.le_of_ble_eq_true rfl⟩ hl.1 rfl rfl (Nat.le_of_ble_eq_true rfl) dX7_emergency_8
set_option maxHeartbeats 4000000 in
set_option maxRecDepth 100000 in
theorem hx_X7_hang (l : Launch) (hfl : l.stackTraces = false) (D : va_G) (K : Nat → ClassId) (ad : Nat → Nat) (s1 s2 : Nat) (x : Int32) : hx_K l D K ad s1 s2 yX7_hang (hx_wm yX7_hang cX7_hang 3 (some .int)) { frames := 7, cells := 1, slots := 6, locals := 103 } [.ref (ad 0), .int x] hn_v0 hx_B := by
  refine hx_K_of (by decide) (Nat.le_of_ble_eq_true rfl) ?_
  intro p e s m args below meth c ls A C0 hxe ht hV hZ hp hl
  obtain ⟨hx, hb, hr9, hml, hown, hts, hK, hlk, hA⟩ := id C0
  have hl : lv_has ls 3 [(0, .ref (ad 0)), (1, .int x)] := hl
  refine lv_iload_n hx hb dX7_hang_0 rfl (lv_at hl 1 rfl) ?_
  refine lv_aload_n hx hb dX7_hang_1 rfl (lv_at hl 0 rfl) ?_
  refine hh_get C0 hp (C := RX7) (T := TX7) (N := 4) (ci := 7) (by decide) hh_E_0 rfl hh_uX7 1 (by decide) hm_313 rfl rfl dX7_hang_2 ?_
  refine hh_get C0 hp (C := RX5) (T := TX5) (N := 10) (ci := 5) (hh_b_r (by decide : 0 < 2)) (hh_E_r 0) rfl hh_uX5 6 (by decide) hm_370 rfl rfl dX7_hang_5 ?_
  rw [show hn_v0 (hh_rI 0) 6 = 0 from rfl]
  exact hx_cS C0 hxe ht hV hZ hp (As := [.int x, .int 0]) (rest := []) (n := 2) (hx_X7_demandNumber l hfl D K ad s1 s2 hn_v0 x 0 (hx_none x)) (hx_gS hm_349 hm_350 hm_335 hm_351) ⟨rfl, rfl⟩ (by decide +kernel) ⟨Nat.le_of_ble_eq_true rfl, Nat.le_of_ble_eq_true rfl⟩ ⟨Nat.le_of_ble_eq_true rfl, Nat.le_of_ble_eq_true rfl⟩ hl.1 rfl rfl (Nat.le_of_ble_eq_true rfl) dX7_hang_8
set_option maxHeartbeats 4000000 in
set_option maxRecDepth 100000 in
theorem hx_X7_text (l : Launch) (hfl : l.stackTraces = false) (D : va_G) (K : Nat → ClassId) (ad : Nat → Nat) (s1 s2 : Nat) (x y : Int32) : hx_K l D K ad s1 s2 yX7_text (hx_wm yX7_text cX7_text 3 (some .int)) { frames := 7, cells := 1, slots := 6, locals := 103 } [.ref (ad 0), .int x, .int y] hn_v0 hx_B := by
  refine hx_K_of (by decide) (Nat.le_of_ble_eq_true rfl) ?_
  intro p e s m args below meth c ls A C0 hxe ht hV hZ hp hl
  obtain ⟨hx, hb, hr9, hml, hown, hts, hK, hlk, hA⟩ := id C0
  have hl : lv_has ls 3 [(0, .ref (ad 0)), (1, .int x), (2, .int y)] := hl
  refine lv_iload_n hx hb dX7_text_0 rfl (lv_at hl 1 rfl) ?_
  refine lv_aload_n hx hb dX7_text_1 rfl (lv_at hl 0 rfl) ?_
  refine hh_get C0 hp (C := RX7) (T := TX7) (N := 4) (ci := 7) (by decide) hh_E_0 rfl hh_uX7 1 (by decide) hm_313 rfl rfl dX7_text_2 ?_
  refine hh_get C0 hp (C := RX5) (T := TX5) (N := 10) (ci := 5) (hh_b_r (by decide : 0 < 2)) (hh_E_r 0) rfl hh_uX5 5 (by decide) hm_341 rfl rfl dX7_text_5 ?_
  rw [show hn_v0 (hh_rI 0) 5 = 0 from rfl]
  exact hx_cS C0 hxe ht hV hZ hp (As := [.int x, .int 0]) (rest := []) (n := 2) (hx_X7_demandNumber l hfl D K ad s1 s2 hn_v0 x 0 (hx_none x)) (hx_gS hm_349 hm_350 hm_335 hm_351) ⟨rfl, rfl⟩ (by decide +kernel) ⟨Nat.le_of_ble_eq_true rfl, Nat.le_of_ble_eq_true rfl⟩ ⟨Nat.le_of_ble_eq_true rfl, Nat.le_of_ble_eq_true rfl⟩ hl.1 rfl rfl (Nat.le_of_ble_eq_true rfl) dX7_text_8
set_option maxHeartbeats 4000000 in
set_option maxRecDepth 100000 in
theorem hx_X7_quality (l : Launch) (hfl : l.stackTraces = false) (D : va_G) (K : Nat → ClassId) (ad : Nat → Nat) (s1 s2 : Nat) (x y : Int32) : hx_K l D K ad s1 s2 yX7_quality (hx_wm yX7_quality cX7_quality 3 (some .int)) { frames := 7, cells := 1, slots := 6, locals := 103 } [.ref (ad 0), .int x, .int y] hn_v0 hx_B := by
  refine hx_K_of (by decide) (Nat.le_of_ble_eq_true rfl) ?_
  intro p e s m args below meth c ls A C0 hxe ht hV hZ hp hl
  obtain ⟨hx, hb, hr9, hml, hown, hts, hK, hlk, hA⟩ := id C0
  have hl : lv_has ls 3 [(0, .ref (ad 0)), (1, .int x), (2, .int y)] := hl
  refine lv_iload_n hx hb dX7_quality_0 rfl (lv_at hl 1 rfl) ?_
  refine lv_aload_n hx hb dX7_quality_1 rfl (lv_at hl 0 rfl) ?_
  refine hh_get C0 hp (C := RX7) (T := TX7) (N := 4) (ci := 7) (by decide) hh_E_0 rfl hh_uX7 0 (by decide) hm_310 rfl rfl dX7_quality_2 ?_
  refine hh_get C0 hp (C := RX4) (T := TX4) (N := 3) (ci := 4) (by decide) hh_E_1 rfl hh_uX4 2 (by decide) hm_324 rfl rfl dX7_quality_5 ?_
  rw [show hn_v0 1 2 = 0 from rfl]
  exact hx_cS C0 hxe ht hV hZ hp (As := [.int x, .int 0]) (rest := []) (n := 2) (hx_X7_demandNumber l hfl D K ad s1 s2 hn_v0 x 0 (hx_none x)) (hx_gS hm_349 hm_350 hm_335 hm_351) ⟨rfl, rfl⟩ (by decide +kernel) ⟨Nat.le_of_ble_eq_true rfl, Nat.le_of_ble_eq_true rfl⟩ ⟨Nat.le_of_ble_eq_true rfl, Nat.le_of_ble_eq_true rfl⟩ hl.1 rfl rfl (Nat.le_of_ble_eq_true rfl) dX7_quality_8
set_option maxHeartbeats 4000000 in
set_option maxRecDepth 100000 in
theorem hx_X7_ofMast (l : Launch) (hfl : l.stackTraces = false) (D : va_G) (K : Nat → ClassId) (ad : Nat → Nat) (s1 s2 : Nat) (x y : Int32) : hx_K l D K ad s1 s2 yX7_ofMast (hx_wm yX7_ofMast cX7_ofMast 3 (some .int)) { frames := 7, cells := 1, slots := 6, locals := 103 } [.ref (ad 0), .int x, .int y] hn_v0 hx_B := by
  refine hx_K_of (by decide) (Nat.le_of_ble_eq_true rfl) ?_
  intro p e s m args below meth c ls A C0 hxe ht hV hZ hp hl
  obtain ⟨hx, hb, hr9, hml, hown, hts, hK, hlk, hA⟩ := id C0
  have hl : lv_has ls 3 [(0, .ref (ad 0)), (1, .int x), (2, .int y)] := hl
  refine lv_iload_n hx hb dX7_ofMast_0 rfl (lv_at hl 1 rfl) ?_
  refine lv_aload_n hx hb dX7_ofMast_1 rfl (lv_at hl 0 rfl) ?_
  refine hh_get C0 hp (C := RX7) (T := TX7) (N := 4) (ci := 7) (by decide) hh_E_0 rfl hh_uX7 0 (by decide) hm_310 rfl rfl dX7_ofMast_2 ?_
  refine hh_get C0 hp (C := RX4) (T := TX4) (N := 3) (ci := 4) (by decide) hh_E_1 rfl hh_uX4 2 (by decide) hm_324 rfl rfl dX7_ofMast_5 ?_
  rw [show hn_v0 1 2 = 0 from rfl]
  exact hx_cS C0 hxe ht hV hZ hp (As := [.int x, .int 0]) (rest := []) (n := 2) (hx_X7_demandNumber l hfl D K ad s1 s2 hn_v0 x 0 (hx_none x)) (hx_gS hm_349 hm_350 hm_335 hm_351) ⟨rfl, rfl⟩ (by decide +kernel) ⟨Nat.le_of_ble_eq_true rfl, Nat.le_of_ble_eq_true rfl⟩ ⟨Nat.le_of_ble_eq_true rfl, Nat.le_of_ble_eq_true rfl⟩ hl.1 rfl rfl (Nat.le_of_ble_eq_true rfl) dX7_ofMast_8
set_option maxHeartbeats 4000000 in
set_option maxRecDepth 100000 in
theorem hx_X7_ofHandset (l : Launch) (hfl : l.stackTraces = false) (D : va_G) (K : Nat → ClassId) (ad : Nat → Nat) (s1 s2 : Nat) (x y : Int32) : hx_K l D K ad s1 s2 yX7_ofHandset (hx_wm yX7_ofHandset cX7_ofHandset 3 (some .int)) { frames := 7, cells := 1, slots := 6, locals := 103 } [.ref (ad 0), .int x, .int y] hn_v0 hx_B := by
  refine hx_K_of (by decide) (Nat.le_of_ble_eq_true rfl) ?_
  intro p e s m args below meth c ls A C0 hxe ht hV hZ hp hl
  obtain ⟨hx, hb, hr9, hml, hown, hts, hK, hlk, hA⟩ := id C0
  have hl : lv_has ls 3 [(0, .ref (ad 0)), (1, .int x), (2, .int y)] := hl
  refine lv_iload_n hx hb dX7_ofHandset_0 rfl (lv_at hl 1 rfl) ?_
  refine lv_aload_n hx hb dX7_ofHandset_1 rfl (lv_at hl 0 rfl) ?_
  refine hh_get C0 hp (C := RX7) (T := TX7) (N := 4) (ci := 7) (by decide) hh_E_0 rfl hh_uX7 1 (by decide) hm_313 rfl rfl dX7_ofHandset_2 ?_
  refine hh_get C0 hp (C := RX5) (T := TX5) (N := 10) (ci := 5) (hh_b_r (by decide : 0 < 2)) (hh_E_r 0) rfl hh_uX5 5 (by decide) hm_341 rfl rfl dX7_ofHandset_5 ?_
  rw [show hn_v0 (hh_rI 0) 5 = 0 from rfl]
  exact hx_cS C0 hxe ht hV hZ hp (As := [.int x, .int 0]) (rest := []) (n := 2) (hx_X7_demandNumber l hfl D K ad s1 s2 hn_v0 x 0 (hx_none x)) (hx_gS hm_349 hm_350 hm_335 hm_351) ⟨rfl, rfl⟩ (by decide +kernel) ⟨Nat.le_of_ble_eq_true rfl, Nat.le_of_ble_eq_true rfl⟩ ⟨Nat.le_of_ble_eq_true rfl, Nat.le_of_ble_eq_true rfl⟩ hl.1 rfl rfl (Nat.le_of_ble_eq_true rfl) dX7_ofHandset_8
set_option maxHeartbeats 4000000 in
set_option maxRecDepth 100000 in
theorem hx_X7_ofCall (l : Launch) (hfl : l.stackTraces = false) (D : va_G) (K : Nat → ClassId) (ad : Nat → Nat) (s1 s2 : Nat) (x y : Int32) : hx_K l D K ad s1 s2 yX7_ofCall (hx_wm yX7_ofCall cX7_ofCall 3 (some .int)) { frames := 7, cells := 1, slots := 6, locals := 103 } [.ref (ad 0), .int x, .int y] hn_v0 hx_B := by
  refine hx_K_of (by decide) (Nat.le_of_ble_eq_true rfl) ?_
  intro p e s m args below meth c ls A C0 hxe ht hV hZ hp hl
  obtain ⟨hx, hb, hr9, hml, hown, hts, hK, hlk, hA⟩ := id C0
  have hl : lv_has ls 3 [(0, .ref (ad 0)), (1, .int x), (2, .int y)] := hl
  refine lv_iload_n hx hb dX7_ofCall_0 rfl (lv_at hl 1 rfl) ?_
  refine lv_aload_n hx hb dX7_ofCall_1 rfl (lv_at hl 0 rfl) ?_
  refine hh_get C0 hp (C := RX7) (T := TX7) (N := 4) (ci := 7) (by decide) hh_E_0 rfl hh_uX7 1 (by decide) hm_313 rfl rfl dX7_ofCall_2 ?_
  refine hh_get C0 hp (C := RX5) (T := TX5) (N := 10) (ci := 5) (hh_b_r (by decide : 0 < 2)) (hh_E_r 0) rfl hh_uX5 6 (by decide) hm_370 rfl rfl dX7_ofCall_5 ?_
  rw [show hn_v0 (hh_rI 0) 6 = 0 from rfl]
  exact hx_cS C0 hxe ht hV hZ hp (As := [.int x, .int 0]) (rest := []) (n := 2) (hx_X7_demandNumber l hfl D K ad s1 s2 hn_v0 x 0 (hx_none x)) (hx_gS hm_349 hm_350 hm_335 hm_351) ⟨rfl, rfl⟩ (by decide +kernel) ⟨Nat.le_of_ble_eq_true rfl, Nat.le_of_ble_eq_true rfl⟩ ⟨Nat.le_of_ble_eq_true rfl, Nat.le_of_ble_eq_true rfl⟩ hl.1 rfl rfl (Nat.le_of_ble_eq_true rfl) dX7_ofCall_8
set_option maxHeartbeats 4000000 in
set_option maxRecDepth 100000 in
theorem hx_X7_endsIn (l : Launch) (hfl : l.stackTraces = false) (D : va_G) (K : Nat → ClassId) (ad : Nat → Nat) (s1 s2 : Nat) (x y : Int32) : hx_K l D K ad s1 s2 yX7_endsIn (hx_wm yX7_endsIn cX7_endsIn 4 (some .int)) { frames := 7, cells := 1, slots := 6, locals := 103 } [.ref (ad 0), .int x, .int y] hn_v0 hx_B := by
  refine hx_K_of (by decide) (Nat.le_of_ble_eq_true rfl) ?_
  intro p e s m args below meth c ls A C0 hxe ht hV hZ hp hl
  obtain ⟨hx, hb, hr9, hml, hown, hts, hK, hlk, hA⟩ := id C0
  have hl : lv_has ls 4 [(0, .ref (ad 0)), (1, .int x), (2, .int y)] := hl
  refine lv_iload_n hx hb dX7_endsIn_0 rfl (lv_at hl 1 rfl) ?_
  refine lv_aload_n hx hb dX7_endsIn_1 rfl (lv_at hl 0 rfl) ?_
  refine hh_get C0 hp (C := RX7) (T := TX7) (N := 4) (ci := 7) (by decide) hh_E_0 rfl hh_uX7 1 (by decide) hm_313 rfl rfl dX7_endsIn_2 ?_
  refine hh_get C0 hp (C := RX5) (T := TX5) (N := 10) (ci := 5) (hh_b_r (by decide : 0 < 2)) (hh_E_r 0) rfl hh_uX5 6 (by decide) hm_370 rfl rfl dX7_endsIn_5 ?_
  rw [show hn_v0 (hh_rI 0) 6 = 0 from rfl]
  exact hx_cS C0 hxe ht hV hZ hp (As := [.int x, .int 0]) (rest := []) (n := 2) (hx_X7_demandNumber l hfl D K ad s1 s2 hn_v0 x 0 (hx_none x)) (hx_gS hm_349 hm_350 hm_335 hm_351) ⟨rfl, rfl⟩ (by decide +kernel) ⟨Nat.le_of_ble_eq_true rfl, Nat.le_of_ble_eq_true rfl⟩ ⟨Nat.le_of_ble_eq_true rfl, Nat.le_of_ble_eq_true rfl⟩ hl.1 rfl rfl (Nat.le_of_ble_eq_true rfl) dX7_endsIn_8
set_option maxHeartbeats 4000000 in
set_option maxRecDepth 100000 in
theorem hx_X7_wouldBeOn (l : Launch) (hfl : l.stackTraces = false) (D : va_G) (K : Nat → ClassId) (ad : Nat → Nat) (s1 s2 : Nat) (x y : Int32) : hx_K l D K ad s1 s2 yX7_wouldBeOn (hx_wm yX7_wouldBeOn cX7_wouldBeOn 4 (some .int)) { frames := 7, cells := 1, slots := 6, locals := 103 } [.ref (ad 0), .int x, .int y] hn_v0 hx_B := by
  refine hx_K_of (by decide) (Nat.le_of_ble_eq_true rfl) ?_
  intro p e s m args below meth c ls A C0 hxe ht hV hZ hp hl
  obtain ⟨hx, hb, hr9, hml, hown, hts, hK, hlk, hA⟩ := id C0
  have hl : lv_has ls 4 [(0, .ref (ad 0)), (1, .int x), (2, .int y)] := hl
  refine lv_iload_n hx hb dX7_wouldBeOn_0 rfl (lv_at hl 1 rfl) ?_
  refine lv_aload_n hx hb dX7_wouldBeOn_1 rfl (lv_at hl 0 rfl) ?_
  refine hh_get C0 hp (C := RX7) (T := TX7) (N := 4) (ci := 7) (by decide) hh_E_0 rfl hh_uX7 1 (by decide) hm_313 rfl rfl dX7_wouldBeOn_2 ?_
  refine hh_get C0 hp (C := RX5) (T := TX5) (N := 10) (ci := 5) (hh_b_r (by decide : 0 < 2)) (hh_E_r 0) rfl hh_uX5 5 (by decide) hm_341 rfl rfl dX7_wouldBeOn_5 ?_
  rw [show hn_v0 (hh_rI 0) 5 = 0 from rfl]
  exact hx_cS C0 hxe ht hV hZ hp (As := [.int x, .int 0]) (rest := []) (n := 2) (hx_X7_demandNumber l hfl D K ad s1 s2 hn_v0 x 0 (hx_none x)) (hx_gS hm_349 hm_350 hm_335 hm_351) ⟨rfl, rfl⟩ (by decide +kernel) ⟨Nat.le_of_ble_eq_true rfl, Nat.le_of_ble_eq_true rfl⟩ ⟨Nat.le_of_ble_eq_true rfl, Nat.le_of_ble_eq_true rfl⟩ hl.1 rfl rfl (Nat.le_of_ble_eq_true rfl) dX7_wouldBeOn_8
set_option maxHeartbeats 4000000 in
set_option maxRecDepth 100000 in
theorem hx_X7_mast (l : Launch) (hfl : l.stackTraces = false) (D : va_G) (K : Nat → ClassId) (ad : Nat → Nat) (s1 s2 : Nat) (p0 p1 p2 p3 p4 p5 : Int32) (hvd : ¬ hv_mast p0 p1 p2 p3 p4 p5) : hx_K l D K ad s1 s2 yX7_mast (hx_wm yX7_mast cX7_mast 8 (some .int)) { frames := 7, cells := 1, slots := 6, locals := 104 } [.ref (ad 0), .int p0, .int p1, .int p2, .int p3, .int p4, .int p5] hn_v0 hx_A := by
  refine hx_K_of (by decide) (Nat.le_of_ble_eq_true rfl) ?_
  intro p e s m args below meth c ls A C0 hxe ht hV hZ hp hl
  obtain ⟨hx, hb, hr9, hml, hown, hts, hK, hlk, hA⟩ := id C0
  have hl : lv_has ls 8 [(0, .ref (ad 0)), (1, .int p0), (2, .int p1), (3, .int p2), (4, .int p3), (5, .int p4), (6, .int p5)] := hl
  refine lv_iload_n hx hb dX7_mast_0 rfl (lv_at hl 1 rfl) ?_
  refine lv_iconst (v := 0) hx hb dX7_mast_1 (by decide) ?_
  refine lv_bipush (v := 99) hx hb dX7_mast_2 (by decide) ?_
  rcases Classical.em (¬ (0 ≤ p0 ∧ p0 ≤ 99)) with hc0 | hc0
  · exact hx_cS C0 hxe ht hV hZ hp (As := [.int p0, .int 0, .int 99]) (rest := []) (n := 3) (hx_X7_demandWithin l hfl D K ad s1 s2 hn_v0 p0 0 99 hc0) (hx_gS hm_333 hm_334 hm_335 hm_336) ⟨rfl, rfl⟩ (by decide +kernel) ⟨Nat.le_of_ble_eq_true rfl, Nat.le_of_ble_eq_true rfl⟩ ⟨Nat.le_of_ble_eq_true rfl, Nat.le_of_ble_eq_true rfl⟩ hl.1 rfl rfl (Nat.le_of_ble_eq_true rfl) dX7_mast_4
  replace hc0 := Classical.not_not.mp hc0
  refine hh_cSv C0 hp (As := [.int p0, .int 0, .int 99]) (rest := []) (n := 3) (hk_X7_demandWithin l D K ad hn_T0 p0 0 99 hc0.1 hc0.2) (hh_gS hm_333 hm_334 hm_335 hm_336) ⟨rfl, rfl⟩ (by decide +kernel) ⟨Nat.le_of_ble_eq_true rfl, Nat.le_of_ble_eq_true rfl⟩ ⟨Nat.zero_le _, Nat.zero_le _⟩ hl.1 rfl rfl (Nat.le_of_ble_eq_true rfl) dX7_mast_4 (fun v_4 H locs hv_4 hp => ?_)
  rw [hv_4] at hp
  refine lv_iload_n hx hb dX7_mast_7 rfl (lv_at hl 2 rfl) ?_
  refine lv_bipush (v := 10) hx hb dX7_mast_8 (by decide) ?_
  refine lv_bipush (v := 60) hx hb dX7_mast_10 (by decide) ?_
  rcases Classical.em (¬ (10 ≤ p1 ∧ p1 ≤ 60)) with hc1 | hc1
  · exact hx_cS C0 hxe ht hV hZ hp (As := [.int p1, .int 10, .int 60]) (rest := []) (n := 3) (hx_X7_demandWithin l hfl D K ad s1 s2 hn_v0 p1 10 60 hc1) (hx_gS hm_333 hm_334 hm_335 hm_336) ⟨rfl, rfl⟩ (by decide +kernel) ⟨Nat.le_of_ble_eq_true rfl, Nat.le_of_ble_eq_true rfl⟩ ⟨Nat.le_of_ble_eq_true rfl, Nat.le_of_ble_eq_true rfl⟩ hl.1 rfl rfl (Nat.le_of_ble_eq_true rfl) dX7_mast_12
  replace hc1 := Classical.not_not.mp hc1
  refine hh_cSv C0 hp (As := [.int p1, .int 10, .int 60]) (rest := []) (n := 3) (hk_X7_demandWithin l D K ad hn_T0 p1 10 60 hc1.1 hc1.2) (hh_gS hm_333 hm_334 hm_335 hm_336) ⟨rfl, rfl⟩ (by decide +kernel) ⟨Nat.le_of_ble_eq_true rfl, Nat.le_of_ble_eq_true rfl⟩ ⟨Nat.zero_le _, Nat.zero_le _⟩ hl.1 rfl rfl (Nat.le_of_ble_eq_true rfl) dX7_mast_12 (fun v_12 H locs hv_12 hp => ?_)
  rw [hv_12] at hp
  refine lv_iload_n hx hb dX7_mast_15 rfl (lv_at hl 3 rfl) ?_
  refine lv_iconst (v := 0) hx hb dX7_mast_16 (by decide) ?_
  refine lv_iconst (v := 2) hx hb dX7_mast_17 (by decide) ?_
  rcases Classical.em (¬ (0 ≤ p2 ∧ p2 ≤ 2)) with hc2 | hc2
  · exact hx_cS C0 hxe ht hV hZ hp (As := [.int p2, .int 0, .int 2]) (rest := []) (n := 3) (hx_X7_demandWithin l hfl D K ad s1 s2 hn_v0 p2 0 2 hc2) (hx_gS hm_333 hm_334 hm_335 hm_336) ⟨rfl, rfl⟩ (by decide +kernel) ⟨Nat.le_of_ble_eq_true rfl, Nat.le_of_ble_eq_true rfl⟩ ⟨Nat.le_of_ble_eq_true rfl, Nat.le_of_ble_eq_true rfl⟩ hl.1 rfl rfl (Nat.le_of_ble_eq_true rfl) dX7_mast_18
  replace hc2 := Classical.not_not.mp hc2
  refine hh_cSv C0 hp (As := [.int p2, .int 0, .int 2]) (rest := []) (n := 3) (hk_X7_demandWithin l D K ad hn_T0 p2 0 2 hc2.1 hc2.2) (hh_gS hm_333 hm_334 hm_335 hm_336) ⟨rfl, rfl⟩ (by decide +kernel) ⟨Nat.le_of_ble_eq_true rfl, Nat.le_of_ble_eq_true rfl⟩ ⟨Nat.zero_le _, Nat.zero_le _⟩ hl.1 rfl rfl (Nat.le_of_ble_eq_true rfl) dX7_mast_18 (fun v_18 H locs hv_18 hp => ?_)
  rw [hv_18] at hp
  refine lv_iload hx hb dX7_mast_21 (lv_at hl 4 rfl) ?_
  refine lv_iconst (v := 1) hx hb dX7_mast_23 (by decide) ?_
  refine lv_iconst (v := 4) hx hb dX7_mast_24 (by decide) ?_
  rcases Classical.em (¬ (1 ≤ p3 ∧ p3 ≤ 4)) with hc3 | hc3
  · exact hx_cS C0 hxe ht hV hZ hp (As := [.int p3, .int 1, .int 4]) (rest := []) (n := 3) (hx_X7_demandWithin l hfl D K ad s1 s2 hn_v0 p3 1 4 hc3) (hx_gS hm_333 hm_334 hm_335 hm_336) ⟨rfl, rfl⟩ (by decide +kernel) ⟨Nat.le_of_ble_eq_true rfl, Nat.le_of_ble_eq_true rfl⟩ ⟨Nat.le_of_ble_eq_true rfl, Nat.le_of_ble_eq_true rfl⟩ hl.1 rfl rfl (Nat.le_of_ble_eq_true rfl) dX7_mast_25
  replace hc3 := Classical.not_not.mp hc3
  refine hh_cSv C0 hp (As := [.int p3, .int 1, .int 4]) (rest := []) (n := 3) (hk_X7_demandWithin l D K ad hn_T0 p3 1 4 hc3.1 hc3.2) (hh_gS hm_333 hm_334 hm_335 hm_336) ⟨rfl, rfl⟩ (by decide +kernel) ⟨Nat.le_of_ble_eq_true rfl, Nat.le_of_ble_eq_true rfl⟩ ⟨Nat.zero_le _, Nat.zero_le _⟩ hl.1 rfl rfl (Nat.le_of_ble_eq_true rfl) dX7_mast_25 (fun v_25 H locs hv_25 hp => ?_)
  rw [hv_25] at hp
  refine lv_iload hx hb dX7_mast_28 (lv_at hl 5 rfl) ?_
  refine lv_iconst (v := 0) hx hb dX7_mast_30 (by decide) ?_
  refine lv_iconst (v := 3) hx hb dX7_mast_31 (by decide) ?_
  rcases Classical.em (¬ (0 ≤ p4 ∧ p4 ≤ 3)) with hc4 | hc4
  · exact hx_cS C0 hxe ht hV hZ hp (As := [.int p4, .int 0, .int 3]) (rest := []) (n := 3) (hx_X7_demandWithin l hfl D K ad s1 s2 hn_v0 p4 0 3 hc4) (hx_gS hm_333 hm_334 hm_335 hm_336) ⟨rfl, rfl⟩ (by decide +kernel) ⟨Nat.le_of_ble_eq_true rfl, Nat.le_of_ble_eq_true rfl⟩ ⟨Nat.le_of_ble_eq_true rfl, Nat.le_of_ble_eq_true rfl⟩ hl.1 rfl rfl (Nat.le_of_ble_eq_true rfl) dX7_mast_32
  replace hc4 := Classical.not_not.mp hc4
  refine hh_cSv C0 hp (As := [.int p4, .int 0, .int 3]) (rest := []) (n := 3) (hk_X7_demandWithin l D K ad hn_T0 p4 0 3 hc4.1 hc4.2) (hh_gS hm_333 hm_334 hm_335 hm_336) ⟨rfl, rfl⟩ (by decide +kernel) ⟨Nat.le_of_ble_eq_true rfl, Nat.le_of_ble_eq_true rfl⟩ ⟨Nat.zero_le _, Nat.zero_le _⟩ hl.1 rfl rfl (Nat.le_of_ble_eq_true rfl) dX7_mast_32 (fun v_32 H locs hv_32 hp => ?_)
  rw [hv_32] at hp
  refine lv_iload hx hb dX7_mast_35 (lv_at hl 6 rfl) ?_
  refine lv_iconst (v := 0) hx hb dX7_mast_37 (by decide) ?_
  refine lv_iconst (v := 1) hx hb dX7_mast_38 (by decide) ?_
  rcases Classical.em (¬ (0 ≤ p5 ∧ p5 ≤ 1)) with hc5 | hc5
  · exact hx_cS C0 hxe ht hV hZ hp (As := [.int p5, .int 0, .int 1]) (rest := []) (n := 3) (hx_X7_demandWithin l hfl D K ad s1 s2 hn_v0 p5 0 1 hc5) (hx_gS hm_333 hm_334 hm_335 hm_336) ⟨rfl, rfl⟩ (by decide +kernel) ⟨Nat.le_of_ble_eq_true rfl, Nat.le_of_ble_eq_true rfl⟩ ⟨Nat.le_of_ble_eq_true rfl, Nat.le_of_ble_eq_true rfl⟩ hl.1 rfl rfl (Nat.le_of_ble_eq_true rfl) dX7_mast_39
  replace hc5 := Classical.not_not.mp hc5
  refine hh_cSv C0 hp (As := [.int p5, .int 0, .int 1]) (rest := []) (n := 3) (hk_X7_demandWithin l D K ad hn_T0 p5 0 1 hc5.1 hc5.2) (hh_gS hm_333 hm_334 hm_335 hm_336) ⟨rfl, rfl⟩ (by decide +kernel) ⟨Nat.le_of_ble_eq_true rfl, Nat.le_of_ble_eq_true rfl⟩ ⟨Nat.zero_le _, Nat.zero_le _⟩ hl.1 rfl rfl (Nat.le_of_ble_eq_true rfl) dX7_mast_39 (fun v_39 H locs hv_39 hp => ?_)
  rw [hv_39] at hp
  exact absurd ⟨hc0, hc1, hc2, hc3, hc4, hc5⟩ hvd
set_option maxHeartbeats 4000000 in
set_option maxRecDepth 100000 in
theorem hx_X7_handset (l : Launch) (hfl : l.stackTraces = false) (D : va_G) (K : Nat → ClassId) (ad : Nat → Nat) (s1 s2 : Nat) (p0 p1 p2 p3 : Int32) (hvd : ¬ hv_handset p0 p1 p2 p3) : hx_K l D K ad s1 s2 yX7_handset (hx_wm yX7_handset cX7_handset 6 (some .int)) { frames := 7, cells := 1, slots := 6, locals := 104 } [.ref (ad 0), .int p0, .int p1, .int p2, .int p3] hn_v0 hx_A := by
  refine hx_K_of (by decide) (Nat.le_of_ble_eq_true rfl) ?_
  intro p e s m args below meth c ls A C0 hxe ht hV hZ hp hl
  obtain ⟨hx, hb, hr9, hml, hown, hts, hK, hlk, hA⟩ := id C0
  have hl : lv_has ls 6 [(0, .ref (ad 0)), (1, .int p0), (2, .int p1), (3, .int p2), (4, .int p3)] := hl
  refine lv_iload_n hx hb dX7_handset_0 rfl (lv_at hl 1 rfl) ?_
  refine lv_iconst (v := 0) hx hb dX7_handset_1 (by decide) ?_
  refine lv_iconst (v := 1) hx hb dX7_handset_2 (by decide) ?_
  rcases Classical.em (¬ (0 ≤ p0 ∧ p0 ≤ 1)) with hc0 | hc0
  · exact hx_cS C0 hxe ht hV hZ hp (As := [.int p0, .int 0, .int 1]) (rest := []) (n := 3) (hx_X7_demandWithin l hfl D K ad s1 s2 hn_v0 p0 0 1 hc0) (hx_gS hm_333 hm_334 hm_335 hm_336) ⟨rfl, rfl⟩ (by decide +kernel) ⟨Nat.le_of_ble_eq_true rfl, Nat.le_of_ble_eq_true rfl⟩ ⟨Nat.le_of_ble_eq_true rfl, Nat.le_of_ble_eq_true rfl⟩ hl.1 rfl rfl (Nat.le_of_ble_eq_true rfl) dX7_handset_3
  replace hc0 := Classical.not_not.mp hc0
  refine hh_cSv C0 hp (As := [.int p0, .int 0, .int 1]) (rest := []) (n := 3) (hk_X7_demandWithin l D K ad hn_T0 p0 0 1 hc0.1 hc0.2) (hh_gS hm_333 hm_334 hm_335 hm_336) ⟨rfl, rfl⟩ (by decide +kernel) ⟨Nat.le_of_ble_eq_true rfl, Nat.le_of_ble_eq_true rfl⟩ ⟨Nat.zero_le _, Nat.zero_le _⟩ hl.1 rfl rfl (Nat.le_of_ble_eq_true rfl) dX7_handset_3 (fun v_3 H locs hv_3 hp => ?_)
  rw [hv_3] at hp
  refine lv_iload_n hx hb dX7_handset_6 rfl (lv_at hl 2 rfl) ?_
  refine lv_iconst (v := 0) hx hb dX7_handset_7 (by decide) ?_
  refine lv_bipush (v := 99) hx hb dX7_handset_8 (by decide) ?_
  rcases Classical.em (¬ (0 ≤ p1 ∧ p1 ≤ 99)) with hc1 | hc1
  · exact hx_cS C0 hxe ht hV hZ hp (As := [.int p1, .int 0, .int 99]) (rest := []) (n := 3) (hx_X7_demandWithin l hfl D K ad s1 s2 hn_v0 p1 0 99 hc1) (hx_gS hm_333 hm_334 hm_335 hm_336) ⟨rfl, rfl⟩ (by decide +kernel) ⟨Nat.le_of_ble_eq_true rfl, Nat.le_of_ble_eq_true rfl⟩ ⟨Nat.le_of_ble_eq_true rfl, Nat.le_of_ble_eq_true rfl⟩ hl.1 rfl rfl (Nat.le_of_ble_eq_true rfl) dX7_handset_10
  replace hc1 := Classical.not_not.mp hc1
  refine hh_cSv C0 hp (As := [.int p1, .int 0, .int 99]) (rest := []) (n := 3) (hk_X7_demandWithin l D K ad hn_T0 p1 0 99 hc1.1 hc1.2) (hh_gS hm_333 hm_334 hm_335 hm_336) ⟨rfl, rfl⟩ (by decide +kernel) ⟨Nat.le_of_ble_eq_true rfl, Nat.le_of_ble_eq_true rfl⟩ ⟨Nat.zero_le _, Nat.zero_le _⟩ hl.1 rfl rfl (Nat.le_of_ble_eq_true rfl) dX7_handset_10 (fun v_10 H locs hv_10 hp => ?_)
  rw [hv_10] at hp
  refine lv_iload_n hx hb dX7_handset_13 rfl (lv_at hl 3 rfl) ?_
  refine lv_bipush (v := (-3)) hx hb dX7_handset_14 (by decide) ?_
  refine lv_iconst (v := 3) hx hb dX7_handset_16 (by decide) ?_
  rcases Classical.em (¬ ((-3) ≤ p2 ∧ p2 ≤ 3)) with hc2 | hc2
  · exact hx_cS C0 hxe ht hV hZ hp (As := [.int p2, .int (-3), .int 3]) (rest := []) (n := 3) (hx_X7_demandWithin l hfl D K ad s1 s2 hn_v0 p2 (-3) 3 hc2) (hx_gS hm_333 hm_334 hm_335 hm_336) ⟨rfl, rfl⟩ (by decide +kernel) ⟨Nat.le_of_ble_eq_true rfl, Nat.le_of_ble_eq_true rfl⟩ ⟨Nat.le_of_ble_eq_true rfl, Nat.le_of_ble_eq_true rfl⟩ hl.1 rfl rfl (Nat.le_of_ble_eq_true rfl) dX7_handset_17
  replace hc2 := Classical.not_not.mp hc2
  refine hh_cSv C0 hp (As := [.int p2, .int (-3), .int 3]) (rest := []) (n := 3) (hk_X7_demandWithin l D K ad hn_T0 p2 (-3) 3 hc2.1 hc2.2) (hh_gS hm_333 hm_334 hm_335 hm_336) ⟨rfl, rfl⟩ (by decide +kernel) ⟨Nat.le_of_ble_eq_true rfl, Nat.le_of_ble_eq_true rfl⟩ ⟨Nat.zero_le _, Nat.zero_le _⟩ hl.1 rfl rfl (Nat.le_of_ble_eq_true rfl) dX7_handset_17 (fun v_17 H locs hv_17 hp => ?_)
  rw [hv_17] at hp
  refine lv_iload hx hb dX7_handset_20 (lv_at hl 4 rfl) ?_
  refine lv_iconst (v := 0) hx hb dX7_handset_22 (by decide) ?_
  refine lv_sipush (v := 999) hx hb dX7_handset_23 (by decide) ?_
  rcases Classical.em (¬ (0 ≤ p3 ∧ p3 ≤ 999)) with hc3 | hc3
  · exact hx_cS C0 hxe ht hV hZ hp (As := [.int p3, .int 0, .int 999]) (rest := []) (n := 3) (hx_X7_demandWithin l hfl D K ad s1 s2 hn_v0 p3 0 999 hc3) (hx_gS hm_333 hm_334 hm_335 hm_336) ⟨rfl, rfl⟩ (by decide +kernel) ⟨Nat.le_of_ble_eq_true rfl, Nat.le_of_ble_eq_true rfl⟩ ⟨Nat.le_of_ble_eq_true rfl, Nat.le_of_ble_eq_true rfl⟩ hl.1 rfl rfl (Nat.le_of_ble_eq_true rfl) dX7_handset_26
  replace hc3 := Classical.not_not.mp hc3
  refine hh_cSv C0 hp (As := [.int p3, .int 0, .int 999]) (rest := []) (n := 3) (hk_X7_demandWithin l D K ad hn_T0 p3 0 999 hc3.1 hc3.2) (hh_gS hm_333 hm_334 hm_335 hm_336) ⟨rfl, rfl⟩ (by decide +kernel) ⟨Nat.le_of_ble_eq_true rfl, Nat.le_of_ble_eq_true rfl⟩ ⟨Nat.zero_le _, Nat.zero_le _⟩ hl.1 rfl rfl (Nat.le_of_ble_eq_true rfl) dX7_handset_26 (fun v_26 H locs hv_26 hp => ?_)
  rw [hv_26] at hp
  exact absurd ⟨hc0, hc1, hc2, hc3⟩ hvd
set_option maxHeartbeats 4000000 in
set_option maxRecDepth 100000 in
theorem hx_X7_pass (l : Launch) (hfl : l.stackTraces = false) (D : va_G) (K : Nat → ClassId) (ad : Nat → Nat) (s1 s2 : Nat) (p0 : Int32) (hvd : ¬ hv_pass p0) : hx_K l D K ad s1 s2 yX7_pass (hx_wm yX7_pass cX7_pass 4 (some .int)) { frames := 7, cells := 1, slots := 6, locals := 104 } [.ref (ad 0), .int p0] hn_v0 hx_A := by
  refine hx_K_of (by decide) (Nat.le_of_ble_eq_true rfl) ?_
  intro p e s m args below meth c ls A C0 hxe ht hV hZ hp hl
  obtain ⟨hx, hb, hr9, hml, hown, hts, hK, hlk, hA⟩ := id C0
  have hl : lv_has ls 4 [(0, .ref (ad 0)), (1, .int p0)] := hl
  refine lv_iload_n hx hb dX7_pass_0 rfl (lv_at hl 1 rfl) ?_
  refine lv_iconst (v := 1) hx hb dX7_pass_1 (by decide) ?_
  refine lv_bipush (v := 99) hx hb dX7_pass_2 (by decide) ?_
  rcases Classical.em (¬ (1 ≤ p0 ∧ p0 ≤ 99)) with hc0 | hc0
  · exact hx_cS C0 hxe ht hV hZ hp (As := [.int p0, .int 1, .int 99]) (rest := []) (n := 3) (hx_X7_demandWithin l hfl D K ad s1 s2 hn_v0 p0 1 99 hc0) (hx_gS hm_333 hm_334 hm_335 hm_336) ⟨rfl, rfl⟩ (by decide +kernel) ⟨Nat.le_of_ble_eq_true rfl, Nat.le_of_ble_eq_true rfl⟩ ⟨Nat.le_of_ble_eq_true rfl, Nat.le_of_ble_eq_true rfl⟩ hl.1 rfl rfl (Nat.le_of_ble_eq_true rfl) dX7_pass_4
  replace hc0 := Classical.not_not.mp hc0
  refine hh_cSv C0 hp (As := [.int p0, .int 1, .int 99]) (rest := []) (n := 3) (hk_X7_demandWithin l D K ad hn_T0 p0 1 99 hc0.1 hc0.2) (hh_gS hm_333 hm_334 hm_335 hm_336) ⟨rfl, rfl⟩ (by decide +kernel) ⟨Nat.le_of_ble_eq_true rfl, Nat.le_of_ble_eq_true rfl⟩ ⟨Nat.zero_le _, Nat.zero_le _⟩ hl.1 rfl rfl (Nat.le_of_ble_eq_true rfl) dX7_pass_4 (fun v_4 H locs hv_4 hp => ?_)
  rw [hv_4] at hp
  exact absurd hc0 hvd
set_option maxHeartbeats 4000000 in
set_option maxRecDepth 100000 in
theorem hx_X7_best (l : Launch) (hfl : l.stackTraces = false) (D : va_G) (K : Nat → ClassId) (ad : Nat → Nat) (s1 s2 : Nat) (p0 : Int32) (hvd : ¬ hv_best p0) : hx_K l D K ad s1 s2 yX7_best (hx_wm yX7_best cX7_best 2 (some .int)) { frames := 7, cells := 1, slots := 6, locals := 104 } [.ref (ad 0), .int p0] hn_v0 hx_A := by
  refine hx_K_of (by decide) (Nat.le_of_ble_eq_true rfl) ?_
  intro p e s m args below meth c ls A C0 hxe ht hV hZ hp hl
  obtain ⟨hx, hb, hr9, hml, hown, hts, hK, hlk, hA⟩ := id C0
  have hl : lv_has ls 2 [(0, .ref (ad 0)), (1, .int p0)] := hl
  refine lv_iload_n hx hb dX7_best_0 rfl (lv_at hl 1 rfl) ?_
  refine lv_iconst (v := 0) hx hb dX7_best_1 (by decide) ?_
  refine lv_bipush (v := 99) hx hb dX7_best_2 (by decide) ?_
  rcases Classical.em (¬ (0 ≤ p0 ∧ p0 ≤ 99)) with hc0 | hc0
  · exact hx_cS C0 hxe ht hV hZ hp (As := [.int p0, .int 0, .int 99]) (rest := []) (n := 3) (hx_X7_demandWithin l hfl D K ad s1 s2 hn_v0 p0 0 99 hc0) (hx_gS hm_333 hm_334 hm_335 hm_336) ⟨rfl, rfl⟩ (by decide +kernel) ⟨Nat.le_of_ble_eq_true rfl, Nat.le_of_ble_eq_true rfl⟩ ⟨Nat.le_of_ble_eq_true rfl, Nat.le_of_ble_eq_true rfl⟩ hl.1 rfl rfl (Nat.le_of_ble_eq_true rfl) dX7_best_4
  replace hc0 := Classical.not_not.mp hc0
  refine hh_cSv C0 hp (As := [.int p0, .int 0, .int 99]) (rest := []) (n := 3) (hk_X7_demandWithin l D K ad hn_T0 p0 0 99 hc0.1 hc0.2) (hh_gS hm_333 hm_334 hm_335 hm_336) ⟨rfl, rfl⟩ (by decide +kernel) ⟨Nat.le_of_ble_eq_true rfl, Nat.le_of_ble_eq_true rfl⟩ ⟨Nat.zero_le _, Nat.zero_le _⟩ hl.1 rfl rfl (Nat.le_of_ble_eq_true rfl) dX7_best_4 (fun v_4 H locs hv_4 hp => ?_)
  rw [hv_4] at hp
  exact absurd hc0 hvd
set_option maxHeartbeats 4000000 in
set_option maxRecDepth 100000 in
theorem hx_X7_many (l : Launch) (hfl : l.stackTraces = false) (D : va_G) (K : Nat → ClassId) (ad : Nat → Nat) (s1 s2 : Nat) (p0 : Int32) (hvd : ¬ hv_many p0) : hx_K l D K ad s1 s2 yX7_many (hx_wm yX7_many cX7_many 2 (some .int)) { frames := 7, cells := 1, slots := 6, locals := 104 } [.ref (ad 0), .int p0] hn_v0 hx_A := by
  refine hx_K_of (by decide) (Nat.le_of_ble_eq_true rfl) ?_
  intro p e s m args below meth c ls A C0 hxe ht hV hZ hp hl
  obtain ⟨hx, hb, hr9, hml, hown, hts, hK, hlk, hA⟩ := id C0
  have hl : lv_has ls 2 [(0, .ref (ad 0)), (1, .int p0)] := hl
  refine lv_iload_n hx hb dX7_many_0 rfl (lv_at hl 1 rfl) ?_
  refine lv_iconst (v := 0) hx hb dX7_many_1 (by decide) ?_
  refine lv_bipush (v := 14) hx hb dX7_many_2 (by decide) ?_
  rcases Classical.em (¬ (0 ≤ p0 ∧ p0 ≤ 14)) with hc0 | hc0
  · exact hx_cS C0 hxe ht hV hZ hp (As := [.int p0, .int 0, .int 14]) (rest := []) (n := 3) (hx_X7_demandWithin l hfl D K ad s1 s2 hn_v0 p0 0 14 hc0) (hx_gS hm_333 hm_334 hm_335 hm_336) ⟨rfl, rfl⟩ (by decide +kernel) ⟨Nat.le_of_ble_eq_true rfl, Nat.le_of_ble_eq_true rfl⟩ ⟨Nat.le_of_ble_eq_true rfl, Nat.le_of_ble_eq_true rfl⟩ hl.1 rfl rfl (Nat.le_of_ble_eq_true rfl) dX7_many_4
  replace hc0 := Classical.not_not.mp hc0
  refine hh_cSv C0 hp (As := [.int p0, .int 0, .int 14]) (rest := []) (n := 3) (hk_X7_demandWithin l D K ad hn_T0 p0 0 14 hc0.1 hc0.2) (hh_gS hm_333 hm_334 hm_335 hm_336) ⟨rfl, rfl⟩ (by decide +kernel) ⟨Nat.le_of_ble_eq_true rfl, Nat.le_of_ble_eq_true rfl⟩ ⟨Nat.zero_le _, Nat.zero_le _⟩ hl.1 rfl rfl (Nat.le_of_ble_eq_true rfl) dX7_many_4 (fun v_4 H locs hv_4 hp => ?_)
  rw [hv_4] at hp
  exact absurd hc0 hvd
set_option maxHeartbeats 4000000 in
set_option maxRecDepth 100000 in
theorem hx_X7_bestPlace (l : Launch) (hfl : l.stackTraces = false) (D : va_G) (K : Nat → ClassId) (ad : Nat → Nat) (s1 s2 : Nat) (p0 p1 : Int32) (hvd : ¬ hv_bestPlace p0 p1) : hx_K l D K ad s1 s2 yX7_bestPlace (hx_wm yX7_bestPlace cX7_bestPlace 3 (some .int)) { frames := 7, cells := 1, slots := 6, locals := 104 } [.ref (ad 0), .int p0, .int p1] hn_v0 hx_A := by
  refine hx_K_of (by decide) (Nat.le_of_ble_eq_true rfl) ?_
  intro p e s m args below meth c ls A C0 hxe ht hV hZ hp hl
  obtain ⟨hx, hb, hr9, hml, hown, hts, hK, hlk, hA⟩ := id C0
  have hl : lv_has ls 3 [(0, .ref (ad 0)), (1, .int p0), (2, .int p1)] := hl
  refine lv_iload_n hx hb dX7_bestPlace_0 rfl (lv_at hl 1 rfl) ?_
  refine lv_bipush (v := 10) hx hb dX7_bestPlace_1 (by decide) ?_
  refine lv_bipush (v := 60) hx hb dX7_bestPlace_3 (by decide) ?_
  rcases Classical.em (¬ (10 ≤ p0 ∧ p0 ≤ 60)) with hc0 | hc0
  · exact hx_cS C0 hxe ht hV hZ hp (As := [.int p0, .int 10, .int 60]) (rest := []) (n := 3) (hx_X7_demandWithin l hfl D K ad s1 s2 hn_v0 p0 10 60 hc0) (hx_gS hm_333 hm_334 hm_335 hm_336) ⟨rfl, rfl⟩ (by decide +kernel) ⟨Nat.le_of_ble_eq_true rfl, Nat.le_of_ble_eq_true rfl⟩ ⟨Nat.le_of_ble_eq_true rfl, Nat.le_of_ble_eq_true rfl⟩ hl.1 rfl rfl (Nat.le_of_ble_eq_true rfl) dX7_bestPlace_5
  replace hc0 := Classical.not_not.mp hc0
  refine hh_cSv C0 hp (As := [.int p0, .int 10, .int 60]) (rest := []) (n := 3) (hk_X7_demandWithin l D K ad hn_T0 p0 10 60 hc0.1 hc0.2) (hh_gS hm_333 hm_334 hm_335 hm_336) ⟨rfl, rfl⟩ (by decide +kernel) ⟨Nat.le_of_ble_eq_true rfl, Nat.le_of_ble_eq_true rfl⟩ ⟨Nat.zero_le _, Nat.zero_le _⟩ hl.1 rfl rfl (Nat.le_of_ble_eq_true rfl) dX7_bestPlace_5 (fun v_5 H locs hv_5 hp => ?_)
  rw [hv_5] at hp
  refine lv_iload_n hx hb dX7_bestPlace_8 rfl (lv_at hl 2 rfl) ?_
  refine lv_iconst (v := 0) hx hb dX7_bestPlace_9 (by decide) ?_
  refine lv_iconst (v := 2) hx hb dX7_bestPlace_10 (by decide) ?_
  rcases Classical.em (¬ (0 ≤ p1 ∧ p1 ≤ 2)) with hc1 | hc1
  · exact hx_cS C0 hxe ht hV hZ hp (As := [.int p1, .int 0, .int 2]) (rest := []) (n := 3) (hx_X7_demandWithin l hfl D K ad s1 s2 hn_v0 p1 0 2 hc1) (hx_gS hm_333 hm_334 hm_335 hm_336) ⟨rfl, rfl⟩ (by decide +kernel) ⟨Nat.le_of_ble_eq_true rfl, Nat.le_of_ble_eq_true rfl⟩ ⟨Nat.le_of_ble_eq_true rfl, Nat.le_of_ble_eq_true rfl⟩ hl.1 rfl rfl (Nat.le_of_ble_eq_true rfl) dX7_bestPlace_11
  replace hc1 := Classical.not_not.mp hc1
  refine hh_cSv C0 hp (As := [.int p1, .int 0, .int 2]) (rest := []) (n := 3) (hk_X7_demandWithin l D K ad hn_T0 p1 0 2 hc1.1 hc1.2) (hh_gS hm_333 hm_334 hm_335 hm_336) ⟨rfl, rfl⟩ (by decide +kernel) ⟨Nat.le_of_ble_eq_true rfl, Nat.le_of_ble_eq_true rfl⟩ ⟨Nat.zero_le _, Nat.zero_le _⟩ hl.1 rfl rfl (Nat.le_of_ble_eq_true rfl) dX7_bestPlace_11 (fun v_11 H locs hv_11 hp => ?_)
  rw [hv_11] at hp
  exact absurd ⟨hc0, hc1⟩ hvd
