/-! THE REFERENCE'S WORLD: a list of cells over its own classes; contracts that take the whole of it -/
abbrev hr_cl : List vw_C := [(RJx4a65c, TJx4a65c, 3), (RX11, TX11, 5), (RX12, TX12, 4), (RX9, TX9, 9), (RX10, TX10, 12), (RJx35411, TJx35411, 4)]
abbrev hr_wm (y : MethodName) (cc : ByteArray) (nL : Nat) (ret : Option FieldType) : List Cond := Cond.code y cc nL ret :: hr_wa
def hr_nx : MethodName := ⟨"java/util/Iterator", "next", "()Ljava/lang/Object;"⟩
def hr_hn : MethodName := ⟨"java/util/Iterator", "hasNext", "()Z"⟩
abbrev hr_eN : String := "DEFAULTCAPACITY_EMPTY_ELEMENTDATA"
abbrev hr_eD : String := "[Ljava/lang/Object;"
/-- the empty row of the lists, that their class's static names -/
def hr_Z (z : Nat) (A : Nat → Prop) (U : State) (H : Heap) : Prop := va_Z RJx4a65c hr_eN hr_eD (.ref z) A U H ∧ ∃ cell : Cell, H[z]? = some cell ∧ U.isArrayOf cell (.object "java/lang/Object") ∧ cell.vm ≠ .unknown ∧ cell.slots.size = 0 ∧ ¬ A z
theorem hr_Z.moved {z : Nat} {A : Nat → Prop} {u U : State} {H : Heap} (hvm : u.vm.Alike U.vm) (h : hr_Z z A u H) : hr_Z z A U H := by
  obtain ⟨h0, cell, h1, h2, h3⟩ := h
  exact ⟨va_Z.moved hvm h0, cell, h1, State.isArrayOf_alike hvm h2, h3⟩
theorem hr_Z.kept {z : Nat} {A : Nat → Prop} {U : State} {H H1 : Heap} (h : hr_Z z A U H) (hq : ∀ a : Nat, a < H.size → ¬ A a → H1[a]? = H[a]?) : hr_Z z A U H1 := by
  obtain ⟨h0, cell, h1, h2, h3, h4, h5⟩ := h
  exact ⟨va_Z.kept h0 hq, cell, by rw [hq z (Array.getElem?_eq_some_iff.mp h1).1 h5]; exact h1, h2, h3, h4, h5⟩
theorem hr_Z.narrow {z : Nat} {A B : Nat → Prop} {U : State} {H : Heap} (h : hr_Z z A U H) (hAB : ∀ q, B q → A q) : hr_Z z B U H := by
  obtain ⟨h0, cell, h1, h2, h3, h4, h5⟩ := h
  exact ⟨va_Z.narrow h0 hAB, cell, h1, h2, h3, h4, fun q => h5 (hAB _ q)⟩
/-- what of the tables no list of words holds, and the empty row -/
def hr_V (U : State) : Prop := va_Nw (.methodLinkNest RX12 9 yX11_init RX12) U ∧ va_Nw (.methodLinkNest RX11 125 yX12_one RX12) U ∧ va_Nw (.fieldLinkNest RJx35411 28 RJx4a65c "size" "I" RJx4a65c) U ∧ va_Fw RJx35411 hr_hn yJx35411_hasNext_aae02 U ∧ va_AO "java/lang/Object" U ∧ (Cond.arrayOver (.array .int)).before #[] U = true ∧ va_Nw (.castable RX9 "java/lang/Object") U ∧ va_Nw (.castable RX10 "java/lang/Object") U ∧ va_Fw RJx35411 hr_nx yJx35411_next_0502b U
theorem hr_V.warm {s U : State} (hW : s.WarmedH U.vm) (h : hr_V s) : hr_V U := ⟨h.1.warmM hW, h.2.1.warmM hW, h.2.2.1.warmF hW, h.2.2.2.1.moved (by decide) hW.alike, h.2.2.2.2.1.moved hW.alike, hn_over hW.alike h.2.2.2.2.2.1, h.2.2.2.2.2.2.1.warmC hW, h.2.2.2.2.2.2.2.1.warmC hW, h.2.2.2.2.2.2.2.2.moved (by decide) hW.alike⟩
theorem hr_V.same {u U : State} (e : u.vm = U.vm) (h : hr_V u) : hr_V U := ⟨h.1.same rfl e, h.2.1.same rfl e, h.2.2.1.same rfl e, h.2.2.2.1.moved (by decide) (e ▸ Vm.Alike.refl _), h.2.2.2.2.1.moved (e ▸ Vm.Alike.refl _), hn_over (e ▸ Vm.Alike.refl _) h.2.2.2.2.2.1, h.2.2.2.2.2.2.1.same rfl e, h.2.2.2.2.2.2.2.1.same rfl e, h.2.2.2.2.2.2.2.2.moved (by decide) (e ▸ Vm.Alike.refl _)⟩
def hr_N (z : Nat) (A : Nat → Prop) (U : State) (H : Heap) : Prop := hr_V U ∧ hr_Z z A U H
def hr_H (D : va_G) (A : Nat → Prop) (H0 : Heap) (Y : va_W) (H : Heap) (locs : List Loc) : Prop := va_P D hr_cl Y H ∧ va_D A Y ∧ va_S A H0 H locs
def hr_pre (D : va_G) (z : Nat) (As : List Value) (Y : va_W) (sz : Nat) : Array Value → State → Prop := va_Pc As (fun U => U.heap.size = sz ∧ va_P D hr_cl Y U.heap ∧ va_K D hr_cl [] U ∧ va_D (fun _ => True) Y ∧ hr_N z (va_A Y sz) U U.heap)
def hr_B (D : va_G) (A : Nat → Prop) (Y : va_W) (t : State) : Prop := va_P D hr_cl Y t.heap ∧ va_D A Y
def hr_Ki (l : Launch) (D : va_G) (z : Nat) (y : MethodName) (ws : List Cond) (rm : Room) (As : List Value) (Y : va_W) (mc ms : Nat) {S : Type} (φ : Int32 → S → Prop) (Wf : S → va_W) : Prop := ∀ sz : Nat, Met l y ws rm (hr_pre D z As Y sz) (va_Qi φ (fun u t => hr_B D (va_A Y sz) (Wf u) t) (va_A Y sz)) mc ms (va_A Y sz)
def hr_Kv (l : Launch) (D : va_G) (z : Nat) (y : MethodName) (ws : List Cond) (rm : Room) (As : List Value) (Y : va_W) (mc ms : Nat) {S : Type} (φ : S → Prop) (Wf : S → va_W) : Prop := ∀ sz : Nat, Met l y ws rm (hr_pre D z As Y sz) (va_Qv φ (fun u t => hr_B D (va_A Y sz) (Wf u) t) (va_A Y sz)) mc ms (va_A Y sz)
def hr_Kr (l : Launch) (D : va_G) (z : Nat) (y : MethodName) (ws : List Cond) (rm : Room) (As : List Value) (Y : va_W) (mc ms : Nat) {S : Type} (φ : S → Prop) (Wf : S → Nat → va_W) (Tf : S → List (ClassId × FieldType)) : Prop := ∀ sz : Nat, Met l y ws rm (hr_pre D z As Y sz) (va_Qr φ (fun u a t => hr_B D (va_A Y sz) (Wf u a) t ∧ va_K D hr_cl (Tf u) t) (va_A Y sz)) mc ms (va_A Y sz)
def hr_Kl (l : Launch) (D : va_G) (z : Nat) (y : MethodName) (ws : List Cond) (rm : Room) (As : List Value) (Y : va_W) (mc ms : Nat) {S : Type} (φ : Int64 → S → Prop) (Wf : S → va_W) : Prop := ∀ sz : Nat, Met l y ws rm (hr_pre D z As Y sz) (va_Ql φ (fun u t => hr_B D (va_A Y sz) (Wf u) t) (va_A Y sz)) mc ms (va_A Y sz)
def hr_Kd (l : Launch) (D : va_G) (z : Nat) (y : MethodName) (ws : List Cond) (rm : Room) (As : List Value) (Y : va_W) (mc ms : Nat) {S : Type} (φ : UInt64 → S → Prop) (Wf : S → va_W) : Prop := ∀ sz : Nat, Met l y ws rm (hr_pre D z As Y sz) (va_Qd φ (fun u t => hr_B D (va_A Y sz) (Wf u) t) (va_A Y sz)) mc ms (va_A Y sz)
theorem hr_blind {D : va_G} {z : Nat} {As : List Value} {Y : va_W} {sz : Nat} : FrameBlind (hr_pre D z As Y sz) := by
  intro a U g mk q
  obtain ⟨q0, q1, qP, qK, qD, qN⟩ := q
  exact ⟨q0, q1, qP, va_K.moved (u := U) (U := U.calling g mk a) (Vm.Alike.refl U.vm) qK, qD, qN.1.same rfl, qN.2.moved (u := U) (U := U.calling g mk a) (Vm.Alike.refl U.vm)⟩
/-- what a walk has at hand -/
def hr_C (p : Program) (s : State) (m : MethodId) (args : Array Value) (meth : Method) (c : Code) (D : va_G) (z : Nat) (cc : ByteArray) (nL : Nat) (ret : Option FieldType) (own nm : String) (A : Nat → Prop) : Prop :=
  p.tables.exec = Jvm.exec ∧ c.code = cc ∧ meth.sig.returnType = ret ∧ c.maxLocals = nL ∧ s.vm.findClass own = some m.cls ∧ (∀ w ∈ hr_wa, w.before args s = true) ∧ va_K D hr_cl [] s ∧ meth.locks = false ∧ (∀ q, s.heap.size ≤ q → A q) ∧ hr_N z A s s.heap ∧ meth.name = nm
section HRM
variable {l : Launch} {D : va_G} {z : Nat} {y : MethodName} {cc : ByteArray} {nL mc ms : Nat} {ret : Option FieldType} {rm : Room} {As : List Value} {Y : va_W}
theorem hr_enter {Qc : Array Value → State → Outcome → State → Prop} {sz : Nat} (hy : plainName y.cls = true) (hn : (lg_sl As).length ≤ nL)
    (body : ∀ (p : Program) (e : Env) (s : State) (m : MethodId) (args : Array Value) (below : List Frame) (meth : Method) (c : Code) (ls : Array Slot) (A : Nat → Prop), s.heap.size = sz → A = va_A Y sz → hr_C p s m args meth c D z cc nL ret y.cls y.name A → hr_H D A s.heap Y s.heap [] → lv_has ls nL (lv_args 0 As) → W p l e rm s m args below meth c s.heap [] 0 0 (MQ below Qc args s mc ms A) (F0 m 0 ls [])) :
    Met l y (hr_wm y cc nL ret) rm (hr_pre D z As Y sz) Qc mc ms (va_A Y sz) := by
  refine Met.ofW (cc := cc) (maxL := nL) (ret := ret) hy rfl ?_
  intro p e s m args below meth c s₁ B hml hv
  obtain ⟨rfl, hsz, hP, hK, hD0, hN⟩ := hv
  have hts := atoms_spec (ws := hr_wm y cc nL ret) B.pre
  subst hsz
  have hl := lv_entry As (n := nL) hn
  rw [lg_entry_eq]
  exact body p e s m _ below meth c _ _ rfl rfl ⟨B.exec, B.bytes, B.returns, hml, findClass_of_methodNamed B.named, fun w hw => hts w (List.mem_cons_of_mem _ hw), hK, B.notSynchronized, fun q h => Or.inr h, hN, (name_of_methodNamed B.named B.method).1⟩ ⟨hP, hD0.self, va_S.rf⟩ hl
end HRM
theorem hr_gV {own C : String} {index nL : Nat} {y : MethodName} {bytes : ByteArray} {ret : Option FieldType} (h1 : Cond.methodLink own index y ∈ hr_wa) (h2 : Cond.instanceMethod y ∈ hr_wa) (h3 : Cond.selects C y y ∈ hr_wa) (h4 : Cond.initialized C ∈ hr_wa) (h5 : Cond.code y bytes nL ret ∈ hr_wa) : GoodIn hr_wa (wsV own index C y (hr_wm y bytes nL ret)) := by
  intro w hw
  unfold wsV at hw
  rcases List.mem_append.mp hw with hw | hw
  · simp only [List.mem_cons, List.not_mem_nil, or_false] at hw
    rcases hw with rfl | rfl | rfl | rfl
    · exact hr_good _ h1
    · exact hr_good _ h2
    · exact hr_good _ h3
    · exact hr_good _ h4
  · rcases List.mem_cons.mp hw with rfl | hw
    · exact hr_good _ h5
    · exact hr_good _ hw
theorem hr_gS {own : String} {index nL : Nat} {y : MethodName} {bytes : ByteArray} {ret : Option FieldType} (h1 : Cond.methodLink own index y ∈ hr_wa) (h2 : Cond.static y ∈ hr_wa) (h4 : Cond.initialized own ∈ hr_wa) (h5 : Cond.code y bytes nL ret ∈ hr_wa) : GoodIn hr_wa (wsS own index y (hr_wm y bytes nL ret)) := by
  intro w hw
  unfold wsS at hw
  rcases List.mem_append.mp hw with hw | hw
  · simp only [List.mem_cons, List.not_mem_nil, or_false] at hw
    rcases hw with rfl | rfl | rfl
    · exact hr_good _ h1
    · exact hr_good _ h2
    · exact hr_good _ h4
  · rcases List.mem_cons.mp hw with rfl | hw
    · exact hr_good _ h5
    · exact hr_good _ hw
theorem hr_gd {y : MethodName} {bytes : ByteArray} {maxL : Nat} {ret : Option FieldType} (h : Cond.code y bytes maxL ret ∈ hr_wa) : GoodIn hr_wa (hr_wm y bytes maxL ret) := by
  intro w hw
  rcases List.mem_cons.mp hw with rfl | hw
  · exact hr_good _ h
  · exact hr_good _ hw
theorem hr_gF {own C : String} {index nL : Nat} {x y : MethodName} {bytes : ByteArray} {ret : Option FieldType} (h1 : Cond.methodLink own index x ∈ hr_wa) (h3 : Cond.selects C x y ∈ hr_wa) (h2 : Cond.instanceMethod y ∈ hr_wa) (h4 : Cond.initialized y.cls ∈ hr_wa) (h5 : Cond.code y bytes nL ret ∈ hr_wa) : GoodIn hr_wa (va_wsF own index C x y (hr_wm y bytes nL ret)) := by
  intro w hw
  unfold va_wsF at hw
  rcases List.mem_append.mp hw with hw | hw
  · simp only [List.mem_cons, List.not_mem_nil, or_false] at hw
    rcases hw with rfl | rfl | rfl | rfl
    · exact hr_good _ h1
    · exact hr_good _ h3
    · exact hr_good _ h2
    · exact hr_good _ h4
  · rcases List.mem_cons.mp hw with rfl | hw
    · exact hr_good _ h5
    · exact hr_good _ hw
section HRW
variable {D : va_G} {cl : List vw_C} {a b : va_W} {H : Heap} {A : Nat → Prop}
theorem hr_Pl (h : va_P D cl (a ++ b) H) : va_P D cl a H := fun k q hk => h k q (by rw [List.getElem?_append_left (List.getElem?_eq_some_iff.mp hk).1]; exact hk)
theorem hr_at {k : Nat} {q : Nat × va_E} (hk : b[k]? = some q) : (a ++ b)[a.length + k]? = some q := by rw [List.getElem?_append_right (Nat.le_add_right _ _), Nat.add_sub_cancel_left]; exact hk
theorem hr_Pr (h : va_P D cl (a ++ b) H) : va_P D cl b H := fun k q hk => h (a.length + k) q (hr_at hk)
theorem hr_Dl (h : va_D A (a ++ b)) : va_D A a := ⟨fun i j p q hi hj e => h.1 i j p q (by rw [List.getElem?_append_left (List.getElem?_eq_some_iff.mp hi).1]; exact hi) (by rw [List.getElem?_append_left (List.getElem?_eq_some_iff.mp hj).1]; exact hj) e, fun k q hk => h.2 k q (by rw [List.getElem?_append_left (List.getElem?_eq_some_iff.mp hk).1]; exact hk)⟩
theorem hr_Dr (h : va_D A (a ++ b)) : va_D A b := ⟨fun i j p q hi hj e => by
  have := h.1 (a.length + i) (a.length + j) p q (hr_at hi) (hr_at hj) e
  omega, fun k q hk => h.2 (a.length + k) q (hr_at hk)⟩
theorem hr_Dx (h : va_D A (a ++ b)) {i j : Nat} {p q : Nat × va_E} (hi : a[i]? = some p) (hj : b[j]? = some q) : p.1 ≠ q.1 := fun e => by
  have hlt := (List.getElem?_eq_some_iff.mp hi).1
  have := h.1 i (a.length + j) p q (by rw [List.getElem?_append_left hlt]; exact hi) (hr_at hj) e
  omega
end HRW
section HRR
variable {p : Program} {l : Launch} {e : Env} {R : Room} {s : State} {m : MethodId} {args : Array Value} {below : List Frame} {meth : Method} {c : Code} {H : Heap} {locs : List Loc} {cells slots : Nat} {Q : State → Prop}
variable {cc : ByteArray} {pc nL : Nat} {ls : Array Slot} {rest st0 : List Value} {D : va_G} {z : Nat} {A : Nat → Prop} {ret : Option FieldType} {own nm : String} {Y Y0 X : va_W}
theorem hr_drop (h : hr_H D A s.heap (Y ++ X) H locs) : hr_H D A s.heap Y H locs := ⟨hr_Pl h.1, hr_Dl h.2.1, h.2.2⟩
/-- a field is read, is written -/
theorem hr_get (C0 : hr_C p s m args meth c D z cc nL ret own nm A) (hp : hr_H D A s.heap Y H locs) {ci N index a q0 : Nat} {C ref : String} {T : u_T} {fs : List Value} (he : Y[q0]? = some (a, .inr (ci, fs))) (hc : hr_cl[ci]? = some (C, T, N)) (hin : ∀ w ∈ u_ws C T N, w ∈ hr_wa) (k : Nat) (hk : k < N) (hw : Cond.fieldLink own index ref (T k).2.1 (T k).2.2.1 ∈ hr_wa) (hsame : ∀ x, s.fieldFound? (T k).1 (T k).2.1 (T k).2.2.1 = some x → s.fieldFound? ref (T k).2.1 (T k).2.2.1 = some x) {x : Value} (hv : fs[k]? = some x) (hdg : decode cc pc = .ok (.getfield index, 3))
    (kk : W p l e R s m args below meth c H locs cells slots Q (F0 m (pc + 3) ls (x :: rest))) : W p l e R s m args below meth c H locs cells slots Q (F0 m pc ls (.ref a :: rest)) := by
  obtain ⟨hx, hb, hr, hml, hown, hts, hK, hlk, hA, -, -⟩ := C0
  exact va_get (D := D) (cl := hr_cl) (ws := Y) hx hb hts hin hown hK hp.1 q0 he hc k hk (hts _ hw) hsame hv hdg kk
theorem hr_put (C0 : hr_C p s m args meth c D z cc nL ret own nm A) (hp : hr_H D A s.heap Y H locs) {ci N index a q0 : Nat} {C ref : String} {T : u_T} {ty0 : Nat → FieldType} {fs : List Value} (he : Y[q0]? = some (a, .inr (ci, fs))) (hc : hr_cl[ci]? = some (C, T, N)) (hin : ∀ w ∈ u_ws C T N, w ∈ hr_wa) (hty : ∀ k, k < N → parseFieldDescriptor (T k).2.2.1 = some (ty0 k)) (hnm : ∀ a, a < N → ∀ b, b < N → a ≠ b → (T a).2.1 ≠ (T b).2.1) (k : Nat) (hk : k < N) (hw : Cond.fieldLink own index ref (T k).2.1 (T k).2.2.1 ∈ hr_wa) (hsame : ∀ x, s.fieldFound? (T k).1 (T k).2.1 (T k).2.2.1 = some x → s.fieldFound? ref (T k).2.1 (T k).2.2.1 = some x) (hfin : (T k).2.2.2 = false) {ty : FieldType} {v : Value} (hd : parseFieldDescriptor (T k).2.2.1 = some ty) (hn : narrow ty v = v) (hfit : fits ty v = true) (hl : k < fs.length) {Y' : va_W} (hY : Y.set q0 (a, .inr (ci, fs.set k v)) = Y') (hdg : decode cc pc = .ok (.putfield index, 3))
    (kk : ∀ (H : Heap) (locs : List Loc), hr_H D A s.heap Y' H locs → W p l e R s m args below meth c H locs cells slots Q (F0 m (pc + 3) ls rest)) : W p l e R s m args below meth c H locs cells slots Q (F0 m pc ls (v :: .ref a :: rest)) := by
  obtain ⟨hx, hb, hr, hml, hown, hts, hK, hlk, hA, -, -⟩ := C0
  subst hY
  exact va_put (D := D) (cl := hr_cl) (ws := Y) hx hb hts hin ty0 hty hnm hown hK hp.1 hp.2.1 hp.2.2 q0 he hc k hk (hts _ hw) hsame hfin hd hn hfit hl hdg (fun H1 locs1 hP hD hS => kk H1 locs1 ⟨hP, hD, hS⟩)
theorem hr_putF (C0 : hr_C p s m args meth c D z cc nL ret own nm A) (hp : hr_H D A s.heap Y H locs) {ci N index a q0 : Nat} {C ref : String} {T : u_T} {ty0 : Nat → FieldType} {fs : List Value} (he : Y[q0]? = some (a, .inr (ci, fs))) (hc : hr_cl[ci]? = some (C, T, N)) (hin : ∀ w ∈ u_ws C T N, w ∈ hr_wa) (hty : ∀ k, k < N → parseFieldDescriptor (T k).2.2.1 = some (ty0 k)) (hnm : ∀ a, a < N → ∀ b, b < N → a ≠ b → (T a).2.1 ≠ (T b).2.1) (k : Nat) (hk : k < N) (hw : Cond.fieldLink own index ref (T k).2.1 (T k).2.2.1 ∈ hr_wa) (hsame : ∀ x, s.fieldFound? (T k).1 (T k).2.1 (T k).2.2.1 = some x → s.fieldFound? ref (T k).2.1 (T k).2.2.1 = some x) (hfin : (T k).2.2.2 = true) (hin2 : nm = "<init>") (hdecl : (T k).1 = own) {ty : FieldType} {v : Value} (hd : parseFieldDescriptor (T k).2.2.1 = some ty) (hn : narrow ty v = v) (hfit : fits ty v = true) (hl : k < fs.length) {Y' : va_W} (hY : Y.set q0 (a, .inr (ci, fs.set k v)) = Y') (hdg : decode cc pc = .ok (.putfield index, 3))
    (kk : ∀ (H : Heap) (locs : List Loc), hr_H D A s.heap Y' H locs → W p l e R s m args below meth c H locs cells slots Q (F0 m (pc + 3) ls rest)) : W p l e R s m args below meth c H locs cells slots Q (F0 m pc ls (v :: .ref a :: rest)) := by
  obtain ⟨hx, hb, hr, hml, hown, hts, hK, hlk, hA, -, hnm2⟩ := C0
  subst hY
  exact va_putF (D := D) (cl := hr_cl) (ws := Y) hx hb hts hin ty0 hty hnm hown hK hp.1 hp.2.1 hp.2.2 q0 he hc k hk (hts _ hw) hsame hfin (hnm2.trans hin2) hdecl hd hn hfit hl hdg (fun H1 locs1 hP hD hS => kk H1 locs1 ⟨hP, hD, hS⟩)
theorem hr_new (C0 : hr_C p s m args meth c D z cc nL ret own nm A) (hp : hr_H D A s.heap Y H locs) {ci N index : Nat} {C : String} {T : u_T} {ty0 : Nat → FieldType} {fs : List Value} (hc : hr_cl[ci]? = some (C, T, N)) (hin : ∀ w ∈ u_ws C T N, w ∈ hr_wa) (hty : ∀ k, k < N → parseFieldDescriptor (T k).2.2.1 = some (ty0 k)) (h1 : Cond.classLink own index C ∈ hr_wa) (h2 : Cond.instantiable C N ∈ hr_wa) (h3 : Cond.initialized C ∈ hr_wa) (hfs : ∀ j, j < N → defaultValue (ty0 j) = vp_V fs j) (hcells : cells + 1 ≤ R.cells) (hslots : slots + N ≤ R.slots) (hdg : decode cc pc = .ok (.new index, 3))
    (kk : ∀ (q : Nat) (H : Heap), hr_H D A s.heap (Y ++ [(q, .inr (ci, fs))]) H locs → W p l e R s m args below meth c H locs (cells + 1) (slots + N) Q (F0 m (pc + 3) ls (.ref q :: rest))) : W p l e R s m args below meth c H locs cells slots Q (F0 m pc ls rest) := by
  obtain ⟨hx, hb, hr, hml, hown, hts, hK, hlk, hA, -, -⟩ := C0
  exact va_new (D := D) (cl := hr_cl) (ws := Y) hx hb hts hin ty0 hty hown (hts _ h1) (hts _ h2) (hts _ h3) hK hp.1 hp.2.1 hp.2.2 hA hc hfs hcells hslots hdg (fun q H1 hP hD hS => kk q H1 ⟨hP, hD, hS⟩)
theorem hr_obj (C0 : hr_C p s m args meth c D z cc nL ret own nm A) {index b : Nat} (hlink : Cond.methodLink own index objectInit ∈ hr_wa) (hinst : Cond.instanceMethod objectInit ∈ hr_wa) (hcode : Cond.code objectInit ⟨#[0xb1]⟩ 1 none ∈ hr_wa) (hsz : ls.size = nL) (hdg : decode cc pc = .ok (.invokespecial index, 3)) (hfr : 1 ≤ R.frames) (hlo : 2 * (F0 m pc ls (.ref b :: rest)).monitorRoom + (rest.map fun v => v.category).sum + 12 ≤ R.locals)
    (kk : W p l e R s m args below meth c H locs cells slots Q (F0 m (pc + 3) ls rest)) : W p l e R s m args below meth c H locs cells slots Q (F0 m pc ls (.ref b :: rest)) := by
  obtain ⟨hx, hb, hr, hml, hown, hts, hK, hlk, hA, -, -⟩ := C0
  exact W.objInit hx hb hown (hts _ hlink) (hts _ hinst) (hts _ hcode) rfl (by rw [hml]; exact hsz) rfl hdg hfr hlo kk
end HRR
section HRC
variable {p : Program} {l : Launch} {e : Env} {R : Room} {s : State} {m : MethodId} {args : Array Value} {below : List Frame} {meth : Method} {c : Code} {H : Heap} {locs : List Loc} {cells slots : Nat} {Q : State → Prop}
variable {cc : ByteArray} {pc nL : Nat} {ls : Array Slot} {rest st0 : List Value} {D : va_G} {z : Nat} {A : Nat → Prop} {ret : Option FieldType} {own nm : String} {Y Y0 Y' X : va_W}
variable {Cn : String} {T : u_T} {N ci index maxL n mc ms b q0 : Nat} {y : MethodName} {bytes : ByteArray} {ret' : Option FieldType} {rm : Room} {As : List Value} {fs : List Value} {S : Type}
theorem hr_free (hp : hr_H D A s.heap (Y ++ X) H locs) (hA : ∀ q, s.heap.size ≤ q → A q) : ∀ q, va_A Y H.size q → A q := by
  intro q hq
  rcases hq with ⟨k, e', he⟩ | hq
  · exact (hr_Dl hp.2.1).2 k (q, e') he
  · exact hA q (Nat.le_trans hp.2.2.1 hq)
theorem hr_back (hp : hr_H D A s.heap (Y ++ X) H locs) (hA : ∀ q, s.heap.size ≤ q → A q) {H1 : Heap} {locs1 : List Loc} (hP1 : va_P D hr_cl Y' H1) (hD1 : va_D (va_A Y H.size) Y') (hk1 : ∀ q : Nat, q < H.size → ¬ va_A Y H.size q → H1[q]? = H[q]?) (hS1 : va_S A s.heap H1 locs1) : hr_H D A s.heap (Y' ++ X) H1 locs1 := by
  have hx : ∀ (k : Nat) (q : Nat × va_E), X[k]? = some q → q.1 < H.size ∧ ¬ va_A Y H.size q.1 := fun k q hk => by
    have hlt := (hr_Pr hp.1 k q hk).lt
    refine ⟨hlt, fun h => ?_⟩
    rcases h with ⟨k2, e2, h2⟩ | h2
    · exact hr_Dx hp.2.1 h2 hk rfl
    · omega
  refine ⟨va_P.app hP1 ((hr_Pr hp.1).kept (fun k q hk => hk1 q.1 (hx k q hk).1 (hx k q hk).2)), va_D.app (hD1.weaken (fun k q _ h => hr_free hp hA _ h)) (hr_Dr hp.2.1) (fun i j p q hi hj e => ?_), hS1⟩
  have h := hD1.2 i p hi
  rw [e] at h
  exact (hx j q hj).2 h
theorem hr_sub (hp : hr_H D A s.heap (Y ++ X) H locs) (hA : ∀ q, s.heap.size ≤ q → A q) (hN : hr_N z A s s.heap) {U : State} (hU : U.heap = H) (hW : s.WarmedH U.vm) : hr_N z (va_A Y H.size) U U.heap := ⟨hN.1.warm hW, by rw [hU]; exact ((hN.2.kept hp.2.2.2.1).moved hW.alike).narrow (hr_free hp hA)⟩
theorem hr_cVi {φ : Int32 → S → Prop} {Wf : S → va_W} (C0 : hr_C p s m args meth c D z cc nL ret own nm A) (hp : hr_H D A s.heap Y0 H locs) (X : va_W) (M : hr_Ki l D z y (hr_wm y bytes maxL ret') rm (.ref b :: As) Y mc ms φ Wf) (hY : Y0 = Y ++ X) {ci q0 : Nat} {T : u_T} {N : Nat} {fs : List Value} (he : Y[q0]? = some (b, .inr (ci, fs))) (hc : hr_cl[ci]? = some (Cn, T, N)) (g : GoodIn hr_wa (wsV own index Cn y (hr_wm y bytes maxL ret'))) (hrm : rm.cells = mc ∧ rm.slots = ms)
    (hd : y.cls = Cn ∧ y.cls ≠ "java/lang/invoke/MethodHandle" ∧ y.cls ≠ "java/lang/invoke/VarHandle" ∧ (parseMethodDescriptor y.desc).map (fun d => d.parameters.length) = some n) (hR : rm.frames + 1 ≤ R.frames ∧ 8 + (maxL + 11) + rm.locals ≤ R.locals) (hf : cells + mc ≤ R.cells ∧ slots + ms ≤ R.slots) (hsz : ls.size = nL) (hn : As.length = n) (hst0 : st0 = As.reverse ++ .ref b :: rest) (hst : (rest.map fun v => v.category).sum ≤ 8) (hdg : decode cc pc = .ok (.invokevirtual index, 3))
    (kk : ∀ (q : Int32) (u : S) (H : Heap) (locs : List Loc), φ q u → hr_H D A s.heap (Wf u ++ X) H locs → W p l e R s m args below meth c H locs (cells + mc) (slots + ms) Q (F0 m (pc + 3) ls (.int q :: rest))) : W p l e R s m args below meth c H locs cells slots Q (F0 m pc ls st0) := by
  subst hst0
  subst hY
  obtain ⟨hx, hb, hr, hml, hown, hts, hK, hlk, hA, hN, -⟩ := C0
  have hF := hr_free hp hA
  refine va_calli (va_runV (As := As) (rest := rest) ⟨hx, hb, hml, hown, hts⟩ (M H.size) (cwV n hts g rfl hrm.1 hrm.2 hd hR) ⟨hr_blind, va_recv hK (hr_Pl hp.1) hc he, fun U hU hW => ⟨rfl, congrArg Array.size hU, by rw [hU]; exact hr_Pl hp.1, va_K.moved hW.alike hK, (hr_Dl hp.2.1).weaken (fun _ _ _ _ => trivial), hr_sub hp hA hN hU hW⟩⟩ rfl hn hsz rfl (lv_room hst) hdg ⟨hf.1, hf.2⟩) hp.2.2 (fun q _ h => hF q h) hF (fun q u t H1 locs1 ht hvm hw hB hz1 hk1 hS1 => ?_)
  obtain ⟨hP1, hD1⟩ := hB
  rw [ht] at hP1
  exact kk q u H1 locs1 hw (hr_back hp hA hP1 hD1 hk1 hS1)
theorem hr_cVv {φ : S → Prop} {Wf : S → va_W} (C0 : hr_C p s m args meth c D z cc nL ret own nm A) (hp : hr_H D A s.heap Y0 H locs) (X : va_W) (M : hr_Kv l D z y (hr_wm y bytes maxL ret') rm (.ref b :: As) Y mc ms φ Wf) (hY : Y0 = Y ++ X) {ci q0 : Nat} {T : u_T} {N : Nat} {fs : List Value} (he : Y[q0]? = some (b, .inr (ci, fs))) (hc : hr_cl[ci]? = some (Cn, T, N)) (g : GoodIn hr_wa (wsV own index Cn y (hr_wm y bytes maxL ret'))) (hrm : rm.cells = mc ∧ rm.slots = ms)
    (hd : y.cls = Cn ∧ y.cls ≠ "java/lang/invoke/MethodHandle" ∧ y.cls ≠ "java/lang/invoke/VarHandle" ∧ (parseMethodDescriptor y.desc).map (fun d => d.parameters.length) = some n) (hR : rm.frames + 1 ≤ R.frames ∧ 8 + (maxL + 11) + rm.locals ≤ R.locals) (hf : cells + mc ≤ R.cells ∧ slots + ms ≤ R.slots) (hsz : ls.size = nL) (hn : As.length = n) (hst0 : st0 = As.reverse ++ .ref b :: rest) (hst : (rest.map fun v => v.category).sum ≤ 8) (hdg : decode cc pc = .ok (.invokevirtual index, 3))
    (kk : ∀ (u : S) (H : Heap) (locs : List Loc), φ u → hr_H D A s.heap (Wf u ++ X) H locs → W p l e R s m args below meth c H locs (cells + mc) (slots + ms) Q (F0 m (pc + 3) ls rest)) : W p l e R s m args below meth c H locs cells slots Q (F0 m pc ls st0) := by
  subst hst0
  subst hY
  obtain ⟨hx, hb, hr, hml, hown, hts, hK, hlk, hA, hN, -⟩ := C0
  have hF := hr_free hp hA
  refine va_callv (va_runV (As := As) (rest := rest) ⟨hx, hb, hml, hown, hts⟩ (M H.size) (cwV n hts g rfl hrm.1 hrm.2 hd hR) ⟨hr_blind, va_recv hK (hr_Pl hp.1) hc he, fun U hU hW => ⟨rfl, congrArg Array.size hU, by rw [hU]; exact hr_Pl hp.1, va_K.moved hW.alike hK, (hr_Dl hp.2.1).weaken (fun _ _ _ _ => trivial), hr_sub hp hA hN hU hW⟩⟩ rfl hn hsz rfl (lv_room hst) hdg ⟨hf.1, hf.2⟩) hp.2.2 (fun q _ h => hF q h) hF (fun u t H1 locs1 ht hvm hw hB hz1 hk1 hS1 => ?_)
  obtain ⟨hP1, hD1⟩ := hB
  rw [ht] at hP1
  exact kk u H1 locs1 hw (hr_back hp hA hP1 hD1 hk1 hS1)
theorem hr_cVr {φ : S → Prop} {Wf : S → Nat → va_W} {Tf : S → List (ClassId × FieldType)} (C0 : hr_C p s m args meth c D z cc nL ret own nm A) (hp : hr_H D A s.heap Y0 H locs) (X : va_W) (M : hr_Kr l D z y (hr_wm y bytes maxL ret') rm (.ref b :: As) Y mc ms φ Wf Tf) (hY : Y0 = Y ++ X) {ci q0 : Nat} {T : u_T} {N : Nat} {fs : List Value} (he : Y[q0]? = some (b, .inr (ci, fs))) (hc : hr_cl[ci]? = some (Cn, T, N)) (g : GoodIn hr_wa (wsV own index Cn y (hr_wm y bytes maxL ret'))) (hrm : rm.cells = mc ∧ rm.slots = ms)
    (hd : y.cls = Cn ∧ y.cls ≠ "java/lang/invoke/MethodHandle" ∧ y.cls ≠ "java/lang/invoke/VarHandle" ∧ (parseMethodDescriptor y.desc).map (fun d => d.parameters.length) = some n) (hR : rm.frames + 1 ≤ R.frames ∧ 8 + (maxL + 11) + rm.locals ≤ R.locals) (hf : cells + mc ≤ R.cells ∧ slots + ms ≤ R.slots) (hsz : ls.size = nL) (hn : As.length = n) (hst0 : st0 = As.reverse ++ .ref b :: rest) (hst : (rest.map fun v => v.category).sum ≤ 8) (hdg : decode cc pc = .ok (.invokevirtual index, 3))
    (kk : ∀ (u : S) (q : Nat) (H : Heap) (locs : List Loc), φ u → va_K D hr_cl (Tf u) s → hr_H D A s.heap (Wf u q ++ X) H locs → W p l e R s m args below meth c H locs (cells + mc) (slots + ms) Q (F0 m (pc + 3) ls (.ref q :: rest))) : W p l e R s m args below meth c H locs cells slots Q (F0 m pc ls st0) := by
  subst hst0
  subst hY
  obtain ⟨hx, hb, hr, hml, hown, hts, hK, hlk, hA, hN, -⟩ := C0
  have hF := hr_free hp hA
  refine va_callr (va_runV (As := As) (rest := rest) ⟨hx, hb, hml, hown, hts⟩ (M H.size) (cwV n hts g rfl hrm.1 hrm.2 hd hR) ⟨hr_blind, va_recv hK (hr_Pl hp.1) hc he, fun U hU hW => ⟨rfl, congrArg Array.size hU, by rw [hU]; exact hr_Pl hp.1, va_K.moved hW.alike hK, (hr_Dl hp.2.1).weaken (fun _ _ _ _ => trivial), hr_sub hp hA hN hU hW⟩⟩ rfl hn hsz rfl (lv_room hst) hdg ⟨hf.1, hf.2⟩) hp.2.2 (fun q _ h => hF q h) hF (fun u q t H1 locs1 ht hvm hw hB hz1 hk1 hS1 => ?_)
  obtain ⟨⟨hP1, hD1⟩, hT1⟩ := hB
  rw [ht] at hP1
  exact kk u q H1 locs1 hw (va_K.moved hvm.symm hT1) (hr_back hp hA hP1 hD1 hk1 hS1)
theorem hr_cSi {φ : Int32 → S → Prop} {Wf : S → va_W} (C0 : hr_C p s m args meth c D z cc nL ret own nm A) (hp : hr_H D A s.heap Y0 H locs) (X : va_W) (M : hr_Ki l D z y (hr_wm y bytes maxL ret') rm As Y mc ms φ Wf) (hY : Y0 = Y ++ X) (g : GoodIn hr_wa (wsS own index y (hr_wm y bytes maxL ret'))) (hrm : rm.cells = mc ∧ rm.slots = ms)
    (hd : y.cls = own ∧ y.cls ≠ "java/lang/invoke/MethodHandle" ∧ y.cls ≠ "java/lang/invoke/VarHandle" ∧ (parseMethodDescriptor y.desc).map (fun d => d.parameters.length) = some n) (hR : rm.frames + 1 ≤ R.frames ∧ 8 + (maxL + 11) + rm.locals ≤ R.locals) (hf : cells + mc ≤ R.cells ∧ slots + ms ≤ R.slots) (hsz : ls.size = nL) (hn : As.length = n) (hst0 : st0 = As.reverse ++ rest) (hst : (rest.map fun v => v.category).sum ≤ 8) (hdg : decode cc pc = .ok (.invokestatic index, 3))
    (kk : ∀ (q : Int32) (u : S) (H : Heap) (locs : List Loc), φ q u → hr_H D A s.heap (Wf u ++ X) H locs → W p l e R s m args below meth c H locs (cells + mc) (slots + ms) Q (F0 m (pc + 3) ls (.int q :: rest))) : W p l e R s m args below meth c H locs cells slots Q (F0 m pc ls st0) := by
  subst hst0
  subst hY
  obtain ⟨hx, hb, hr, hml, hown, hts, hK, hlk, hA, hN, -⟩ := C0
  have hF := hr_free hp hA
  refine va_calli (va_runS (As := As) (rest := rest) ⟨hx, hb, hml, hown, hts⟩ (M H.size) (cwS n hts g rfl hrm.1 hrm.2 hd hR) ⟨hr_blind, fun U hU hW => ⟨rfl, congrArg Array.size hU, by rw [hU]; exact hr_Pl hp.1, va_K.moved hW.alike hK, (hr_Dl hp.2.1).weaken (fun _ _ _ _ => trivial), hr_sub hp hA hN hU hW⟩⟩ rfl hn hsz rfl (lv_room hst) hdg ⟨hf.1, hf.2⟩) hp.2.2 (fun q _ h => hF q h) hF (fun q u t H1 locs1 ht hvm hw hB hz1 hk1 hS1 => ?_)
  obtain ⟨hP1, hD1⟩ := hB
  rw [ht] at hP1
  exact kk q u H1 locs1 hw (hr_back hp hA hP1 hD1 hk1 hS1)
theorem hr_cNi {φ : Int32 → S → Prop} {Wf : S → va_W} (C0 : hr_C p s m args meth c D z cc nL ret own nm A) (hp : hr_H D A s.heap Y0 H locs) (X : va_W) (M : hr_Ki l D z y (hr_wm y bytes maxL ret') rm As Y mc ms φ Wf) (hY : Y0 = Y ++ X) {host : String} (hcode : Cond.code y bytes maxL ret' ∈ hr_wa) (hini : Cond.initialized y.cls ∈ hr_wa) (hstat : Cond.static y ∈ hr_wa) (hl9 : va_Nw (.methodLinkNest own index y host) s) (hrm : rm.cells = mc ∧ rm.slots = ms)
    (hd : y.cls ≠ "java/lang/invoke/MethodHandle" ∧ y.cls ≠ "java/lang/invoke/VarHandle" ∧ (parseMethodDescriptor y.desc).map (fun d => d.parameters.length) = some n) (hR : rm.frames + 1 ≤ R.frames ∧ 8 + (maxL + 11) + rm.locals ≤ R.locals) (hf : cells + mc ≤ R.cells ∧ slots + ms ≤ R.slots) (hsz : ls.size = nL) (hn : As.length = n) (hst0 : st0 = As.reverse ++ rest) (hst : (rest.map fun v => v.category).sum ≤ 8) (hdg : decode cc pc = .ok (.invokestatic index, 3))
    (kk : ∀ (q : Int32) (u : S) (H : Heap) (locs : List Loc), φ q u → hr_H D A s.heap (Wf u ++ X) H locs → W p l e R s m args below meth c H locs (cells + mc) (slots + ms) Q (F0 m (pc + 3) ls (.int q :: rest))) : W p l e R s m args below meth c H locs cells slots Q (F0 m pc ls st0) := by
  subst hst0
  subst hY
  obtain ⟨hx, hb, hr, hml, hown, hts, hK, hlk, hA, hN, -⟩ := C0
  have hF := hr_free hp hA
  refine va_calli (va_runSN (As := As) (rest := rest) ⟨hx, hb, hml, hown, hts⟩ (M H.size) ⟨va_cnB n hts (hr_gd hcode) rfl hrm.1 hrm.2 hl9 (hts _ hini) hd hR, hts _ hstat, trivial⟩ ⟨hr_blind, fun U hU hW => ⟨rfl, congrArg Array.size hU, by rw [hU]; exact hr_Pl hp.1, va_K.moved hW.alike hK, (hr_Dl hp.2.1).weaken (fun _ _ _ _ => trivial), hr_sub hp hA hN hU hW⟩⟩ rfl hn hsz rfl (lv_room hst) hdg ⟨hf.1, hf.2⟩) hp.2.2 (fun q _ h => hF q h) hF (fun q u t H1 locs1 ht hvm hw hB hz1 hk1 hS1 => ?_)
  obtain ⟨hP1, hD1⟩ := hB
  rw [ht] at hP1
  exact kk q u H1 locs1 hw (hr_back hp hA hP1 hD1 hk1 hS1)
theorem hr_cIv {φ : S → Prop} {Wf : S → va_W} (C0 : hr_C p s m args meth c D z cc nL ret own nm A) (hp : hr_H D A s.heap Y0 H locs) (X : va_W) (M : hr_Kv l D z y (hr_wm y bytes maxL none) rm (.ref b :: As) Y mc ms φ Wf) (hY : Y0 = Y ++ X) (hcode : Cond.code y bytes maxL none ∈ hr_wa) (hini : Cond.initialized y.cls ∈ hr_wa) (hlink : Cond.methodLink own index y ∈ hr_wa) (hinst : Cond.instanceMethod y ∈ hr_wa) (hi : y.name = "<init>") (hrm : rm.cells = mc ∧ rm.slots = ms)
    (hd : y.cls ≠ "java/lang/invoke/MethodHandle" ∧ y.cls ≠ "java/lang/invoke/VarHandle" ∧ (parseMethodDescriptor y.desc).map (fun d => d.parameters.length) = some n) (hR : rm.frames + 1 ≤ R.frames ∧ 8 + (maxL + 11) + rm.locals ≤ R.locals) (hf : cells + mc ≤ R.cells ∧ slots + ms ≤ R.slots) (hsz : ls.size = nL) (hn : As.length = n) (hst0 : st0 = As.reverse ++ .ref b :: rest) (hst : (rest.map fun v => v.category).sum ≤ 8) (hdg : decode cc pc = .ok (.invokespecial index, 3))
    (kk : ∀ (u : S) (H : Heap) (locs : List Loc), φ u → hr_H D A s.heap (Wf u ++ X) H locs → W p l e R s m args below meth c H locs (cells + mc) (slots + ms) Q (F0 m (pc + 3) ls rest)) : W p l e R s m args below meth c H locs cells slots Q (F0 m pc ls st0) := by
  subst hst0
  subst hY
  obtain ⟨hx, hb, hr, hml, hown, hts, hK, hlk, hA, hN, -⟩ := C0
  have hF := hr_free hp hA
  refine va_callv (va_runI (As := As) (rest := rest) ⟨hx, hb, hml, hown, hts⟩ (M H.size) (cwI n hts (hr_gd hcode) rfl hrm.1 hrm.2 (hts _ hini) (hts _ hlink) (hts _ hinst) hi hd hR) ⟨hr_blind, fun U hU hW => ⟨rfl, congrArg Array.size hU, by rw [hU]; exact hr_Pl hp.1, va_K.moved hW.alike hK, (hr_Dl hp.2.1).weaken (fun _ _ _ _ => trivial), hr_sub hp hA hN hU hW⟩⟩ rfl hn hsz rfl (lv_room hst) hdg ⟨hf.1, hf.2⟩) hp.2.2 (fun q _ h => hF q h) hF (fun u t H1 locs1 ht hvm hw hB hz1 hk1 hS1 => ?_)
  obtain ⟨hP1, hD1⟩ := hB
  rw [ht] at hP1
  exact kk u H1 locs1 hw (hr_back hp hA hP1 hD1 hk1 hS1)
theorem hr_cJv {φ : S → Prop} {Wf : S → va_W} (C0 : hr_C p s m args meth c D z cc nL ret own nm A) (hp : hr_H D A s.heap Y0 H locs) (X : va_W) (M : hr_Kv l D z y (hr_wm y bytes maxL none) rm (.ref b :: As) Y mc ms φ Wf) (hY : Y0 = Y ++ X) {host : String} (hcode : Cond.code y bytes maxL none ∈ hr_wa) (hini : Cond.initialized y.cls ∈ hr_wa) (hinst : Cond.instanceMethod y ∈ hr_wa) (hi : y.name = "<init>") (hl9 : va_Nw (.methodLinkNest own index y host) s) (hrm : rm.cells = mc ∧ rm.slots = ms)
    (hd : y.cls ≠ "java/lang/invoke/MethodHandle" ∧ y.cls ≠ "java/lang/invoke/VarHandle" ∧ (parseMethodDescriptor y.desc).map (fun d => d.parameters.length) = some n) (hR : rm.frames + 1 ≤ R.frames ∧ 8 + (maxL + 11) + rm.locals ≤ R.locals) (hf : cells + mc ≤ R.cells ∧ slots + ms ≤ R.slots) (hsz : ls.size = nL) (hn : As.length = n) (hst0 : st0 = As.reverse ++ .ref b :: rest) (hst : (rest.map fun v => v.category).sum ≤ 8) (hdg : decode cc pc = .ok (.invokespecial index, 3))
    (kk : ∀ (u : S) (H : Heap) (locs : List Loc), φ u → hr_H D A s.heap (Wf u ++ X) H locs → W p l e R s m args below meth c H locs (cells + mc) (slots + ms) Q (F0 m (pc + 3) ls rest)) : W p l e R s m args below meth c H locs cells slots Q (F0 m pc ls st0) := by
  subst hst0
  subst hY
  obtain ⟨hx, hb, hr, hml, hown, hts, hK, hlk, hA, hN, -⟩ := C0
  have hF := hr_free hp hA
  refine va_callv (va_runIN (As := As) (rest := rest) ⟨hx, hb, hml, hown, hts⟩ (M H.size) ⟨va_cnB n hts (hr_gd hcode) rfl hrm.1 hrm.2 hl9 (hts _ hini) hd hR, hi, hts _ hinst⟩ ⟨hr_blind, fun U hU hW => ⟨rfl, congrArg Array.size hU, by rw [hU]; exact hr_Pl hp.1, va_K.moved hW.alike hK, (hr_Dl hp.2.1).weaken (fun _ _ _ _ => trivial), hr_sub hp hA hN hU hW⟩⟩ rfl hn hsz rfl (lv_room hst) hdg ⟨hf.1, hf.2⟩) hp.2.2 (fun q _ h => hF q h) hF (fun u t H1 locs1 ht hvm hw hB hz1 hk1 hS1 => ?_)
  obtain ⟨hP1, hD1⟩ := hB
  rw [ht] at hP1
  exact kk u H1 locs1 hw (hr_back hp hA hP1 hD1 hk1 hS1)
theorem hr_cFi {φ : Int32 → S → Prop} {Wf : S → va_W} (C0 : hr_C p s m args meth c D z cc nL ret own nm A) (hp : hr_H D A s.heap Y0 H locs) (X : va_W) (M : hr_Ki l D z y (hr_wm y bytes maxL ret') rm (.ref b :: As) Y mc ms φ Wf) (hY : Y0 = Y ++ X) {ci q0 count : Nat} {T : u_T} {N : Nat} {fs : List Value} {x9 : MethodName} (he : Y[q0]? = some (b, .inr (ci, fs))) (hc : hr_cl[ci]? = some (Cn, T, N)) (g : GoodIn hr_wa (va_wsF own index Cn x9 y (hr_wm y bytes maxL ret'))) (hF9 : va_Fw Cn x9 y s) (hrm : rm.cells = mc ∧ rm.slots = ms)
    (hd : x9.cls ≠ "java/lang/invoke/MethodHandle" ∧ x9.cls ≠ "java/lang/invoke/VarHandle" ∧ (parseMethodDescriptor x9.desc).map (fun d => d.parameters.length) = some n) (hR : rm.frames + 1 ≤ R.frames ∧ 8 + (maxL + 11) + rm.locals ≤ R.locals) (hf : cells + mc ≤ R.cells ∧ slots + ms ≤ R.slots) (hsz : ls.size = nL) (hn : As.length = n) (hst0 : st0 = As.reverse ++ .ref b :: rest) (hst : (rest.map fun v => v.category).sum ≤ 8) (hdg : decode cc pc = .ok (.invokeinterface index count, 5))
    (kk : ∀ (q : Int32) (u : S) (H : Heap) (locs : List Loc), φ q u → hr_H D A s.heap (Wf u ++ X) H locs → W p l e R s m args below meth c H locs (cells + mc) (slots + ms) Q (F0 m (pc + 5) ls (.int q :: rest))) : W p l e R s m args below meth c H locs cells slots Q (F0 m pc ls st0) := by
  subst hst0
  subst hY
  obtain ⟨hx, hb, hr, hml, hown, hts, hK, hlk, hA, hN, -⟩ := C0
  have hF := hr_free hp hA
  refine va_callFi (va_runF (hK.1 ci _ hc).2 (As := As) (rest := rest) ⟨hx, hb, hml, hown, hts⟩ (M H.size) (va_cwF n hts g rfl hrm.1 hrm.2 hF9 hd hR) ⟨hr_blind, va_recv hK (hr_Pl hp.1) hc he, fun U hU hW => ⟨rfl, congrArg Array.size hU, by rw [hU]; exact hr_Pl hp.1, va_K.moved hW.alike hK, (hr_Dl hp.2.1).weaken (fun _ _ _ _ => trivial), hr_sub hp hA hN hU hW⟩⟩ rfl hn hsz rfl (lv_room hst) hdg ⟨hf.1, hf.2⟩) hp.2.2 (fun q _ h => hF q h) hF (fun q u t H1 locs1 ht hvm hw hB hz1 hk1 hS1 => ?_)
  obtain ⟨hP1, hD1⟩ := hB
  rw [ht] at hP1
  exact kk q u H1 locs1 hw (hr_back hp hA hP1 hD1 hk1 hS1)
theorem hr_cSl {φ : Int64 → S → Prop} {Wf : S → va_W} (C0 : hr_C p s m args meth c D z cc nL ret own nm A) (hp : hr_H D A s.heap Y0 H locs) (X : va_W) (M : hr_Kl l D z y (hr_wm y bytes maxL ret') rm As Y mc ms φ Wf) (hY : Y0 = Y ++ X) (g : GoodIn hr_wa (wsS own index y (hr_wm y bytes maxL ret'))) (hrm : rm.cells = mc ∧ rm.slots = ms)
    (hd : y.cls = own ∧ y.cls ≠ "java/lang/invoke/MethodHandle" ∧ y.cls ≠ "java/lang/invoke/VarHandle" ∧ (parseMethodDescriptor y.desc).map (fun d => d.parameters.length) = some n) (hR : rm.frames + 1 ≤ R.frames ∧ 8 + (maxL + 11) + rm.locals ≤ R.locals) (hf : cells + mc ≤ R.cells ∧ slots + ms ≤ R.slots) (hsz : ls.size = nL) (hn : As.length = n) (hst0 : st0 = As.reverse ++ rest) (hst : (rest.map fun v => v.category).sum ≤ 8) (hdg : decode cc pc = .ok (.invokestatic index, 3))
    (kk : ∀ (q : Int64) (u : S) (H : Heap) (locs : List Loc), φ q u → hr_H D A s.heap (Wf u ++ X) H locs → W p l e R s m args below meth c H locs (cells + mc) (slots + ms) Q (F0 m (pc + 3) ls (.long q :: rest))) : W p l e R s m args below meth c H locs cells slots Q (F0 m pc ls st0) := by
  subst hst0
  subst hY
  obtain ⟨hx, hb, hr, hml, hown, hts, hK, hlk, hA, hN, -⟩ := C0
  have hF := hr_free hp hA
  refine va_calll (va_runS (As := As) (rest := rest) ⟨hx, hb, hml, hown, hts⟩ (M H.size) (cwS n hts g rfl hrm.1 hrm.2 hd hR) ⟨hr_blind, fun U hU hW => ⟨rfl, congrArg Array.size hU, by rw [hU]; exact hr_Pl hp.1, va_K.moved hW.alike hK, (hr_Dl hp.2.1).weaken (fun _ _ _ _ => trivial), hr_sub hp hA hN hU hW⟩⟩ rfl hn hsz rfl (lv_room hst) hdg ⟨hf.1, hf.2⟩) hp.2.2 (fun q _ h => hF q h) hF (fun q u t H1 locs1 ht hvm hw hB hz1 hk1 hS1 => ?_)
  obtain ⟨hP1, hD1⟩ := hB
  rw [ht] at hP1
  exact kk q u H1 locs1 hw (hr_back hp hA hP1 hD1 hk1 hS1)
end HRC
section HRE
variable {p : Program} {l : Launch} {e : Env} {R : Room} {s : State} {m : MethodId} {args : Array Value} {below : List Frame} {meth : Method} {c : Code} {H : Heap} {locs : List Loc} {cells slots mc ms : Nat}
variable {cc : ByteArray} {pc nL : Nat} {ls : Array Slot} {D : va_G} {z : Nat} {A : Nat → Prop} {own nm : String} {S : Type}
theorem hr_iret {x : Int32} {φ : Int32 → S → Prop} {Wf : S → va_W} {Y : va_W} (u : S) (C0 : hr_C p s m args meth c D z cc nL (some .int) own nm A) (hp : hr_H D A s.heap Y H locs) (hY : Y = Wf u) (hc : cells ≤ mc ∧ slots ≤ ms) (hdg : decode cc pc = .ok (.ireturn, 1)) (hφ : φ x u) : W p l e R s m args below meth c H locs cells slots (MQ below (va_Qi φ (fun u t => hr_B D A (Wf u) t) A) args s mc ms A) (F0 m pc ls [.int x]) := by
  obtain ⟨hx, hb, hr, hml, hown, hts, hK, hlk, hA, -, -⟩ := C0
  subst hY
  refine W.widen (k := mc) (n := ms) hc.1 hc.2 ?_
  exact W.iret hx hb hr (fun t ht hW => ⟨⟨x, u, rfl, hφ, by rw [ht]; exact hp.1, hp.2.1⟩, hp.2.2.F ht⟩) hp.2.2.2.2 hdg hlk
theorem hr_zret {x : Int32} {φ : Int32 → S → Prop} {Wf : S → va_W} {Y : va_W} (u : S) (C0 : hr_C p s m args meth c D z cc nL (some .boolean) own nm A) (hp : hr_H D A s.heap Y H locs) (hY : Y = Wf u) (h01 : x = 0 ∨ x = 1) (hc : cells ≤ mc ∧ slots ≤ ms) (hdg : decode cc pc = .ok (.ireturn, 1)) (hφ : φ x u) : W p l e R s m args below meth c H locs cells slots (MQ below (va_Qi φ (fun u t => hr_B D A (Wf u) t) A) args s mc ms A) (F0 m pc ls [.int x]) := by
  obtain ⟨hx, hb, hr, hml, hown, hts, hK, hlk, hA, -, -⟩ := C0
  subst hY
  refine W.widen (k := mc) (n := ms) hc.1 hc.2 ?_
  exact W.zret hx hb hr (by rcases h01 with rfl | rfl <;> rfl) (fun t ht hW => ⟨⟨x, u, rfl, hφ, by rw [ht]; exact hp.1, hp.2.1⟩, hp.2.2.F ht⟩) hp.2.2.2.2 hdg hlk
theorem hr_lret {x : Int64} {φ : Int64 → S → Prop} {Wf : S → va_W} {Y : va_W} (u : S) (C0 : hr_C p s m args meth c D z cc nL (some .long) own nm A) (hp : hr_H D A s.heap Y H locs) (hY : Y = Wf u) (hc : cells ≤ mc ∧ slots ≤ ms) (hdg : decode cc pc = .ok (.lreturn, 1)) (hφ : φ x u) : W p l e R s m args below meth c H locs cells slots (MQ below (va_Ql φ (fun u t => hr_B D A (Wf u) t) A) args s mc ms A) (F0 m pc ls [.long x]) := by
  obtain ⟨hx, hb, hr, hml, hown, hts, hK, hlk, hA, -, -⟩ := C0
  subst hY
  refine W.widen (k := mc) (n := ms) hc.1 hc.2 ?_
  exact W.lret hx hb hr (fun t ht hW => ⟨⟨x, u, rfl, hφ, by rw [ht]; exact hp.1, hp.2.1⟩, hp.2.2.F ht⟩) hp.2.2.2.2 hdg hlk
theorem hr_dret {x : UInt64} {φ : UInt64 → S → Prop} {Wf : S → va_W} {Y : va_W} (u : S) (C0 : hr_C p s m args meth c D z cc nL (some .double) own nm A) (hp : hr_H D A s.heap Y H locs) (hY : Y = Wf u) (hc : cells ≤ mc ∧ slots ≤ ms) (hdg : decode cc pc = .ok (.dreturn, 1)) (hφ : φ x u) : W p l e R s m args below meth c H locs cells slots (MQ below (va_Qd φ (fun u t => hr_B D A (Wf u) t) A) args s mc ms A) (F0 m pc ls [.double x]) := by
  obtain ⟨hx, hb, hr, hml, hown, hts, hK, hlk, hA, -, -⟩ := C0
  subst hY
  refine W.widen (k := mc) (n := ms) hc.1 hc.2 ?_
  exact W.dret hx hb hr (fun t ht hW => ⟨⟨x, u, rfl, hφ, by rw [ht]; exact hp.1, hp.2.1⟩, hp.2.2.F ht⟩) hp.2.2.2.2 hdg hlk
theorem hr_vret {φ : S → Prop} {Wf : S → va_W} {Y : va_W} (u : S) (C0 : hr_C p s m args meth c D z cc nL none own nm A) (hp : hr_H D A s.heap Y H locs) (hY : Y = Wf u) (hc : cells ≤ mc ∧ slots ≤ ms) (hdg : decode cc pc = .ok (.return_, 1)) (hφ : φ u) : W p l e R s m args below meth c H locs cells slots (MQ below (va_Qv φ (fun u t => hr_B D A (Wf u) t) A) args s mc ms A) (F0 m pc ls []) := by
  obtain ⟨hx, hb, hr, hml, hown, hts, hK, hlk, hA, -, -⟩ := C0
  subst hY
  refine W.widen (k := mc) (n := ms) hc.1 hc.2 ?_
  exact W.vret hx hb hr (fun t ht hW => ⟨⟨u, rfl, hφ, by rw [ht]; exact hp.1, hp.2.1⟩, hp.2.2.F ht⟩) hp.2.2.2.2 hdg hlk
theorem hr_aret {rt : FieldType} {x : Nat} {φ : S → Prop} {Wf : S → Nat → va_W} {Tf : S → List (ClassId × FieldType)} {Y : va_W} (u : S) (C0 : hr_C p s m args meth c D z cc nL (some rt) own nm A) (hp : hr_H D A s.heap Y H locs) (hY : Y = Wf u x) (hrt : (∃ n, rt = .object n) ∨ ∃ t, rt = .array t) (hc : cells ≤ mc ∧ slots ≤ ms) (hdg : decode cc pc = .ok (.areturn, 1)) (hφ : φ u) (hT : va_K D hr_cl (Tf u) s) : W p l e R s m args below meth c H locs cells slots (MQ below (va_Qr φ (fun u a t => hr_B D A (Wf u a) t ∧ va_K D hr_cl (Tf u) t) A) args s mc ms A) (F0 m pc ls [.ref x]) := by
  obtain ⟨hx, hb, hr, hml, hown, hts, hK, hlk, hA, -, -⟩ := C0
  subst hY
  refine W.widen (k := mc) (n := ms) hc.1 hc.2 ?_
  exact W.aret (v := .ref x) hx hb hr hrt (Or.inr ⟨x, rfl⟩) (fun t ht hW => ⟨⟨u, x, rfl, hφ, ⟨by rw [ht]; exact hp.1, hp.2.1⟩, va_K.moved hW.alike hT⟩, hp.2.2.F ht⟩) hp.2.2.2.2 hdg hlk
end HRE
/-- an empty road: the reference, its road, four lists -/
def hr_Y (a : Nat → Nat) (z : Nat) (th nw : Int32) : va_W := [((a 0), .inr (2, [.int th, .ref (a 1), .int 0, .int 0])), ((a 1), .inr (1, [.ref (a 2), .ref (a 3), .ref (a 4), .ref (a 5), .int nw])), ((a 2), .inr (0, [.int 0, .ref z, .int 0])), ((a 3), .inr (0, [.int 0, .ref z, .int 0])), ((a 4), .inr (0, [.int 0, .ref z, .int 0])), ((a 5), .inr (0, [.int 0, .ref z, .int 0]))]
section HRO
variable {l : Launch} {D : va_G} {z : Nat} {y : MethodName} {cc : ByteArray} {nL mc ms : Nat} {ret : Option FieldType} {rm : Room} {As : List Value} {Y : va_W} {S : Type}
theorem hr_Ki_of {φ : Int32 → S → Prop} {Wf : S → va_W} (hy : plainName y.cls = true) (hn : (lg_sl As).length ≤ nL)
    (body : ∀ (p : Program) (e : Env) (s : State) (m : MethodId) (args : Array Value) (below : List Frame) (meth : Method) (c : Code) (ls : Array Slot) (A : Nat → Prop), hr_C p s m args meth c D z cc nL ret y.cls y.name A → hr_H D A s.heap Y s.heap [] → lv_has ls nL (lv_args 0 As) → W p l e rm s m args below meth c s.heap [] 0 0 (MQ below (va_Qi φ (fun u t => hr_B D A (Wf u) t) A) args s mc ms A) (F0 m 0 ls [])) : hr_Ki l D z y (hr_wm y cc nL ret) rm As Y mc ms φ Wf := by
  intro sz
  refine hr_enter hy hn ?_
  intro p e s m args below meth c ls A _ hAe C0 hp hl
  subst hAe
  exact body p e s m args below meth c ls _ C0 hp hl
theorem hr_Kv_of {φ : S → Prop} {Wf : S → va_W} (hy : plainName y.cls = true) (hn : (lg_sl As).length ≤ nL)
    (body : ∀ (p : Program) (e : Env) (s : State) (m : MethodId) (args : Array Value) (below : List Frame) (meth : Method) (c : Code) (ls : Array Slot) (A : Nat → Prop), hr_C p s m args meth c D z cc nL ret y.cls y.name A → hr_H D A s.heap Y s.heap [] → lv_has ls nL (lv_args 0 As) → W p l e rm s m args below meth c s.heap [] 0 0 (MQ below (va_Qv φ (fun u t => hr_B D A (Wf u) t) A) args s mc ms A) (F0 m 0 ls [])) : hr_Kv l D z y (hr_wm y cc nL ret) rm As Y mc ms φ Wf := by
  intro sz
  refine hr_enter hy hn ?_
  intro p e s m args below meth c ls A _ hAe C0 hp hl
  subst hAe
  exact body p e s m args below meth c ls _ C0 hp hl
theorem hr_Kl_of {φ : Int64 → S → Prop} {Wf : S → va_W} (hy : plainName y.cls = true) (hn : (lg_sl As).length ≤ nL)
    (body : ∀ (p : Program) (e : Env) (s : State) (m : MethodId) (args : Array Value) (below : List Frame) (meth : Method) (c : Code) (ls : Array Slot) (A : Nat → Prop), hr_C p s m args meth c D z cc nL ret y.cls y.name A → hr_H D A s.heap Y s.heap [] → lv_has ls nL (lv_args 0 As) → W p l e rm s m args below meth c s.heap [] 0 0 (MQ below (va_Ql φ (fun u t => hr_B D A (Wf u) t) A) args s mc ms A) (F0 m 0 ls [])) : hr_Kl l D z y (hr_wm y cc nL ret) rm As Y mc ms φ Wf := by
  intro sz
  refine hr_enter hy hn ?_
  intro p e s m args below meth c ls A _ hAe C0 hp hl
  subst hAe
  exact body p e s m args below meth c ls _ C0 hp hl
theorem hr_Kd_of {φ : UInt64 → S → Prop} {Wf : S → va_W} (hy : plainName y.cls = true) (hn : (lg_sl As).length ≤ nL)
    (body : ∀ (p : Program) (e : Env) (s : State) (m : MethodId) (args : Array Value) (below : List Frame) (meth : Method) (c : Code) (ls : Array Slot) (A : Nat → Prop), hr_C p s m args meth c D z cc nL ret y.cls y.name A → hr_H D A s.heap Y s.heap [] → lv_has ls nL (lv_args 0 As) → W p l e rm s m args below meth c s.heap [] 0 0 (MQ below (va_Qd φ (fun u t => hr_B D A (Wf u) t) A) args s mc ms A) (F0 m 0 ls [])) : hr_Kd l D z y (hr_wm y cc nL ret) rm As Y mc ms φ Wf := by
  intro sz
  refine hr_enter hy hn ?_
  intro p e s m args below meth c ls A _ hAe C0 hp hl
  subst hAe
  exact body p e s m args below meth c ls _ C0 hp hl
theorem hr_Kr_of {φ : S → Prop} {Wf : S → Nat → va_W} {Tf : S → List (ClassId × FieldType)} (hy : plainName y.cls = true) (hn : (lg_sl As).length ≤ nL)
    (body : ∀ (p : Program) (e : Env) (s : State) (m : MethodId) (args : Array Value) (below : List Frame) (meth : Method) (c : Code) (ls : Array Slot) (A : Nat → Prop), hr_C p s m args meth c D z cc nL ret y.cls y.name A → hr_H D A s.heap Y s.heap [] → lv_has ls nL (lv_args 0 As) → W p l e rm s m args below meth c s.heap [] 0 0 (MQ below (va_Qr φ (fun u a t => hr_B D A (Wf u a) t ∧ va_K D hr_cl (Tf u) t) A) args s mc ms A) (F0 m 0 ls [])) : hr_Kr l D z y (hr_wm y cc nL ret) rm As Y mc ms φ Wf Tf := by
  intro sz
  refine hr_enter hy hn ?_
  intro p e s m args below meth c ls A _ hAe C0 hp hl
  subst hAe
  exact body p e s m args below meth c ls _ C0 hp hl
end HRO
section HRA
variable {p : Program} {l : Launch} {e : Env} {R : Room} {s : State} {m : MethodId} {args : Array Value} {below : List Frame} {meth : Method} {c : Code} {H : Heap} {locs : List Loc} {cells slots : Nat} {Q : State → Prop}
variable {cc : ByteArray} {pc nL : Nat} {ls : Array Slot} {rest st0 : List Value} {D : va_G} {z : Nat} {A : Nat → Prop} {ret : Option FieldType} {own nm : String} {Y Y' : va_W}
/-- rows of whole numbers, of objects, of rows -/
theorem hr_newI (C0 : hr_C p s m args meth c D z cc nL ret own nm A) (hp : hr_H D A s.heap Y H locs) (hw : Cond.arrayClass .int ∈ hr_wa) {i : Int32} {n : Nat} (h0 : ¬ i < 0) (hN : i.toNatClampNeg = n) (hn : n ≤ 100) (hcells : cells + 1 ≤ R.cells) (hslots : slots + n ≤ R.slots) (hdg : decode cc pc = .ok (.newarray .int, 2))
    (kk : ∀ (q : Nat) (cA : ClassId) (H : Heap), va_K D hr_cl [(cA, .int)] s → hr_H D A s.heap (Y ++ [(q, .inl (cA, n, .inl (fun _ => 0)))]) H locs → W p l e R s m args below meth c H locs (cells + 1) (slots + n) Q (F0 m (pc + 2) ls (.ref q :: rest))) : W p l e R s m args below meth c H locs cells slots Q (F0 m pc ls (.int i :: rest)) := by
  obtain ⟨hx, hb, hr, hml, hown, hts, hK, hlk, hA, -, -⟩ := C0
  exact va_newa (atype := .int) (D := D) (cl := hr_cl) (tys := []) (ws := Y) (a0 := (n, .inl (fun _ => 0))) hx hb (hts _ hw) (ty := .int) rfl hK hp.1 hp.2.1 hp.2.2 hA (fun cA => rfl) h0 hN (by show n * 4 ≤ _; omega) hcells hslots hdg (fun q cA H1 hK1 hP hD hS => kk q cA H1 hK1 ⟨hP, hD, hS⟩)
theorem hr_iast (C0 : hr_C p s m args meth c D z cc nL ret own nm A) {cA : ClassId} (hK1 : va_K D hr_cl [(cA, .int)] s) (hp : hr_H D A s.heap Y H locs) {q0 a n k' : Nat} {f : Nat → Int32} (ha : Y[q0]? = some (a, .inl (cA, n, .inl f))) {i x : Int32} (hin : vp_in i n) (hk : i.toNatClampNeg = k') (hY : Y.set q0 (a, .inl (cA, n, .inl (upd f k' x))) = Y') (hdg : decode cc pc = .ok (.iastore, 1))
    (kk : ∀ (H : Heap) (locs : List Loc), hr_H D A s.heap Y' H locs → W p l e R s m args below meth c H locs cells slots Q (F0 m (pc + 1) ls rest)) : W p l e R s m args below meth c H locs cells slots Q (F0 m pc ls (.int x :: .int i :: .ref a :: rest)) := by
  obtain ⟨hx, hb, hr, hml, hown, hts, hK, hlk, hA, -, -⟩ := C0
  subst hk
  subst hY
  exact va_iast (D := D) (cl := hr_cl) (tys := [(cA, .int)]) (ws := Y) (f := f) hx hb hK1 hp.1 hp.2.1 hp.2.2 q0 0 ha rfl hin hdg (fun H1 locs1 hP hD hS => kk H1 locs1 ⟨hP, hD, hS⟩)
theorem hr_ial (C0 : hr_C p s m args meth c D z cc nL ret own nm A) {cA : ClassId} (hK1 : va_K D hr_cl [(cA, .int)] s) (hp : hr_H D A s.heap Y H locs) {q0 a n k' : Nat} {f : Nat → Int32} (ha : Y[q0]? = some (a, .inl (cA, n, .inl f))) {i : Int32} (hin : vp_in i n) (hk : i.toNatClampNeg = k') (hdg : decode cc pc = .ok (.iaload, 1))
    (kk : W p l e R s m args below meth c H locs cells slots Q (F0 m (pc + 1) ls (.int (f k') :: rest))) : W p l e R s m args below meth c H locs cells slots Q (F0 m pc ls (.int i :: .ref a :: rest)) := by
  obtain ⟨hx, hb, hr, hml, hown, hts, hK, hlk, hA, -, -⟩ := C0
  subst hk
  exact va_iald (D := D) (cl := hr_cl) (tys := [(cA, .int)]) (ws := Y) (f := f) hx hb hK1 hp.1 q0 0 ha rfl hin hdg kk
theorem hr_newO (C0 : hr_C p s m args meth c D z cc nL ret own nm A) (hp : hr_H D A s.heap Y H locs) {index : Nat} (hw : Cond.classLink own index "java/lang/Object" ∈ hr_wa) {i : Int32} {n : Nat} (h0 : ¬ i < 0) (hN : i.toNatClampNeg = n) (hn : n ≤ 100) (hcells : cells + 1 ≤ R.cells) (hslots : slots + n ≤ R.slots) (hdg : decode cc pc = .ok (.anewarray index, 3))
    (kk : ∀ (q : Nat) (cA : ClassId) (H : Heap), va_K D hr_cl [(cA, .object "java/lang/Object")] s → hr_H D A s.heap (Y ++ [(q, .inl (cA, n, .inr (.inr (.inr (.inr (fun _ => none))))))]) H locs → W p l e R s m args below meth c H locs (cells + 1) (slots + n) Q (F0 m (pc + 3) ls (.ref q :: rest))) : W p l e R s m args below meth c H locs cells slots Q (F0 m pc ls (.int i :: rest)) := by
  obtain ⟨hx, hb, hr, hml, hown, hts, hK, hlk, hA, hN9, -⟩ := C0
  exact va_newq (D := D) (cl := hr_cl) (tys := []) (ws := Y) hx hb hown (hts _ hw) hN9.1.2.2.2.2.1 hK hp.1 hp.2.1 hp.2.2 hA h0 hN (by omega) hcells hslots hdg (fun q cA H1 hK1 hP hD hS => kk q cA H1 hK1 ⟨hP, hD, hS⟩)
/-- the empty row: named by the static; its length -/
theorem hr_gets (C0 : hr_C p s m args meth c D z cc nL ret own nm A) (hp : hr_H D A s.heap Y H locs) {index : Nat} (hw : Cond.fieldLink own index RJx4a65c hr_eN hr_eD ∈ hr_wa) (hdg : decode cc pc = .ok (.getstatic index, 3))
    (kk : W p l e R s m args below meth c H locs cells slots Q (F0 m (pc + 3) ls (.ref z :: rest))) : W p l e R s m args below meth c H locs cells slots Q (F0 m pc ls rest) := by
  obtain ⟨hx, hb, hr, hml, hown, hts, hK, hlk, hA, hN9, -⟩ := C0
  exact va_gets hx hb hN9.2.1 hp.2.2 hown (hts _ hw) (fun _ h => h) hdg kk
theorem hr_len0 (C0 : hr_C p s m args meth c D z cc nL ret own nm A) (hp : hr_H D A s.heap Y H locs) (hdg : decode cc pc = .ok (.arraylength, 1))
    (kk : W p l e R s m args below meth c H locs cells slots Q (F0 m (pc + 1) ls (.int 0 :: rest))) : W p l e R s m args below meth c H locs cells slots Q (F0 m pc ls (.ref z :: rest)) := by
  obtain ⟨hx, hb, hr, hml, hown, hts, hK, hlk, hA, hN9, -⟩ := C0
  obtain ⟨-, cell, h1, h2, h3, h4, h5⟩ := hN9.2
  exact W.alen (n := 0) hx hb (by rw [hp.2.2.2.1 z (Array.getElem?_eq_some_iff.mp h1).1 h5]; exact h1) h2 (by rw [h4]; rfl) rfl rfl hdg kk
theorem hr_aastO (C0 : hr_C p s m args meth c D z cc nL ret own nm A) {cA : ClassId} (hK1 : va_K D hr_cl [(cA, .object "java/lang/Object")] s) {ci : Nat} {r : vw_C} (hcast : va_Nw (.castable r.1 "java/lang/Object") s) (hp : hr_H D A s.heap Y H locs) {q0 qk a v n k' : Nat} {vs : List Value} {f : Nat → Option Nat} (ha : Y[q0]? = some (a, .inl (cA, n, .inr (.inr (.inr (.inr f)))))) (hv : Y[qk]? = some (v, .inr (ci, vs))) (hc : hr_cl[ci]? = some r) {i : Int32} (hin : vp_in i n) (hk : i.toNatClampNeg = k') (hY : Y.set q0 (a, .inl (cA, n, .inr (.inr (.inr (.inr (va_up f k' (some v))))))) = Y') (hdg : decode cc pc = .ok (.aastore, 1))
    (kk : ∀ (H : Heap) (locs : List Loc), hr_H D A s.heap Y' H locs → W p l e R s m args below meth c H locs cells slots Q (F0 m (pc + 1) ls rest)) : W p l e R s m args below meth c H locs cells slots Q (F0 m pc ls (.ref v :: .int i :: .ref a :: rest)) := by
  obtain ⟨hx, hb, hr, hml, hown, hts, hK, hlk, hA, -, -⟩ := C0
  subst hk
  subst hY
  exact va_astqO (D := D) (cl := hr_cl) (tys := [(cA, .object "java/lang/Object")]) (ws := Y) hx hb hK1 hp.1 hp.2.1 hp.2.2 q0 0 qk ci ha rfl hcast hv hc hin hdg (fun H1 locs1 hP hD hS => kk H1 locs1 ⟨hP, hD, hS⟩)
end HRA
