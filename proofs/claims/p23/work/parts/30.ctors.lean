/-! CONSTRUCTORS: worlds that grow. hn_N: the words on arrays of classes and on nest mates' constructors (of the state, not of the list) -/
def hn_N (U : State) : Prop := va_AO RX3 U ∧ va_AO RX1 U ∧ va_AO RX0 U ∧ (Cond.arrayOver (.array .int)).before #[] U = true ∧ va_Nw (.methodLinkNest RX4 17 yX3_init RX7) U ∧ va_Nw (.methodLinkNest RX5 28 yX1_init RX7) U ∧ va_Nw (.methodLinkNest RX5 35 yX0_init RX7) U ∧ va_Nw (.methodLinkNest RX0 11 yX2_init RX7) U ∧ va_Nw (.methodLinkNest RX7 30 yX6_init RX7) U
theorem hn_ospec {u : State} {t : FieldType} (h : (Cond.arrayOver (.array t)).before #[] u = true) : ∃ comp c k, u.vm.findClass (FieldType.array t).toString = some comp ∧ (u.vm.classes.findIdx? fun (x : Class) => match x.kind with | .array component _ => component == comp | _ => false) = some c ∧ u.vm.classes[c]? = some k ∧ k.kind = .array comp (.array t) ∧ u.vm.findClass ("[" ++ (FieldType.array t).toString) = some c := by
  simp only [Cond.before, Cond.holds, Cond.value, beq_iff_eq] at h
  cases hc : u.vm.findClass (FieldType.array t).toString with
  | none => simp [hc] at h
  | some comp =>
    simp only [hc, Option.bind_some, Option.bind_eq_some_iff, Option.map_eq_some_iff] at h
    obtain ⟨c, hi, k, hk, hb⟩ := h
    obtain ⟨hlt, hp, -⟩ := Array.findIdx?_eq_some_iff_getElem.mp hi
    have hkk : u.vm.classes[c] = k := (Array.getElem?_eq_some_iff.mp hk).2
    rw [hkk] at hp
    cases hkind : k.kind with
    | array component ty =>
      rw [hkind] at hb hp
      simp at hb hp
      exact ⟨comp, c, k, rfl, hi, hk, by rw [hkind, hp, hb.1], hb.2⟩
    | _ => rw [hkind] at hb; simp at hb
theorem hn_over {u U : State} (hvm : u.vm.Alike U.vm) (h : (Cond.arrayOver (.array .int)).before #[] u = true) : (Cond.arrayOver (.array .int)).before #[] U = true := by
  obtain ⟨comp, c, k, h1, h2, h3, h4, h5⟩ := hn_ospec h
  obtain ⟨k', hk', he⟩ := hvm.2.2 _ _ h3
  have hi : (U.vm.classes.findIdx? fun (x : Class) => match x.kind with | .array component _ => component == comp | _ => false) = some c := by
    refine (va_idx_bare U.vm comp).symm.trans ?_
    first | rw [hvm.bare_eq] | rw [← hvm.bare_eq]
    exact (va_idx_bare u.vm comp).trans h2
  have hkind : k'.kind = .array comp (.array .int) := by rw [he]; exact h4
  have f1 : U.vm.findClass (FieldType.array .int).toString = some comp := by rw [hvm.findClass]; exact h1
  have f2 : U.vm.findClass ("[" ++ (FieldType.array .int).toString) = some c := by rw [hvm.findClass]; exact h5
  unfold Cond.before Cond.holds
  simp only [Cond.value]
  rw [f1, Option.bind_some]
  refine (congrArg (fun o : Option Nat => (o.bind (fun c => (U.vm.classes[c]?).map fun (k : Class) => match k.kind with | .array _ ty => decide (ty = FieldType.array .int) && decide (U.vm.findClass ("[" ++ (FieldType.array .int).toString) = some c) | _ => false) == some true)) hi).trans ?_
  simp [hk', hkind, f2]
theorem hn_N.warm {s U : State} (hW : s.WarmedH U.vm) (h : hn_N s) : hn_N U := ⟨h.1.moved hW.alike, h.2.1.moved hW.alike, h.2.2.1.moved hW.alike, hn_over hW.alike h.2.2.2.1, h.2.2.2.2.1.warmM hW, h.2.2.2.2.2.1.warmM hW, h.2.2.2.2.2.2.1.warmM hW, h.2.2.2.2.2.2.2.1.warmM hW, h.2.2.2.2.2.2.2.2.warmM hW⟩
theorem hn_N.same {u U : State} (e : u.vm = U.vm) (h : hn_N u) : hn_N U := ⟨h.1.moved (e ▸ Vm.Alike.refl _), h.2.1.moved (e ▸ Vm.Alike.refl _), h.2.2.1.moved (e ▸ Vm.Alike.refl _), hn_over (e ▸ Vm.Alike.refl _) h.2.2.2.1, h.2.2.2.2.1.same rfl e, h.2.2.2.2.2.1.same rfl e, h.2.2.2.2.2.2.1.same rfl e, h.2.2.2.2.2.2.2.1.same rfl e, h.2.2.2.2.2.2.2.2.same rfl e⟩
def hn_Pc (D : va_G) (As : List Value) (ws : va_W) (sz : Nat) : Array Value → State → Prop := va_Pc As (fun U => U.heap.size = sz ∧ va_P D hh_cl ws U.heap ∧ va_K D hh_cl [] U ∧ hn_N U ∧ va_D (fun _ => True) ws)
def hn_B (D : va_G) (A : Nat → Prop) (ws : va_W) (tys : List (ClassId × FieldType)) (t : State) : Prop := va_P D hh_cl ws t.heap ∧ va_K D hh_cl tys t ∧ va_D A ws
theorem hn_blind {D : va_G} {As : List Value} {ws : va_W} {sz : Nat} : FrameBlind (hn_Pc D As ws sz) := by
  intro a U g mk q
  obtain ⟨q0, q1, qP, qK, qN, qD⟩ := q
  exact ⟨q0, q1, qP, va_K.moved (u := U) (U := U.calling g mk a) (Vm.Alike.refl U.vm) qK, qN.same rfl, qD⟩
/-- a constructor's contract: the cells ws come with it, the cells 'world u' stand behind it -/
def hn_K (l : Launch) (D : va_G) (y : MethodName) (wsm : List Cond) (rm : Room) (As : List Value) (ws : va_W) (mc ms : Nat) {S : Type} (φ : S → Prop) (world : S → va_W) (tyf : S → List (ClassId × FieldType)) : Prop := ∀ sz : Nat, Met l y wsm rm (hn_Pc D As ws sz) (va_Qv φ (fun (u : S) (t : State) => hn_B D (va_A ws sz) (world u) (tyf u) t) (va_A ws sz)) mc ms (va_A ws sz)
def hn_C (p : Program) (s : State) (m : MethodId) (args : Array Value) (meth : Method) (c : Code) (D : va_G) (cc : ByteArray) (nL : Nat) (own : String) (A : Nat → Prop) : Prop :=
  p.tables.exec = Jvm.exec ∧ c.code = cc ∧ meth.sig.returnType = none ∧ c.maxLocals = nL ∧ s.vm.findClass own = some m.cls ∧ (∀ w ∈ hh_wa, w.before args s = true) ∧ meth.locks = false ∧ (∀ q, s.heap.size ≤ q → A q) ∧ hn_N s ∧ meth.name = "<init>"
theorem hn_fm {α β : Type} {f : α → Option β} : ∀ {is : List α} {wc : List β}, is.map f = wc.map some → is.filterMap f = wc
  | [], [], _ => rfl
  | [], _ :: _, h => by simp at h
  | _ :: _, [], h => by simp at h
  | i :: is, w :: wc, h => by
    simp only [List.map_cons, List.cons.injEq] at h
    rw [List.filterMap_cons, h.1]
    simp [hn_fm h.2]
section HN1
variable {l : Launch} {D : va_G} {y : MethodName} {cc : ByteArray} {nL : Nat} {rm : Room} {As : List Value} {ws : va_W} {mc ms : Nat}
theorem hn_of {S : Type} {φ : S → Prop} {world : S → va_W} {tyf : S → List (ClassId × FieldType)} (hy : plainName y.cls = true) (hi : y.name = "<init>") (hn : (lg_sl As).length ≤ nL)
    (body : ∀ (p : Program) (e : Env) (s : State) (m : MethodId) (args : Array Value) (below : List Frame) (meth : Method) (c : Code) (ls : Array Slot) (A : Nat → Prop), hn_C p s m args meth c D cc nL y.cls A → va_K D hh_cl [] s → va_P D hh_cl ws s.heap → va_D A ws → va_S A s.heap s.heap [] → lv_has ls nL (lv_args 0 As) → W p l e rm s m args below meth c s.heap [] 0 0 (MQ below (va_Qv φ (fun (u : S) (t : State) => hn_B D A (world u) (tyf u) t) A) args s mc ms A) (F0 m 0 ls [])) : hn_K l D y (hh_wm y cc nL none) rm As ws mc ms φ world tyf := by
  intro sz
  refine Met.ofW (cc := cc) (maxL := nL) (ret := none) hy rfl ?_
  intro p e s m args below meth c s₁ B hml hv
  obtain ⟨rfl, hsz, hP, hK, hN, hD0⟩ := hv
  have hts := atoms_spec (ws := hh_wm y cc nL none) B.pre
  subst hsz
  have hl := lv_entry As (n := nL) hn
  rw [lg_entry_eq]
  exact body p e s m _ below meth c _ _ ⟨B.exec, B.bytes, B.returns, hml, findClass_of_methodNamed B.named, fun w hw => hts w (List.mem_cons_of_mem _ hw), B.notSynchronized, fun q h => Or.inr h, hN, (name_of_methodNamed B.named B.method).1.trans hi⟩ hK hP hD0.self va_S.rf hl
end HN1
section HN2
variable {p : Program} {l : Launch} {e : Env} {R : Room} {s : State} {m : MethodId} {args : Array Value} {below : List Frame} {meth : Method} {c : Code} {H : Heap} {locs : List Loc} {cells slots : Nat} {Q : State → Prop}
variable {cc : ByteArray} {pc nL : Nat} {ls : Array Slot} {rest st0 : List Value} {D : va_G} {A : Nat → Prop} {own : String} {ws wc wr : va_W} {b : Nat}
variable {y : MethodName} {bytes : ByteArray} {maxL n index mc ms : Nat} {rm : Room} {As : List Value} {S : Type} {φ : S → Prop} {world : S → va_W} {tyf : S → List (ClassId × FieldType)}
theorem hn_gd {y : MethodName} {bytes : ByteArray} {maxL : Nat} {ret : Option FieldType} (h : Cond.code y bytes maxL ret ∈ hh_wa) : GoodIn hh_wa (hh_wm y bytes maxL ret) := by
  intro w hw
  rcases List.mem_cons.mp hw with rfl | hw
  · exact hh_good _ h
  · exact hh_good _ hw
/-- what a call of a constructor gives back, put beside the rest -/
theorem hn_back (hrun : va_Run p l e R s m args below meth c H locs cells slots mc ms (F0 m pc ls st0) rest (va_Qv φ (fun (u : S) (t : State) => hn_B D (va_A wc H.size) (world u) (tyf u) t) (va_A wc H.size) (Value.ref b :: As).toArray) (va_A wc H.size)) (hP : va_P D hh_cl ws H) (hD : va_D A ws) (hS : va_S A s.heap H locs) (hA : ∀ q, s.heap.size ≤ q → A q) (isC isR : List Nat) (hC : isC.map (fun i => ws[i]?) = wc.map some) (hR : isR.map (fun i => ws[i]?) = wr.map some) (hnd : va_nd isR = true) (hdis : ∀ i ∈ isR, i ∉ isC)
    (kk : ∀ (u : S) (H1 : Heap) (locs1 : List Loc), φ u → va_P D hh_cl (wr ++ world u) H1 → va_D A (wr ++ world u) → va_K D hh_cl (tyf u) s → va_S A s.heap H1 locs1 → W p l e R s m args below meth c H1 locs1 (cells + mc) (slots + ms) Q (F0 m (pc + 3) ls rest)) : W p l e R s m args below meth c H locs cells slots Q (F0 m pc ls st0) := by
  have hF := va_free (wc := wc) hD hS hA isC hC
  refine va_callv hrun hS (fun q _ h => hF q h) hF (fun u t H1 locs1 ht hvm hw hB hz1 hk1 hS1 => ?_)
  obtain ⟨hP1, hK1, hD1⟩ := hB
  rw [ht] at hP1
  have hK1 := va_K.moved hvm.symm hK1
  obtain ⟨hP2, hD2⟩ := va_join (wr := wr) (w1 := world u) hP hD isC isR hC hR hnd hdis hk1 hF hP1 hD1
  exact kk u H1 locs1 hw hP2 hD2 hK1 hS1
/-- an own class's constructor is called -/
theorem hn_cI (C0 : hn_C p s m args meth c D cc nL own A) (M : hn_K l D y (hh_wm y bytes maxL none) rm (.ref b :: As) wc mc ms φ world tyf) (hK : va_K D hh_cl [] s) (hP : va_P D hh_cl ws H) (hD : va_D A ws) (hS : va_S A s.heap H locs) (isC isR : List Nat) (hC : isC.map (fun i => ws[i]?) = wc.map some) (hR : isR.map (fun i => ws[i]?) = wr.map some) (hndC : va_nd isC = true) (hnd : va_nd isR = true) (hdis : ∀ i ∈ isR, i ∉ isC)
    (hcode : Cond.code y bytes maxL none ∈ hh_wa) (hini : Cond.initialized y.cls ∈ hh_wa) (hlink : Cond.methodLink own index y ∈ hh_wa) (hinst : Cond.instanceMethod y ∈ hh_wa) (hi : y.name = "<init>") (hd : y.cls ≠ "java/lang/invoke/MethodHandle" ∧ y.cls ≠ "java/lang/invoke/VarHandle" ∧ (parseMethodDescriptor y.desc).map (fun d => d.parameters.length) = some n) (hrm : rm.cells = mc ∧ rm.slots = ms) (hRm : rm.frames + 1 ≤ R.frames ∧ 8 + (maxL + 11) + rm.locals ≤ R.locals) (hf : cells + mc ≤ R.cells ∧ slots + ms ≤ R.slots) (hn : As.length = n) (hsz : ls.size = nL) (hst0 : st0 = As.reverse ++ .ref b :: rest) (hst : (rest.map fun v => v.category).sum ≤ 8) (hdg : decode cc pc = .ok (.invokespecial index, 3))
    (kk : ∀ (u : S) (H1 : Heap) (locs1 : List Loc), φ u → va_P D hh_cl (wr ++ world u) H1 → va_D A (wr ++ world u) → va_K D hh_cl (tyf u) s → va_S A s.heap H1 locs1 → W p l e R s m args below meth c H1 locs1 (cells + mc) (slots + ms) Q (F0 m (pc + 3) ls rest)) : W p l e R s m args below meth c H locs cells slots Q (F0 m pc ls st0) := by
  obtain ⟨hx, hb, hr, hml, hown, hts, hlk, hA, hN, hin⟩ := C0
  exact hn_back (va_runI (As := As) (rest := rest) ⟨hx, hb, hml, hown, hts⟩ (M H.size) (cwI n hts (hn_gd hcode) rfl hrm.1 hrm.2 (hts _ hini) (hts _ hlink) (hts _ hinst) hi hd hRm) ⟨hn_blind, fun U hU hW => ⟨rfl, by rw [hU], by rw [hU]; exact hP.sub isC (hn_fm hC), va_K.moved hW.alike hK, hN.warm hW, (hD.sub isC hndC hC).weaken (fun _ _ _ _ => trivial)⟩⟩ rfl hn hsz hst0 (lv_room hst) hdg hf) hP hD hS hA isC isR hC hR hnd hdis kk
/-- a nest mate's -/
theorem hn_cN {host : String} (C0 : hn_C p s m args meth c D cc nL own A) (M : hn_K l D y (hh_wm y bytes maxL none) rm (.ref b :: As) wc mc ms φ world tyf) (hK : va_K D hh_cl [] s) (hP : va_P D hh_cl ws H) (hD : va_D A ws) (hS : va_S A s.heap H locs) (isC isR : List Nat) (hC : isC.map (fun i => ws[i]?) = wc.map some) (hR : isR.map (fun i => ws[i]?) = wr.map some) (hndC : va_nd isC = true) (hnd : va_nd isR = true) (hdis : ∀ i ∈ isR, i ∉ isC)
    (hcode : Cond.code y bytes maxL none ∈ hh_wa) (hini : Cond.initialized y.cls ∈ hh_wa) (hlink : va_Nw (.methodLinkNest own index y host) s) (hinst : Cond.instanceMethod y ∈ hh_wa) (hi : y.name = "<init>") (hd : y.cls ≠ "java/lang/invoke/MethodHandle" ∧ y.cls ≠ "java/lang/invoke/VarHandle" ∧ (parseMethodDescriptor y.desc).map (fun d => d.parameters.length) = some n) (hrm : rm.cells = mc ∧ rm.slots = ms) (hRm : rm.frames + 1 ≤ R.frames ∧ 8 + (maxL + 11) + rm.locals ≤ R.locals) (hf : cells + mc ≤ R.cells ∧ slots + ms ≤ R.slots) (hn : As.length = n) (hsz : ls.size = nL) (hst0 : st0 = As.reverse ++ .ref b :: rest) (hst : (rest.map fun v => v.category).sum ≤ 8) (hdg : decode cc pc = .ok (.invokespecial index, 3))
    (kk : ∀ (u : S) (H1 : Heap) (locs1 : List Loc), φ u → va_P D hh_cl (wr ++ world u) H1 → va_D A (wr ++ world u) → va_K D hh_cl (tyf u) s → va_S A s.heap H1 locs1 → W p l e R s m args below meth c H1 locs1 (cells + mc) (slots + ms) Q (F0 m (pc + 3) ls rest)) : W p l e R s m args below meth c H locs cells slots Q (F0 m pc ls st0) := by
  obtain ⟨hx, hb, hr, hml, hown, hts, hlk, hA, hN, hin⟩ := C0
  exact hn_back (va_runIN (As := As) (rest := rest) ⟨hx, hb, hml, hown, hts⟩ (M H.size) ⟨va_cnB n hts (hn_gd hcode) rfl hrm.1 hrm.2 hlink (hts _ hini) hd hRm, hi, hts _ hinst⟩ ⟨hn_blind, fun U hU hW => ⟨rfl, by rw [hU], by rw [hU]; exact hP.sub isC (hn_fm hC), va_K.moved hW.alike hK, hN.warm hW, (hD.sub isC hndC hC).weaken (fun _ _ _ _ => trivial)⟩⟩ rfl hn hsz hst0 (lv_room hst) hdg hf) hP hD hS hA isC isR hC hR hnd hdis kk
/-- Object() -/
theorem hn_obj (C0 : hn_C p s m args meth c D cc nL own A) (hlink : Cond.methodLink own index objectInit ∈ hh_wa) (hinst : Cond.instanceMethod objectInit ∈ hh_wa) (hcode : Cond.code objectInit ⟨#[0xb1]⟩ 1 none ∈ hh_wa) (hsz : ls.size = nL) (hdg : decode cc pc = .ok (.invokespecial index, 3)) (hfr : 1 ≤ R.frames) (hlo : 2 * (F0 m pc ls (.ref b :: rest)).monitorRoom + (rest.map fun v => v.category).sum + 12 ≤ R.locals)
    (kk : W p l e R s m args below meth c H locs cells slots Q (F0 m (pc + 3) ls rest)) : W p l e R s m args below meth c H locs cells slots Q (F0 m pc ls (.ref b :: rest)) := by
  obtain ⟨hx, hb, hr, hml, hown, hts, hlk, hA, hN, hin⟩ := C0
  exact W.objInit hx hb hown (hts _ hlink) (hts _ hinst) (hts _ hcode) rfl (by rw [hml]; exact hsz) rfl hdg hfr hlo kk
theorem hn_vret {u : S} (C0 : hn_C p s m args meth c D cc nL own A) (hP : va_P D hh_cl (world u) H) (hD : va_D A (world u)) (hK : va_K D hh_cl (tyf u) s) (hS : va_S A s.heap H locs) (hdg : decode cc pc = .ok (.return_, 1)) (hφ : φ u) : W p l e R s m args below meth c H locs mc ms (MQ below (va_Qv φ (fun (u : S) (t : State) => hn_B D A (world u) (tyf u) t) A) args s mc ms A) (F0 m pc ls []) := by
  obtain ⟨hx, hb, hr, hml, hown, hts, hlk, hA, hN, hin⟩ := C0
  exact W.vret hx hb hr (fun t ht hW => ⟨⟨u, rfl, hφ, by rw [ht]; exact hP, va_K.moved hW.alike hK, hD⟩, hS.F ht⟩) hS.2.2 hdg hlk
end HN2
