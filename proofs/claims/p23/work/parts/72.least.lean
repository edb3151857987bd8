/-! contracts that also say how many cells a call makes AT LEAST (k); the road with one mast -/
theorem hr_perm {s : State} {D : va_G} {A : Nat → Prop} {Y Y' : va_W} {H : Heap} {locs : List Loc} (is : List Nat) (hn : va_nd is = true) (hs : is.map (fun i => Y[i]?) = Y'.map some) (h : hr_H D A s.heap Y H locs) : hr_H D A s.heap Y' H locs := ⟨h.1.sub is (hn_fm hs), h.2.1.sub is hn hs, h.2.2⟩
abbrev hs_t (cO : ClassId) : List (ClassId × FieldType) := [(cO, .object "java/lang/Object")]
def hs_B (D : va_G) (A : Nat → Prop) (Y : va_W) (n : Nat) (t : State) : Prop := hr_B D A Y t ∧ n ≤ t.heap.size
def hs_pre (D : va_G) (z : Nat) (tys : List (ClassId × FieldType)) (As : List Value) (Y : va_W) (sz : Nat) : Array Value → State → Prop := va_Pc As (fun U => U.heap.size = sz ∧ va_P D hr_cl Y U.heap ∧ va_K D hr_cl tys U ∧ va_D (fun _ => True) Y ∧ hr_N z (va_A Y sz) U U.heap)
theorem hs_blind {D : va_G} {z : Nat} {tys : List (ClassId × FieldType)} {As : List Value} {Y : va_W} {sz : Nat} : FrameBlind (hs_pre D z tys As Y sz) := by
  intro a U g mk q
  obtain ⟨q0, q1, qP, qK, qD, qN⟩ := q
  exact ⟨q0, q1, qP, va_K.moved (u := U) (U := U.calling g mk a) (Vm.Alike.refl U.vm) qK, qD, qN.1.same rfl, qN.2.moved (u := U) (U := U.calling g mk a) (Vm.Alike.refl U.vm)⟩
theorem hs_zz {n a b k : Nat} (h1 : n ≤ a) (h2 : a + k ≤ b) : n + k ≤ b := by omega
/-- a cell that isn't of the world of the start and may be changed is new -/
theorem hs_fresh {s : State} {D : va_G} {A : Nat → Prop} {Y : va_W} {q : Nat × va_E} {H : Heap} {locs : List Loc} (hAe : A = va_A Y s.heap.size) (hp : hr_H D A s.heap (Y ++ [q]) H locs) : s.heap.size + 1 ≤ H.size := by
  have hk : (Y ++ [q])[Y.length]? = some q := by simp
  have h1 := hp.2.1.2 Y.length q hk
  have h2 := (hp.1 Y.length q hk).lt
  rw [hAe] at h1
  rcases h1 with ⟨k, e, he⟩ | h1
  · have hlt := (List.getElem?_eq_some_iff.mp he).1
    have := hp.2.1.1 k Y.length (q.1, e) q (by rw [List.getElem?_append_left hlt]; exact he) hk rfl
    omega
  · omega
def hs_Ki (l : Launch) (D : va_G) (z : Nat) (tys : List (ClassId × FieldType)) (y : MethodName) (ws : List Cond) (rm : Room) (As : List Value) (Y : va_W) (k mc ms : Nat) {S : Type} (φ : Int32 → S → Prop) (Wf : S → va_W) : Prop := ∀ sz : Nat, Met l y ws rm (hs_pre D z tys As Y sz) (va_Qi φ (fun u t => hs_B D (va_A Y sz) (Wf u) (sz + k) t) (va_A Y sz)) mc ms (va_A Y sz)
def hs_Kv (l : Launch) (D : va_G) (z : Nat) (tys : List (ClassId × FieldType)) (y : MethodName) (ws : List Cond) (rm : Room) (As : List Value) (Y : va_W) (k mc ms : Nat) {S : Type} (φ : S → Prop) (Wf : S → va_W) : Prop := ∀ sz : Nat, Met l y ws rm (hs_pre D z tys As Y sz) (va_Qv φ (fun u t => hs_B D (va_A Y sz) (Wf u) (sz + k) t) (va_A Y sz)) mc ms (va_A Y sz)
def hs_Kl (l : Launch) (D : va_G) (z : Nat) (tys : List (ClassId × FieldType)) (y : MethodName) (ws : List Cond) (rm : Room) (As : List Value) (Y : va_W) (k mc ms : Nat) {S : Type} (φ : Int64 → S → Prop) (Wf : S → va_W) : Prop := ∀ sz : Nat, Met l y ws rm (hs_pre D z tys As Y sz) (va_Ql φ (fun u t => hs_B D (va_A Y sz) (Wf u) (sz + k) t) (va_A Y sz)) mc ms (va_A Y sz)
def hs_Kr (l : Launch) (D : va_G) (z : Nat) (tys : List (ClassId × FieldType)) (y : MethodName) (ws : List Cond) (rm : Room) (As : List Value) (Y : va_W) (k mc ms : Nat) {S : Type} (φ : S → Nat → Prop) (Wf : S → Nat → va_W) (Tf : S → List (ClassId × FieldType)) : Prop := ∀ sz : Nat, Met l y ws rm (hs_pre D z tys As Y sz) (va_Qr (fun _ => True) (fun u a t => φ u a ∧ hs_B D (va_A Y sz) (Wf u a) (sz + k) t ∧ va_K D hr_cl (Tf u) t) (va_A Y sz)) mc ms (va_A Y sz)
section HSM
variable {l : Launch} {D : va_G} {z : Nat} {tys : List (ClassId × FieldType)} {y : MethodName} {cc : ByteArray} {nL k mc ms : Nat} {ret : Option FieldType} {rm : Room} {As : List Value} {Y : va_W} {S : Type}
theorem hs_enter {Qc : Array Value → State → Outcome → State → Prop} {sz : Nat} (hy : plainName y.cls = true) (hn : (lg_sl As).length ≤ nL)
    (body : ∀ (p : Program) (e : Env) (s : State) (m : MethodId) (args : Array Value) (below : List Frame) (meth : Method) (c : Code) (ls : Array Slot) (A : Nat → Prop), s.heap.size = sz → A = va_A Y sz → hr_C p s m args meth c D z cc nL ret y.cls y.name A → va_K D hr_cl tys s → hr_H D A s.heap Y s.heap [] → lv_has ls nL (lv_args 0 As) → W p l e rm s m args below meth c s.heap [] 0 0 (MQ below Qc args s mc ms A) (F0 m 0 ls [])) :
    Met l y (hr_wm y cc nL ret) rm (hs_pre D z tys As Y sz) Qc mc ms (va_A Y sz) := by
  refine Met.ofW (cc := cc) (maxL := nL) (ret := ret) hy rfl ?_
  intro p e s m args below meth c s₁ B hml hv
  obtain ⟨rfl, hsz, hP, hK, hD0, hN⟩ := hv
  have hts := atoms_spec (ws := hr_wm y cc nL ret) B.pre
  subst hsz
  have hl := lv_entry As (n := nL) hn
  rw [lg_entry_eq]
  exact body p e s m _ below meth c _ _ rfl rfl ⟨B.exec, B.bytes, B.returns, hml, findClass_of_methodNamed B.named, fun w hw => hts w (List.mem_cons_of_mem _ hw), hK.sub [] rfl, B.notSynchronized, fun q h => Or.inr h, hN, (name_of_methodNamed B.named B.method).1⟩ hK ⟨hP, hD0.self, va_S.rf⟩ hl
theorem hs_Ki_of {φ : Int32 → S → Prop} {Wf : S → va_W} (hy : plainName y.cls = true) (hn : (lg_sl As).length ≤ nL)
    (body : ∀ (p : Program) (e : Env) (s : State) (m : MethodId) (args : Array Value) (below : List Frame) (meth : Method) (c : Code) (ls : Array Slot) (A : Nat → Prop), A = va_A Y s.heap.size → hr_C p s m args meth c D z cc nL ret y.cls y.name A → va_K D hr_cl tys s → hr_H D A s.heap Y s.heap [] → lv_has ls nL (lv_args 0 As) → W p l e rm s m args below meth c s.heap [] 0 0 (MQ below (va_Qi φ (fun u t => hs_B D A (Wf u) (s.heap.size + k) t) A) args s mc ms A) (F0 m 0 ls [])) : hs_Ki l D z tys y (hr_wm y cc nL ret) rm As Y k mc ms φ Wf := by
  intro sz
  refine hs_enter hy hn ?_
  intro p e s m args below meth c ls A hsz hAe C0 hKT hp hl
  subst hsz
  subst hAe
  exact body p e s m args below meth c ls _ rfl C0 hKT hp hl
theorem hs_Kv_of {φ : S → Prop} {Wf : S → va_W} (hy : plainName y.cls = true) (hn : (lg_sl As).length ≤ nL)
    (body : ∀ (p : Program) (e : Env) (s : State) (m : MethodId) (args : Array Value) (below : List Frame) (meth : Method) (c : Code) (ls : Array Slot) (A : Nat → Prop), A = va_A Y s.heap.size → hr_C p s m args meth c D z cc nL ret y.cls y.name A → va_K D hr_cl tys s → hr_H D A s.heap Y s.heap [] → lv_has ls nL (lv_args 0 As) → W p l e rm s m args below meth c s.heap [] 0 0 (MQ below (va_Qv φ (fun u t => hs_B D A (Wf u) (s.heap.size + k) t) A) args s mc ms A) (F0 m 0 ls [])) : hs_Kv l D z tys y (hr_wm y cc nL ret) rm As Y k mc ms φ Wf := by
  intro sz
  refine hs_enter hy hn ?_
  intro p e s m args below meth c ls A hsz hAe C0 hKT hp hl
  subst hsz
  subst hAe
  exact body p e s m args below meth c ls _ rfl C0 hKT hp hl
theorem hs_Kl_of {φ : Int64 → S → Prop} {Wf : S → va_W} (hy : plainName y.cls = true) (hn : (lg_sl As).length ≤ nL)
    (body : ∀ (p : Program) (e : Env) (s : State) (m : MethodId) (args : Array Value) (below : List Frame) (meth : Method) (c : Code) (ls : Array Slot) (A : Nat → Prop), A = va_A Y s.heap.size → hr_C p s m args meth c D z cc nL ret y.cls y.name A → va_K D hr_cl tys s → hr_H D A s.heap Y s.heap [] → lv_has ls nL (lv_args 0 As) → W p l e rm s m args below meth c s.heap [] 0 0 (MQ below (va_Ql φ (fun u t => hs_B D A (Wf u) (s.heap.size + k) t) A) args s mc ms A) (F0 m 0 ls [])) : hs_Kl l D z tys y (hr_wm y cc nL ret) rm As Y k mc ms φ Wf := by
  intro sz
  refine hs_enter hy hn ?_
  intro p e s m args below meth c ls A hsz hAe C0 hKT hp hl
  subst hsz
  subst hAe
  exact body p e s m args below meth c ls _ rfl C0 hKT hp hl
theorem hs_Kr_of {φ : S → Nat → Prop} {Wf : S → Nat → va_W} {Tf : S → List (ClassId × FieldType)} (hy : plainName y.cls = true) (hn : (lg_sl As).length ≤ nL)
    (body : ∀ (p : Program) (e : Env) (s : State) (m : MethodId) (args : Array Value) (below : List Frame) (meth : Method) (c : Code) (ls : Array Slot) (A : Nat → Prop), A = va_A Y s.heap.size → hr_C p s m args meth c D z cc nL ret y.cls y.name A → va_K D hr_cl tys s → hr_H D A s.heap Y s.heap [] → lv_has ls nL (lv_args 0 As) → W p l e rm s m args below meth c s.heap [] 0 0 (MQ below (va_Qr (fun _ => True) (fun u a t => φ u a ∧ hs_B D A (Wf u a) (s.heap.size + k) t ∧ va_K D hr_cl (Tf u) t) A) args s mc ms A) (F0 m 0 ls [])) : hs_Kr l D z tys y (hr_wm y cc nL ret) rm As Y k mc ms φ Wf Tf := by
  intro sz
  refine hs_enter hy hn ?_
  intro p e s m args below meth c ls A hsz hAe C0 hKT hp hl
  subst hsz
  subst hAe
  exact body p e s m args below meth c ls _ rfl C0 hKT hp hl
end HSM
section HSC
variable {p : Program} {l : Launch} {e : Env} {R : Room} {s : State} {m : MethodId} {args : Array Value} {below : List Frame} {meth : Method} {c : Code} {H : Heap} {locs : List Loc} {cells slots : Nat} {Q : State → Prop}
variable {cc : ByteArray} {pc nL : Nat} {ls : Array Slot} {rest st0 : List Value} {D : va_G} {z : Nat} {tys : List (ClassId × FieldType)} {A : Nat → Prop} {ret : Option FieldType} {own nm : String} {Y Y0 Y' X : va_W}
variable {Cn : String} {T : u_T} {N ci index maxL n k mc ms b q0 : Nat} {y : MethodName} {bytes : ByteArray} {ret' : Option FieldType} {rm : Room} {As : List Value} {fs : List Value} {S : Type}
theorem hs_gT {own : String} {index nL : Nat} {y : MethodName} {bytes : ByteArray} {ret : Option FieldType} (h1 : Cond.methodLink own index y ∈ hr_wa) (h2 : Cond.static y ∈ hr_wa) (h4 : Cond.initialized y.cls ∈ hr_wa) (h5 : Cond.code y bytes nL ret ∈ hr_wa) : GoodIn hr_wa (va_wsS own index y (hr_wm y bytes nL ret)) := by
  intro w hw
  unfold va_wsS at hw
  rcases List.mem_append.mp hw with hw | hw
  · simp only [List.mem_cons, List.not_mem_nil, or_false] at hw
    rcases hw with rfl | rfl | rfl
    · exact hr_good _ h1
    · exact hr_good _ h2
    · exact hr_good _ h4
  · rcases List.mem_cons.mp hw with rfl | hw
    · exact hr_good _ h5
    · exact hr_good _ hw
theorem hs_cVi {φ : Int32 → S → Prop} {Wf : S → va_W} (C0 : hr_C p s m args meth c D z cc nL ret own nm A) (hKT : va_K D hr_cl tys s) (hp : hr_H D A s.heap Y0 H locs) (X : va_W) (M : hs_Ki l D z tys y (hr_wm y bytes maxL ret') rm (.ref b :: As) Y k mc ms φ Wf) (hY : Y0 = Y ++ X) {ci q0 : Nat} {T : u_T} {N : Nat} {fs : List Value} (he : Y[q0]? = some (b, .inr (ci, fs))) (hc : hr_cl[ci]? = some (Cn, T, N)) (g : GoodIn hr_wa (wsV own index Cn y (hr_wm y bytes maxL ret'))) (hrm : rm.cells = mc ∧ rm.slots = ms)
    (hd : y.cls = Cn ∧ y.cls ≠ "java/lang/invoke/MethodHandle" ∧ y.cls ≠ "java/lang/invoke/VarHandle" ∧ (parseMethodDescriptor y.desc).map (fun d => d.parameters.length) = some n) (hR : rm.frames + 1 ≤ R.frames ∧ 8 + (maxL + 11) + rm.locals ≤ R.locals) (hf : cells + mc ≤ R.cells ∧ slots + ms ≤ R.slots) (hsz : ls.size = nL) (hn : As.length = n) (hst0 : st0 = As.reverse ++ .ref b :: rest) (hst : (rest.map fun v => v.category).sum ≤ 8) (hdg : decode cc pc = .ok (.invokevirtual index, 3))
    (kk : ∀ (q : Int32) (u : S) (H1 : Heap) (locs : List Loc), φ q u → H.size + k ≤ H1.size → hr_H D A s.heap (Wf u ++ X) H1 locs → W p l e R s m args below meth c H1 locs (cells + mc) (slots + ms) Q (F0 m (pc + 3) ls (.int q :: rest))) : W p l e R s m args below meth c H locs cells slots Q (F0 m pc ls st0) := by
  subst hst0
  subst hY
  obtain ⟨hx, hb, hr, hml, hown, hts, hK, hlk, hA, hN, -⟩ := C0
  have hF := hr_free hp hA
  refine va_calli (va_runV (As := As) (rest := rest) ⟨hx, hb, hml, hown, hts⟩ (M H.size) (cwV n hts g rfl hrm.1 hrm.2 hd hR) ⟨hs_blind, va_recv hK (hr_Pl hp.1) hc he, fun U hU hW => ⟨rfl, congrArg Array.size hU, by rw [hU]; exact hr_Pl hp.1, va_K.moved hW.alike hKT, (hr_Dl hp.2.1).weaken (fun _ _ _ _ => trivial), hr_sub hp hA hN hU hW⟩⟩ rfl hn hsz rfl (lv_room hst) hdg ⟨hf.1, hf.2⟩) hp.2.2 (fun q _ h => hF q h) hF (fun q u t H1 locs1 ht hvm hw hB hz1 hk1 hS1 => ?_)
  obtain ⟨⟨hP1, hD1⟩, hz9⟩ := hB
  rw [ht] at hP1 hz9
  exact kk q u H1 locs1 hw hz9 (hr_back hp hA hP1 hD1 hk1 hS1)
theorem hs_cVv {φ : S → Prop} {Wf : S → va_W} (C0 : hr_C p s m args meth c D z cc nL ret own nm A) (hKT : va_K D hr_cl tys s) (hp : hr_H D A s.heap Y0 H locs) (X : va_W) (M : hs_Kv l D z tys y (hr_wm y bytes maxL ret') rm (.ref b :: As) Y k mc ms φ Wf) (hY : Y0 = Y ++ X) {ci q0 : Nat} {T : u_T} {N : Nat} {fs : List Value} (he : Y[q0]? = some (b, .inr (ci, fs))) (hc : hr_cl[ci]? = some (Cn, T, N)) (g : GoodIn hr_wa (wsV own index Cn y (hr_wm y bytes maxL ret'))) (hrm : rm.cells = mc ∧ rm.slots = ms)
    (hd : y.cls = Cn ∧ y.cls ≠ "java/lang/invoke/MethodHandle" ∧ y.cls ≠ "java/lang/invoke/VarHandle" ∧ (parseMethodDescriptor y.desc).map (fun d => d.parameters.length) = some n) (hR : rm.frames + 1 ≤ R.frames ∧ 8 + (maxL + 11) + rm.locals ≤ R.locals) (hf : cells + mc ≤ R.cells ∧ slots + ms ≤ R.slots) (hsz : ls.size = nL) (hn : As.length = n) (hst0 : st0 = As.reverse ++ .ref b :: rest) (hst : (rest.map fun v => v.category).sum ≤ 8) (hdg : decode cc pc = .ok (.invokevirtual index, 3))
    (kk : ∀ (u : S) (H1 : Heap) (locs : List Loc), φ u → H.size + k ≤ H1.size → hr_H D A s.heap (Wf u ++ X) H1 locs → W p l e R s m args below meth c H1 locs (cells + mc) (slots + ms) Q (F0 m (pc + 3) ls rest)) : W p l e R s m args below meth c H locs cells slots Q (F0 m pc ls st0) := by
  subst hst0
  subst hY
  obtain ⟨hx, hb, hr, hml, hown, hts, hK, hlk, hA, hN, -⟩ := C0
  have hF := hr_free hp hA
  refine va_callv (va_runV (As := As) (rest := rest) ⟨hx, hb, hml, hown, hts⟩ (M H.size) (cwV n hts g rfl hrm.1 hrm.2 hd hR) ⟨hs_blind, va_recv hK (hr_Pl hp.1) hc he, fun U hU hW => ⟨rfl, congrArg Array.size hU, by rw [hU]; exact hr_Pl hp.1, va_K.moved hW.alike hKT, (hr_Dl hp.2.1).weaken (fun _ _ _ _ => trivial), hr_sub hp hA hN hU hW⟩⟩ rfl hn hsz rfl (lv_room hst) hdg ⟨hf.1, hf.2⟩) hp.2.2 (fun q _ h => hF q h) hF (fun u t H1 locs1 ht hvm hw hB hz1 hk1 hS1 => ?_)
  obtain ⟨⟨hP1, hD1⟩, hz9⟩ := hB
  rw [ht] at hP1 hz9
  exact kk u H1 locs1 hw hz9 (hr_back hp hA hP1 hD1 hk1 hS1)
theorem hs_cVr {φ : S → Nat → Prop} {Wf : S → Nat → va_W} {Tf : S → List (ClassId × FieldType)} (C0 : hr_C p s m args meth c D z cc nL ret own nm A) (hKT : va_K D hr_cl tys s) (hp : hr_H D A s.heap Y0 H locs) (X : va_W) (M : hs_Kr l D z tys y (hr_wm y bytes maxL ret') rm (.ref b :: As) Y k mc ms φ Wf Tf) (hY : Y0 = Y ++ X) {ci q0 : Nat} {T : u_T} {N : Nat} {fs : List Value} (he : Y[q0]? = some (b, .inr (ci, fs))) (hc : hr_cl[ci]? = some (Cn, T, N)) (g : GoodIn hr_wa (wsV own index Cn y (hr_wm y bytes maxL ret'))) (hrm : rm.cells = mc ∧ rm.slots = ms)
    (hd : y.cls = Cn ∧ y.cls ≠ "java/lang/invoke/MethodHandle" ∧ y.cls ≠ "java/lang/invoke/VarHandle" ∧ (parseMethodDescriptor y.desc).map (fun d => d.parameters.length) = some n) (hR : rm.frames + 1 ≤ R.frames ∧ 8 + (maxL + 11) + rm.locals ≤ R.locals) (hf : cells + mc ≤ R.cells ∧ slots + ms ≤ R.slots) (hsz : ls.size = nL) (hn : As.length = n) (hst0 : st0 = As.reverse ++ .ref b :: rest) (hst : (rest.map fun v => v.category).sum ≤ 8) (hdg : decode cc pc = .ok (.invokevirtual index, 3))
    (kk : ∀ (u : S) (q : Nat) (H1 : Heap) (locs : List Loc), φ u q → va_K D hr_cl (Tf u) s → H.size + k ≤ H1.size → hr_H D A s.heap (Wf u q ++ X) H1 locs → W p l e R s m args below meth c H1 locs (cells + mc) (slots + ms) Q (F0 m (pc + 3) ls (.ref q :: rest))) : W p l e R s m args below meth c H locs cells slots Q (F0 m pc ls st0) := by
  subst hst0
  subst hY
  obtain ⟨hx, hb, hr, hml, hown, hts, hK, hlk, hA, hN, -⟩ := C0
  have hF := hr_free hp hA
  refine va_callr (va_runV (As := As) (rest := rest) ⟨hx, hb, hml, hown, hts⟩ (M H.size) (cwV n hts g rfl hrm.1 hrm.2 hd hR) ⟨hs_blind, va_recv hK (hr_Pl hp.1) hc he, fun U hU hW => ⟨rfl, congrArg Array.size hU, by rw [hU]; exact hr_Pl hp.1, va_K.moved hW.alike hKT, (hr_Dl hp.2.1).weaken (fun _ _ _ _ => trivial), hr_sub hp hA hN hU hW⟩⟩ rfl hn hsz rfl (lv_room hst) hdg ⟨hf.1, hf.2⟩) hp.2.2 (fun q _ h => hF q h) hF (fun u q t H1 locs1 ht hvm hw hB hz1 hk1 hS1 => ?_)
  obtain ⟨hφ9, ⟨⟨hP1, hD1⟩, hz9⟩, hT1⟩ := hB
  rw [ht] at hP1 hz9
  exact kk u q H1 locs1 hφ9 (va_K.moved hvm.symm hT1) hz9 (hr_back hp hA hP1 hD1 hk1 hS1)
theorem hs_cSi {φ : Int32 → S → Prop} {Wf : S → va_W} (C0 : hr_C p s m args meth c D z cc nL ret own nm A) (hKT : va_K D hr_cl tys s) (hp : hr_H D A s.heap Y0 H locs) (X : va_W) (M : hs_Ki l D z tys y (hr_wm y bytes maxL ret') rm As Y k mc ms φ Wf) (hY : Y0 = Y ++ X) (g : GoodIn hr_wa (wsS own index y (hr_wm y bytes maxL ret'))) (hrm : rm.cells = mc ∧ rm.slots = ms)
    (hd : y.cls = own ∧ y.cls ≠ "java/lang/invoke/MethodHandle" ∧ y.cls ≠ "java/lang/invoke/VarHandle" ∧ (parseMethodDescriptor y.desc).map (fun d => d.parameters.length) = some n) (hR : rm.frames + 1 ≤ R.frames ∧ 8 + (maxL + 11) + rm.locals ≤ R.locals) (hf : cells + mc ≤ R.cells ∧ slots + ms ≤ R.slots) (hsz : ls.size = nL) (hn : As.length = n) (hst0 : st0 = As.reverse ++ rest) (hst : (rest.map fun v => v.category).sum ≤ 8) (hdg : decode cc pc = .ok (.invokestatic index, 3))
    (kk : ∀ (q : Int32) (u : S) (H1 : Heap) (locs : List Loc), φ q u → H.size + k ≤ H1.size → hr_H D A s.heap (Wf u ++ X) H1 locs → W p l e R s m args below meth c H1 locs (cells + mc) (slots + ms) Q (F0 m (pc + 3) ls (.int q :: rest))) : W p l e R s m args below meth c H locs cells slots Q (F0 m pc ls st0) := by
  subst hst0
  subst hY
  obtain ⟨hx, hb, hr, hml, hown, hts, hK, hlk, hA, hN, -⟩ := C0
  have hF := hr_free hp hA
  refine va_calli (va_runS (As := As) (rest := rest) ⟨hx, hb, hml, hown, hts⟩ (M H.size) (cwS n hts g rfl hrm.1 hrm.2 hd hR) ⟨hs_blind, fun U hU hW => ⟨rfl, congrArg Array.size hU, by rw [hU]; exact hr_Pl hp.1, va_K.moved hW.alike hKT, (hr_Dl hp.2.1).weaken (fun _ _ _ _ => trivial), hr_sub hp hA hN hU hW⟩⟩ rfl hn hsz rfl (lv_room hst) hdg ⟨hf.1, hf.2⟩) hp.2.2 (fun q _ h => hF q h) hF (fun q u t H1 locs1 ht hvm hw hB hz1 hk1 hS1 => ?_)
  obtain ⟨⟨hP1, hD1⟩, hz9⟩ := hB
  rw [ht] at hP1 hz9
  exact kk q u H1 locs1 hw hz9 (hr_back hp hA hP1 hD1 hk1 hS1)
theorem hs_cTi {φ : Int32 → S → Prop} {Wf : S → va_W} (C0 : hr_C p s m args meth c D z cc nL ret own nm A) (hKT : va_K D hr_cl tys s) (hp : hr_H D A s.heap Y0 H locs) (X : va_W) (M : hs_Ki l D z tys y (hr_wm y bytes maxL ret') rm As Y k mc ms φ Wf) (hY : Y0 = Y ++ X) (hcode : Cond.code y bytes maxL ret' ∈ hr_wa) (hini : Cond.initialized y.cls ∈ hr_wa) (hlink : Cond.methodLink own index y ∈ hr_wa) (hstat : Cond.static y ∈ hr_wa) (hrm : rm.cells = mc ∧ rm.slots = ms)
    (hd : y.cls ≠ "java/lang/invoke/MethodHandle" ∧ y.cls ≠ "java/lang/invoke/VarHandle" ∧ (parseMethodDescriptor y.desc).map (fun d => d.parameters.length) = some n) (hR : rm.frames + 1 ≤ R.frames ∧ 8 + (maxL + 11) + rm.locals ≤ R.locals) (hf : cells + mc ≤ R.cells ∧ slots + ms ≤ R.slots) (hsz : ls.size = nL) (hn : As.length = n) (hst0 : st0 = As.reverse ++ rest) (hst : (rest.map fun v => v.category).sum ≤ 8) (hdg : decode cc pc = .ok (.invokestatic index, 3))
    (kk : ∀ (q : Int32) (u : S) (H1 : Heap) (locs : List Loc), φ q u → H.size + k ≤ H1.size → hr_H D A s.heap (Wf u ++ X) H1 locs → W p l e R s m args below meth c H1 locs (cells + mc) (slots + ms) Q (F0 m (pc + 3) ls (.int q :: rest))) : W p l e R s m args below meth c H locs cells slots Q (F0 m pc ls st0) := by
  subst hst0
  subst hY
  obtain ⟨hx, hb, hr, hml, hown, hts, hK, hlk, hA, hN, -⟩ := C0
  have hF := hr_free hp hA
  refine va_calli (va_runS (As := As) (rest := rest) ⟨hx, hb, hml, hown, hts⟩ (M H.size) (va_cwS n hts (hs_gT hlink hstat hini hcode) rfl hrm.1 hrm.2 hd hR) ⟨hs_blind, fun U hU hW => ⟨rfl, congrArg Array.size hU, by rw [hU]; exact hr_Pl hp.1, va_K.moved hW.alike hKT, (hr_Dl hp.2.1).weaken (fun _ _ _ _ => trivial), hr_sub hp hA hN hU hW⟩⟩ rfl hn hsz rfl (lv_room hst) hdg ⟨hf.1, hf.2⟩) hp.2.2 (fun q _ h => hF q h) hF (fun q u t H1 locs1 ht hvm hw hB hz1 hk1 hS1 => ?_)
  obtain ⟨⟨hP1, hD1⟩, hz9⟩ := hB
  rw [ht] at hP1 hz9
  exact kk q u H1 locs1 hw hz9 (hr_back hp hA hP1 hD1 hk1 hS1)
theorem hs_cNi {φ : Int32 → S → Prop} {Wf : S → va_W} (C0 : hr_C p s m args meth c D z cc nL ret own nm A) (hKT : va_K D hr_cl tys s) (hp : hr_H D A s.heap Y0 H locs) (X : va_W) (M : hs_Ki l D z tys y (hr_wm y bytes maxL ret') rm As Y k mc ms φ Wf) (hY : Y0 = Y ++ X) {host : String} (hcode : Cond.code y bytes maxL ret' ∈ hr_wa) (hini : Cond.initialized y.cls ∈ hr_wa) (hstat : Cond.static y ∈ hr_wa) (hl9 : va_Nw (.methodLinkNest own index y host) s) (hrm : rm.cells = mc ∧ rm.slots = ms)
    (hd : y.cls ≠ "java/lang/invoke/MethodHandle" ∧ y.cls ≠ "java/lang/invoke/VarHandle" ∧ (parseMethodDescriptor y.desc).map (fun d => d.parameters.length) = some n) (hR : rm.frames + 1 ≤ R.frames ∧ 8 + (maxL + 11) + rm.locals ≤ R.locals) (hf : cells + mc ≤ R.cells ∧ slots + ms ≤ R.slots) (hsz : ls.size = nL) (hn : As.length = n) (hst0 : st0 = As.reverse ++ rest) (hst : (rest.map fun v => v.category).sum ≤ 8) (hdg : decode cc pc = .ok (.invokestatic index, 3))
    (kk : ∀ (q : Int32) (u : S) (H1 : Heap) (locs : List Loc), φ q u → H.size + k ≤ H1.size → hr_H D A s.heap (Wf u ++ X) H1 locs → W p l e R s m args below meth c H1 locs (cells + mc) (slots + ms) Q (F0 m (pc + 3) ls (.int q :: rest))) : W p l e R s m args below meth c H locs cells slots Q (F0 m pc ls st0) := by
  subst hst0
  subst hY
  obtain ⟨hx, hb, hr, hml, hown, hts, hK, hlk, hA, hN, -⟩ := C0
  have hF := hr_free hp hA
  refine va_calli (va_runSN (As := As) (rest := rest) ⟨hx, hb, hml, hown, hts⟩ (M H.size) ⟨va_cnB n hts (hr_gd hcode) rfl hrm.1 hrm.2 hl9 (hts _ hini) hd hR, hts _ hstat, trivial⟩ ⟨hs_blind, fun U hU hW => ⟨rfl, congrArg Array.size hU, by rw [hU]; exact hr_Pl hp.1, va_K.moved hW.alike hKT, (hr_Dl hp.2.1).weaken (fun _ _ _ _ => trivial), hr_sub hp hA hN hU hW⟩⟩ rfl hn hsz rfl (lv_room hst) hdg ⟨hf.1, hf.2⟩) hp.2.2 (fun q _ h => hF q h) hF (fun q u t H1 locs1 ht hvm hw hB hz1 hk1 hS1 => ?_)
  obtain ⟨⟨hP1, hD1⟩, hz9⟩ := hB
  rw [ht] at hP1 hz9
  exact kk q u H1 locs1 hw hz9 (hr_back hp hA hP1 hD1 hk1 hS1)
theorem hs_cIv {φ : S → Prop} {Wf : S → va_W} (C0 : hr_C p s m args meth c D z cc nL ret own nm A) (hKT : va_K D hr_cl tys s) (hp : hr_H D A s.heap Y0 H locs) (X : va_W) (M : hs_Kv l D z tys y (hr_wm y bytes maxL none) rm (.ref b :: As) Y k mc ms φ Wf) (hY : Y0 = Y ++ X) (hcode : Cond.code y bytes maxL none ∈ hr_wa) (hini : Cond.initialized y.cls ∈ hr_wa) (hlink : Cond.methodLink own index y ∈ hr_wa) (hinst : Cond.instanceMethod y ∈ hr_wa) (hi : y.name = "<init>") (hrm : rm.cells = mc ∧ rm.slots = ms)
    (hd : y.cls ≠ "java/lang/invoke/MethodHandle" ∧ y.cls ≠ "java/lang/invoke/VarHandle" ∧ (parseMethodDescriptor y.desc).map (fun d => d.parameters.length) = some n) (hR : rm.frames + 1 ≤ R.frames ∧ 8 + (maxL + 11) + rm.locals ≤ R.locals) (hf : cells + mc ≤ R.cells ∧ slots + ms ≤ R.slots) (hsz : ls.size = nL) (hn : As.length = n) (hst0 : st0 = As.reverse ++ .ref b :: rest) (hst : (rest.map fun v => v.category).sum ≤ 8) (hdg : decode cc pc = .ok (.invokespecial index, 3))
    (kk : ∀ (u : S) (H1 : Heap) (locs : List Loc), φ u → H.size + k ≤ H1.size → hr_H D A s.heap (Wf u ++ X) H1 locs → W p l e R s m args below meth c H1 locs (cells + mc) (slots + ms) Q (F0 m (pc + 3) ls rest)) : W p l e R s m args below meth c H locs cells slots Q (F0 m pc ls st0) := by
  subst hst0
  subst hY
  obtain ⟨hx, hb, hr, hml, hown, hts, hK, hlk, hA, hN, -⟩ := C0
  have hF := hr_free hp hA
  refine va_callv (va_runI (As := As) (rest := rest) ⟨hx, hb, hml, hown, hts⟩ (M H.size) (cwI n hts (hr_gd hcode) rfl hrm.1 hrm.2 (hts _ hini) (hts _ hlink) (hts _ hinst) hi hd hR) ⟨hs_blind, fun U hU hW => ⟨rfl, congrArg Array.size hU, by rw [hU]; exact hr_Pl hp.1, va_K.moved hW.alike hKT, (hr_Dl hp.2.1).weaken (fun _ _ _ _ => trivial), hr_sub hp hA hN hU hW⟩⟩ rfl hn hsz rfl (lv_room hst) hdg ⟨hf.1, hf.2⟩) hp.2.2 (fun q _ h => hF q h) hF (fun u t H1 locs1 ht hvm hw hB hz1 hk1 hS1 => ?_)
  obtain ⟨⟨hP1, hD1⟩, hz9⟩ := hB
  rw [ht] at hP1 hz9
  exact kk u H1 locs1 hw hz9 (hr_back hp hA hP1 hD1 hk1 hS1)
theorem hs_cFi {φ : Int32 → S → Prop} {Wf : S → va_W} (C0 : hr_C p s m args meth c D z cc nL ret own nm A) (hKT : va_K D hr_cl tys s) (hp : hr_H D A s.heap Y0 H locs) (X : va_W) (M : hs_Ki l D z tys y (hr_wm y bytes maxL ret') rm (.ref b :: As) Y k mc ms φ Wf) (hY : Y0 = Y ++ X) {ci q0 count : Nat} {T : u_T} {N : Nat} {fs : List Value} {x9 : MethodName} (he : Y[q0]? = some (b, .inr (ci, fs))) (hc : hr_cl[ci]? = some (Cn, T, N)) (g : GoodIn hr_wa (va_wsF own index Cn x9 y (hr_wm y bytes maxL ret'))) (hF9 : va_Fw Cn x9 y s) (hrm : rm.cells = mc ∧ rm.slots = ms)
    (hd : x9.cls ≠ "java/lang/invoke/MethodHandle" ∧ x9.cls ≠ "java/lang/invoke/VarHandle" ∧ (parseMethodDescriptor x9.desc).map (fun d => d.parameters.length) = some n) (hR : rm.frames + 1 ≤ R.frames ∧ 8 + (maxL + 11) + rm.locals ≤ R.locals) (hf : cells + mc ≤ R.cells ∧ slots + ms ≤ R.slots) (hsz : ls.size = nL) (hn : As.length = n) (hst0 : st0 = As.reverse ++ .ref b :: rest) (hst : (rest.map fun v => v.category).sum ≤ 8) (hdg : decode cc pc = .ok (.invokeinterface index count, 5))
    (kk : ∀ (q : Int32) (u : S) (H1 : Heap) (locs : List Loc), φ q u → H.size + k ≤ H1.size → hr_H D A s.heap (Wf u ++ X) H1 locs → W p l e R s m args below meth c H1 locs (cells + mc) (slots + ms) Q (F0 m (pc + 5) ls (.int q :: rest))) : W p l e R s m args below meth c H locs cells slots Q (F0 m pc ls st0) := by
  subst hst0
  subst hY
  obtain ⟨hx, hb, hr, hml, hown, hts, hK, hlk, hA, hN, -⟩ := C0
  have hF := hr_free hp hA
  refine va_callFi (va_runF (hK.1 ci _ hc).2 (As := As) (rest := rest) ⟨hx, hb, hml, hown, hts⟩ (M H.size) (va_cwF n hts g rfl hrm.1 hrm.2 hF9 hd hR) ⟨hs_blind, va_recv hK (hr_Pl hp.1) hc he, fun U hU hW => ⟨rfl, congrArg Array.size hU, by rw [hU]; exact hr_Pl hp.1, va_K.moved hW.alike hKT, (hr_Dl hp.2.1).weaken (fun _ _ _ _ => trivial), hr_sub hp hA hN hU hW⟩⟩ rfl hn hsz rfl (lv_room hst) hdg ⟨hf.1, hf.2⟩) hp.2.2 (fun q _ h => hF q h) hF (fun q u t H1 locs1 ht hvm hw hB hz1 hk1 hS1 => ?_)
  obtain ⟨⟨hP1, hD1⟩, hz9⟩ := hB
  rw [ht] at hP1 hz9
  exact kk q u H1 locs1 hw hz9 (hr_back hp hA hP1 hD1 hk1 hS1)
theorem hs_cFr {φ : S → Nat → Prop} {Wf : S → Nat → va_W} {Tf : S → List (ClassId × FieldType)} (C0 : hr_C p s m args meth c D z cc nL ret own nm A) (hKT : va_K D hr_cl tys s) (hp : hr_H D A s.heap Y0 H locs) (X : va_W) (M : hs_Kr l D z tys y (hr_wm y bytes maxL ret') rm (.ref b :: As) Y k mc ms φ Wf Tf) (hY : Y0 = Y ++ X) {ci q0 count : Nat} {T : u_T} {N : Nat} {fs : List Value} {x9 : MethodName} (he : Y[q0]? = some (b, .inr (ci, fs))) (hc : hr_cl[ci]? = some (Cn, T, N)) (g : GoodIn hr_wa (va_wsF own index Cn x9 y (hr_wm y bytes maxL ret'))) (hF9 : va_Fw Cn x9 y s) (hrm : rm.cells = mc ∧ rm.slots = ms)
    (hd : x9.cls ≠ "java/lang/invoke/MethodHandle" ∧ x9.cls ≠ "java/lang/invoke/VarHandle" ∧ (parseMethodDescriptor x9.desc).map (fun d => d.parameters.length) = some n) (hR : rm.frames + 1 ≤ R.frames ∧ 8 + (maxL + 11) + rm.locals ≤ R.locals) (hf : cells + mc ≤ R.cells ∧ slots + ms ≤ R.slots) (hsz : ls.size = nL) (hn : As.length = n) (hst0 : st0 = As.reverse ++ .ref b :: rest) (hst : (rest.map fun v => v.category).sum ≤ 8) (hdg : decode cc pc = .ok (.invokeinterface index count, 5))
    (kk : ∀ (u : S) (q : Nat) (H1 : Heap) (locs : List Loc), φ u q → va_K D hr_cl (Tf u) s → H.size + k ≤ H1.size → hr_H D A s.heap (Wf u q ++ X) H1 locs → W p l e R s m args below meth c H1 locs (cells + mc) (slots + ms) Q (F0 m (pc + 5) ls (.ref q :: rest))) : W p l e R s m args below meth c H locs cells slots Q (F0 m pc ls st0) := by
  subst hst0
  subst hY
  obtain ⟨hx, hb, hr, hml, hown, hts, hK, hlk, hA, hN, -⟩ := C0
  have hF := hr_free hp hA
  refine va_callFr (va_runF (hK.1 ci _ hc).2 (As := As) (rest := rest) ⟨hx, hb, hml, hown, hts⟩ (M H.size) (va_cwF n hts g rfl hrm.1 hrm.2 hF9 hd hR) ⟨hs_blind, va_recv hK (hr_Pl hp.1) hc he, fun U hU hW => ⟨rfl, congrArg Array.size hU, by rw [hU]; exact hr_Pl hp.1, va_K.moved hW.alike hKT, (hr_Dl hp.2.1).weaken (fun _ _ _ _ => trivial), hr_sub hp hA hN hU hW⟩⟩ rfl hn hsz rfl (lv_room hst) hdg ⟨hf.1, hf.2⟩) hp.2.2 (fun q _ h => hF q h) hF (fun u q t H1 locs1 ht hvm hw hB hz1 hk1 hS1 => ?_)
  obtain ⟨hφ9, ⟨⟨hP1, hD1⟩, hz9⟩, hT1⟩ := hB
  rw [ht] at hP1 hz9
  exact kk u q H1 locs1 hφ9 (va_K.moved hvm.symm hT1) hz9 (hr_back hp hA hP1 hD1 hk1 hS1)
theorem hs_cSl {φ : Int64 → S → Prop} {Wf : S → va_W} (C0 : hr_C p s m args meth c D z cc nL ret own nm A) (hKT : va_K D hr_cl tys s) (hp : hr_H D A s.heap Y0 H locs) (X : va_W) (M : hs_Kl l D z tys y (hr_wm y bytes maxL ret') rm As Y k mc ms φ Wf) (hY : Y0 = Y ++ X) (g : GoodIn hr_wa (wsS own index y (hr_wm y bytes maxL ret'))) (hrm : rm.cells = mc ∧ rm.slots = ms)
    (hd : y.cls = own ∧ y.cls ≠ "java/lang/invoke/MethodHandle" ∧ y.cls ≠ "java/lang/invoke/VarHandle" ∧ (parseMethodDescriptor y.desc).map (fun d => d.parameters.length) = some n) (hR : rm.frames + 1 ≤ R.frames ∧ 8 + (maxL + 11) + rm.locals ≤ R.locals) (hf : cells + mc ≤ R.cells ∧ slots + ms ≤ R.slots) (hsz : ls.size = nL) (hn : As.length = n) (hst0 : st0 = As.reverse ++ rest) (hst : (rest.map fun v => v.category).sum ≤ 8) (hdg : decode cc pc = .ok (.invokestatic index, 3))
    (kk : ∀ (q : Int64) (u : S) (H1 : Heap) (locs : List Loc), φ q u → H.size + k ≤ H1.size → hr_H D A s.heap (Wf u ++ X) H1 locs → W p l e R s m args below meth c H1 locs (cells + mc) (slots + ms) Q (F0 m (pc + 3) ls (.long q :: rest))) : W p l e R s m args below meth c H locs cells slots Q (F0 m pc ls st0) := by
  subst hst0
  subst hY
  obtain ⟨hx, hb, hr, hml, hown, hts, hK, hlk, hA, hN, -⟩ := C0
  have hF := hr_free hp hA
  refine va_calll (va_runS (As := As) (rest := rest) ⟨hx, hb, hml, hown, hts⟩ (M H.size) (cwS n hts g rfl hrm.1 hrm.2 hd hR) ⟨hs_blind, fun U hU hW => ⟨rfl, congrArg Array.size hU, by rw [hU]; exact hr_Pl hp.1, va_K.moved hW.alike hKT, (hr_Dl hp.2.1).weaken (fun _ _ _ _ => trivial), hr_sub hp hA hN hU hW⟩⟩ rfl hn hsz rfl (lv_room hst) hdg ⟨hf.1, hf.2⟩) hp.2.2 (fun q _ h => hF q h) hF (fun q u t H1 locs1 ht hvm hw hB hz1 hk1 hS1 => ?_)
  obtain ⟨⟨hP1, hD1⟩, hz9⟩ := hB
  rw [ht] at hP1 hz9
  exact kk q u H1 locs1 hw hz9 (hr_back hp hA hP1 hD1 hk1 hS1)
/-- a cast to its own class; a place of a list's row -/
theorem hs_cast (C0 : hr_C p s m args meth c D z cc nL ret own nm A) (hp : hr_H D A s.heap Y H locs) (he : Y[q0]? = some (b, .inr (ci, fs))) (hc : hr_cl[ci]? = some (Cn, T, N)) (hw : Cond.classLink own index Cn ∈ hr_wa) (hdg : decode cc pc = .ok (.checkcast index, 3))
    (kk : W p l e R s m args below meth c H locs cells slots Q (F0 m (pc + 3) ls (.ref b :: rest))) : W p l e R s m args below meth c H locs cells slots Q (F0 m pc ls (.ref b :: rest)) := by
  obtain ⟨hx, hb, hr, hml, hown, hts, hK, hlk, hA, -, -⟩ := C0
  exact va_castS hx hb hown (hts _ hw) (hK.1 ci _ hc).2 (va_recv hK hp.1 hc he) hdg kk
theorem hs_aal (C0 : hr_C p s m args meth c D z cc nL ret own nm A) {cA : ClassId} {Cq : String} (hKT : va_K D hr_cl tys s) (t0 : Nat) (ht : tys[t0]? = some (cA, .object Cq)) (hp : hr_H D A s.heap Y H locs) {a n k' r : Nat} {f : Nat → Option Nat} (ha : Y[q0]? = some (a, .inl (cA, n, .inr (.inr (.inr (.inr f)))))) {i : Int32} (hin : vp_in i n) (hk : i.toNatClampNeg = k') (hf : f k' = some r) (hdg : decode cc pc = .ok (.aaload, 1))
    (kk : W p l e R s m args below meth c H locs cells slots Q (F0 m (pc + 1) ls (.ref r :: rest))) : W p l e R s m args below meth c H locs cells slots Q (F0 m pc ls (.int i :: .ref a :: rest)) := by
  obtain ⟨hx, hb, hr, hml, hown, hts, hK, hlk, hA, -, -⟩ := C0
  subst hk
  refine va_aldq (D := D) (cl := hr_cl) (tys := tys) (ws := Y) (f := f) hx hb hKT hp.1 q0 t0 ha ht hin hdg ?_
  rw [hf]
  exact kk
theorem hs_alen (C0 : hr_C p s m args meth c D z cc nL ret own nm A) {cA : ClassId} {Cq : String} (hKT : va_K D hr_cl tys s) (t0 : Nat) (ht : tys[t0]? = some (cA, .object Cq)) (hp : hr_H D A s.heap Y H locs) {a n : Nat} {f : Nat → Option Nat} (ha : Y[q0]? = some (a, .inl (cA, n, .inr (.inr (.inr (.inr f)))))) {x : Int32} (hx9 : Int32.ofNat n = x) (hdg : decode cc pc = .ok (.arraylength, 1))
    (kk : W p l e R s m args below meth c H locs cells slots Q (F0 m (pc + 1) ls (.int x :: rest))) : W p l e R s m args below meth c H locs cells slots Q (F0 m pc ls (.ref a :: rest)) := by
  obtain ⟨hx, hb, hr, hml, hown, hts, hK, hlk, hA, -, -⟩ := C0
  exact va_alen (D := D) (cl := hr_cl) (tys := tys) (ws := Y) (x := (n, .inr (.inr (.inr (.inr f))))) hx hb hKT hp.1 q0 t0 ha ht hx9 hdg kk
/-- a row of whole numbers is written: no cell is lost -/
theorem hs_iast (C0 : hr_C p s m args meth c D z cc nL ret own nm A) {cA : ClassId} (hK1 : va_K D hr_cl [(cA, .int)] s) (hp : hr_H D A s.heap Y H locs) {a n k' : Nat} {f : Nat → Int32} (ha : Y[q0]? = some (a, .inl (cA, n, .inl f))) {i x : Int32} (hin : vp_in i n) (hk : i.toNatClampNeg = k') (hY : Y.set q0 (a, .inl (cA, n, .inl (upd f k' x))) = Y') (hdg : decode cc pc = .ok (.iastore, 1))
    (kk : ∀ (H1 : Heap) (locs : List Loc), H.size + 0 ≤ H1.size → hr_H D A s.heap Y' H1 locs → W p l e R s m args below meth c H1 locs cells slots Q (F0 m (pc + 1) ls rest)) : W p l e R s m args below meth c H locs cells slots Q (F0 m pc ls (.int x :: .int i :: .ref a :: rest)) := by
  obtain ⟨hx, hb, hr, hml, hown, hts, hK, hlk, hA, -, -⟩ := C0
  subst hk
  subst hY
  exact va_iast (D := D) (cl := hr_cl) (tys := [(cA, .int)]) (ws := Y) (f := f) (H0 := H) hx hb hK1 hp.1 hp.2.1 ⟨Nat.le_refl _, fun _ _ _ => rfl, hp.2.2.2.2⟩ q0 0 ha rfl hin hdg (fun H1 locs1 hP hD hS => kk H1 locs1 hS.1 ⟨hP, hD, Nat.le_trans hp.2.2.1 hS.1, fun q h1 h2 => (hS.2.1 q (Nat.lt_of_lt_of_le h1 hp.2.2.1) h2).trans (hp.2.2.2.1 q h1 h2), hS.2.2⟩)
/-- a row of whole numbers is made: one cell more -/
theorem hs_newI (C0 : hr_C p s m args meth c D z cc nL ret own nm A) (hp : hr_H D A s.heap Y H locs) (hw : Cond.arrayClass .int ∈ hr_wa) {i : Int32} {n : Nat} (h0 : ¬ i < 0) (hN : i.toNatClampNeg = n) (hn : n ≤ 100) (hcells : cells + 1 ≤ R.cells) (hslots : slots + n ≤ R.slots) (hdg : decode cc pc = .ok (.newarray .int, 2))
    (kk : ∀ (q : Nat) (cA : ClassId) (H1 : Heap), va_K D hr_cl [(cA, .int)] s → H.size + 1 ≤ H1.size → hr_H D A s.heap (Y ++ [(q, .inl (cA, n, .inl (fun _ => 0)))]) H1 locs → W p l e R s m args below meth c H1 locs (cells + 1) (slots + n) Q (F0 m (pc + 2) ls (.ref q :: rest))) : W p l e R s m args below meth c H locs cells slots Q (F0 m pc ls (.int i :: rest)) := by
  obtain ⟨hx, hb, hr, hml, hown, hts, hK, hlk, hA, -, -⟩ := C0
  obtain ⟨hP, hD, hS⟩ := hp
  subst hN
  refine va_newaK hx hb (atype := .int) (hts _ hw) rfl hdg rfl h0 rfl (by show _ * 4 ≤ _; omega) hcells hslots rfl fun H1 cA e1 z1 o1 hAr hNm => ?_
  have hlt : ∀ (k : Nat) (x : Nat × va_E), Y[k]? = some x → x.1 < H.size := fun k x hx => (hP k x hx).lt
  refine kk H.size cA H1 ⟨hK.1, fun k x hx => ?_⟩ (by omega) ⟨(hP.kept (fun k x hx => o1 x.1 (hlt k x hx))).app (fun k x hx => ?_), hD.push hP rfl (hA _ hS.1), ⟨Nat.le_trans hS.1 (by omega), fun x h1 h2 => (o1 x (Nat.lt_of_lt_of_le h1 hS.1)).trans (hS.2.1 x h1 h2), hS.2.2⟩⟩
  · have hz : k < 1 := (List.getElem?_eq_some_iff.mp hx).1
    rw [show k = 0 by omega] at hx
    cases hx
    exact ⟨hAr, hNm⟩
  · have hz : k < 1 := (List.getElem?_eq_some_iff.mp hx).1
    rw [show k = 0 by omega] at hx
    cases hx
    show H1[H.size]? = some (arrV cA i.toNatClampNeg (fun _ => .int 0))
    exact e1
end HSC
section HSE
variable {p : Program} {l : Launch} {e : Env} {R : Room} {s : State} {m : MethodId} {args : Array Value} {below : List Frame} {meth : Method} {c : Code} {H : Heap} {locs : List Loc} {cells slots k mc ms : Nat}
variable {cc : ByteArray} {pc nL : Nat} {ls : Array Slot} {D : va_G} {z : Nat} {A : Nat → Prop} {own nm : String} {S : Type}
theorem hs_iret {x : Int32} {φ : Int32 → S → Prop} {Wf : S → va_W} {Y : va_W} (u : S) (C0 : hr_C p s m args meth c D z cc nL (some .int) own nm A) (hp : hr_H D A s.heap Y H locs) (hz : s.heap.size + k ≤ H.size) (hY : Y = Wf u) (hc : cells ≤ mc ∧ slots ≤ ms) (hdg : decode cc pc = .ok (.ireturn, 1)) (hφ : φ x u) : W p l e R s m args below meth c H locs cells slots (MQ below (va_Qi φ (fun u t => hs_B D A (Wf u) (s.heap.size + k) t) A) args s mc ms A) (F0 m pc ls [.int x]) := by
  obtain ⟨hx, hb, hr, hml, hown, hts, hK, hlk, hA, -, -⟩ := C0
  subst hY
  refine W.widen (k := mc) (n := ms) hc.1 hc.2 ?_
  exact W.iret hx hb hr (fun t ht hW => ⟨⟨x, u, rfl, hφ, ⟨by rw [ht]; exact hp.1, hp.2.1⟩, by rw [ht]; exact hz⟩, hp.2.2.F ht⟩) hp.2.2.2.2 hdg hlk
theorem hs_zret {x : Int32} {φ : Int32 → S → Prop} {Wf : S → va_W} {Y : va_W} (u : S) (C0 : hr_C p s m args meth c D z cc nL (some .boolean) own nm A) (hp : hr_H D A s.heap Y H locs) (hz : s.heap.size + k ≤ H.size) (hY : Y = Wf u) (h01 : x = 0 ∨ x = 1) (hc : cells ≤ mc ∧ slots ≤ ms) (hdg : decode cc pc = .ok (.ireturn, 1)) (hφ : φ x u) : W p l e R s m args below meth c H locs cells slots (MQ below (va_Qi φ (fun u t => hs_B D A (Wf u) (s.heap.size + k) t) A) args s mc ms A) (F0 m pc ls [.int x]) := by
  obtain ⟨hx, hb, hr, hml, hown, hts, hK, hlk, hA, -, -⟩ := C0
  subst hY
  refine W.widen (k := mc) (n := ms) hc.1 hc.2 ?_
  exact W.zret hx hb hr (by rcases h01 with rfl | rfl <;> rfl) (fun t ht hW => ⟨⟨x, u, rfl, hφ, ⟨by rw [ht]; exact hp.1, hp.2.1⟩, by rw [ht]; exact hz⟩, hp.2.2.F ht⟩) hp.2.2.2.2 hdg hlk
theorem hs_lret {x : Int64} {φ : Int64 → S → Prop} {Wf : S → va_W} {Y : va_W} (u : S) (C0 : hr_C p s m args meth c D z cc nL (some .long) own nm A) (hp : hr_H D A s.heap Y H locs) (hz : s.heap.size + k ≤ H.size) (hY : Y = Wf u) (hc : cells ≤ mc ∧ slots ≤ ms) (hdg : decode cc pc = .ok (.lreturn, 1)) (hφ : φ x u) : W p l e R s m args below meth c H locs cells slots (MQ below (va_Ql φ (fun u t => hs_B D A (Wf u) (s.heap.size + k) t) A) args s mc ms A) (F0 m pc ls [.long x]) := by
  obtain ⟨hx, hb, hr, hml, hown, hts, hK, hlk, hA, -, -⟩ := C0
  subst hY
  refine W.widen (k := mc) (n := ms) hc.1 hc.2 ?_
  exact W.lret hx hb hr (fun t ht hW => ⟨⟨x, u, rfl, hφ, ⟨by rw [ht]; exact hp.1, hp.2.1⟩, by rw [ht]; exact hz⟩, hp.2.2.F ht⟩) hp.2.2.2.2 hdg hlk
theorem hs_vret {φ : S → Prop} {Wf : S → va_W} {Y : va_W} (u : S) (C0 : hr_C p s m args meth c D z cc nL none own nm A) (hp : hr_H D A s.heap Y H locs) (hz : s.heap.size + k ≤ H.size) (hY : Y = Wf u) (hc : cells ≤ mc ∧ slots ≤ ms) (hdg : decode cc pc = .ok (.return_, 1)) (hφ : φ u) : W p l e R s m args below meth c H locs cells slots (MQ below (va_Qv φ (fun u t => hs_B D A (Wf u) (s.heap.size + k) t) A) args s mc ms A) (F0 m pc ls []) := by
  obtain ⟨hx, hb, hr, hml, hown, hts, hK, hlk, hA, -, -⟩ := C0
  subst hY
  refine W.widen (k := mc) (n := ms) hc.1 hc.2 ?_
  exact W.vret hx hb hr (fun t ht hW => ⟨⟨u, rfl, hφ, ⟨by rw [ht]; exact hp.1, hp.2.1⟩, by rw [ht]; exact hz⟩, hp.2.2.F ht⟩) hp.2.2.2.2 hdg hlk
theorem hs_aret {rt : FieldType} {x : Nat} {φ : S → Nat → Prop} {Wf : S → Nat → va_W} {Tf : S → List (ClassId × FieldType)} {Y : va_W} (u : S) (C0 : hr_C p s m args meth c D z cc nL (some rt) own nm A) (hp : hr_H D A s.heap Y H locs) (hz : s.heap.size + k ≤ H.size) (hY : Y = Wf u x) (hrt : (∃ n, rt = .object n) ∨ ∃ t, rt = .array t) (hc : cells ≤ mc ∧ slots ≤ ms) (hdg : decode cc pc = .ok (.areturn, 1)) (hφ : φ u x) (hT : va_K D hr_cl (Tf u) s) : W p l e R s m args below meth c H locs cells slots (MQ below (va_Qr (fun _ => True) (fun u a t => φ u a ∧ hs_B D A (Wf u a) (s.heap.size + k) t ∧ va_K D hr_cl (Tf u) t) A) args s mc ms A) (F0 m pc ls [.ref x]) := by
  obtain ⟨hx, hb, hr, hml, hown, hts, hK, hlk, hA, -, -⟩ := C0
  subst hY
  refine W.widen (k := mc) (n := ms) hc.1 hc.2 ?_
  exact W.aret (v := .ref x) hx hb hr hrt (Or.inr ⟨x, rfl⟩) (fun t ht hW => ⟨⟨u, x, rfl, trivial, hφ, ⟨⟨by rw [ht]; exact hp.1, hp.2.1⟩, by rw [ht]; exact hz⟩, va_K.moved hW.alike hT⟩, hp.2.2.F ht⟩) hp.2.2.2.2 hdg hlk
end HSE
/-- a road with two masts that are awake, without a load, of the frequencies 0 and 2: the reference, its road, four lists, the row of the masts, the masts -/
def hs_Y (a : Nat → Nat) (z : Nat) (cO : ClassId) (pp : Nat → Int32) (th : Int32) : va_W := [((a 0), .inr (2, [.int th, .ref (a 1), .int 0, .int 0])), ((a 1), .inr (1, [.ref (a 2), .ref (a 3), .ref (a 4), .ref (a 5), .int 0])), ((a 2), .inr (0, [.int 2, .ref (a 6), .int 2])), ((a 3), .inr (0, [.int 0, .ref z, .int 0])), ((a 4), .inr (0, [.int 0, .ref z, .int 0])), ((a 5), .inr (0, [.int 0, .ref z, .int 0])), ((a 6), .inl (cO, 10, .inr (.inr (.inr (.inr (va_up (va_up (fun _ => none) 0 (some (a 7))) 1 (some (a 8)))))))), ((a 7), .inr (3, [.int (pp 0), .int (pp 1), .int 0, .int (pp 2), .int (pp 3), .int (pp 4), .int 1, .int 0, .int 0])), ((a 8), .inr (3, [.int (pp 5), .int (pp 6), .int 2, .int (pp 7), .int (pp 8), .int (pp 9), .int 1, .int 0, .int 0]))]
theorem hs_ne {s : State} {D : va_G} {A : Nat → Prop} {a : Nat → Nat} {z : Nat} {cO : ClassId} {pp : Nat → Int32} {th : Int32} {X : va_W} {H : Heap} {locs : List Loc} (hp : hr_H D A s.heap (hs_Y a z cO pp th ++ X) H locs) : a 7 ≠ a 8 := fun e => by
  have := hp.2.1.1 7 8 _ _ rfl rfl e
  omega
