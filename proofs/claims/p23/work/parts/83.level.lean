/-! THE LAW: its level: the class's world, the reference's, a row of one number. Section VXS is pasted from kit/laws/EXCEPTIONS (a starting text) -/
section VXS
variable {p : Program} {l : Launch} {e : Env} {R : Room} {s : State} {m : MethodId} {args : Array Value} {below : List Frame} {meth : Method} {c : Code} {T : State} {H : Heap} {locs : List Loc} {cells slots : Nat}
abbrev vx_CSW (R : Room) (s : State) (args : Array Value) (own : String) (index : Nat) (y : MethodName) (bytes : ByteArray) (maxL : Nat) (ret : Option FieldType) (hh : List (Nat × Nat × Nat × Nat)) (ws : List Cond) (rm : Room) (mc ms n : Nat) : Prop :=
  (rm.cells = mc ∧ rm.slots = ms ∧ rm.frames + 1 ≤ R.frames ∧ 8 + (maxL + 11) + rm.locals ≤ R.locals ∧ (∀ w ∈ ws, ∀ (a' : Array Value) (U : State), s.WarmedH U.vm → w.before a' U = true) ∧ Cond.codeWith y bytes maxL ret hh ∈ ws) ∧
  (Cond.codeWith y bytes maxL ret hh).before args s = true ∧ (Cond.initialized y.cls).before args s = true ∧ (y.cls ≠ "java/lang/invoke/MethodHandle" ∧ y.cls ≠ "java/lang/invoke/VarHandle") ∧
  (∀ sig, parseMethodDescriptor y.desc = some sig → n = sig.parameters.length) ∧ (Cond.methodLink own index y).before args s = true ∧ (Cond.static y).before args s = true
theorem vx_cwSW {own : String} {index maxL mc ms : Nat} {y : MethodName} {bytes : ByteArray} {ret : Option FieldType} {hh : List (Nat × Nat × Nat × Nat)} {Ts ws ws' : List Cond} {rm : Room} (n : Nat) (ht : ∀ w ∈ Ts, w.before args s = true) (hT : GoodIn Ts (va_wsS own index y ws)) (hw : ws = Cond.codeWith y bytes maxL ret hh :: ws') (hrc : rm.cells = mc) (hrs : rm.slots = ms)
    (hd : y.cls ≠ "java/lang/invoke/MethodHandle" ∧ y.cls ≠ "java/lang/invoke/VarHandle" ∧ (parseMethodDescriptor y.desc).map (fun d => d.parameters.length) = some n) (hR : rm.frames + 1 ≤ R.frames ∧ 8 + (maxL + 11) + rm.locals ≤ R.locals) :
    vx_CSW R s args own index y bytes maxL ret hh ws rm mc ms n := by
  have ok : ∀ w ∈ va_wsS own index y ws, w.before args s = true := fun w h => ht w (hT w h).1
  have hG : GoodIn Ts ws := fun w h => hT w (by unfold va_wsS; exact List.mem_append_right _ h)
  have hc : Cond.codeWith y bytes maxL ret hh ∈ ws := by rw [hw]; exact List.mem_cons_self
  refine ⟨⟨hrc, hrs, hR.1, hR.2, pay_in ht hG, hc⟩, ht _ (hG _ hc).1, ok _ (by simp [va_wsS]), ⟨hd.1, hd.2.1⟩, fun sig h => ?_, ok _ (by simp [va_wsS]), ok _ (by simp [va_wsS])⟩
  have h2 := hd.2.2
  rw [h] at h2
  exact (Option.some.inj h2).symm
theorem vx_callSW (X : Stand p l e R s m args below meth c T locs cells slots) (hexec : p.tables.exec = Jvm.exec) {own : String} {index : Nat} {y : MethodName} {bytes : ByteArray} {maxL : Nat} {ret : Option FieldType} {hh : List (Nat × Nat × Nat × Nat)}
    (hown : s.vm.findClass own = some m.cls) (hlink : (Cond.methodLink own index y).before args s = true) (hstat : (Cond.static y).before args s = true) (hinit : (Cond.initialized y.cls).before args s = true)
    (hcode : (Cond.codeWith y bytes maxL ret hh).before args s = true) (hy : y.cls ≠ "java/lang/invoke/MethodHandle" ∧ y.cls ≠ "java/lang/invoke/VarHandle")
    {W9 : Nat} {Pre : Pt → Array Value → Prop} {Post : Pt → Array Value → Option Value → Pt → Prop} (hK : Back l R p e below s args y 3 W9 Pre Post)
    {g : JFrame} (hg : g.method = m) (hsize : g.locals.size = c.maxLocals) {argsL rest : List Value} (hlen : ∀ sig, parseMethodDescriptor y.desc = some sig → argsL.length = sig.parameters.length)
    (hstack : g.stack = argsL.reverse ++ rest) (hW : 2 * g.monitorRoom + (rest.map fun v => v.category).sum ≤ W9) (hdg : decode c.code g.pc = .ok (.invokestatic index, 3))
    (hpre : ∀ vm₁, s.WarmedH vm₁ → Pre ⟨T.setVm vm₁, locs, cells, slots⟩ argsL.toArray) :
    ∃ (v : Option Value) (vm₁ : Vm) (B : Pt), s.WarmedH vm₁ ∧ Stand p l e R s m args below meth c B.U B.locs B.cells B.slots ∧ Post ⟨T.setVm vm₁, locs, cells, slots⟩ argsL.toArray v B ∧
      ∀ target, Steps p.tables e below (B.U.setTop { g with pc := g.pc + 3, stack := v.toList ++ rest }) target → Steps p.tables e below (T.setTop g) target := by
  obtain ⟨mk, methM, cM, hnamed, hmethM, -, -, -, -, -, -, hsigM⟩ := Cond.codeWith_spec hcode
  have hstatic : methM.isStatic = true := Cond.static_spec hnamed hmethM hstat
  obtain ⟨kP, hkP, -⟩ := className_of_methodNamed hnamed
  have hinitP : kP.init = .initialized := Cond.initialized_spec (findClass_of_methodNamed hnamed) hkP hinit
  obtain ⟨vm₁, X₁, hstep₁⟩ := X.invokestatic hexec hown hlink hnamed hmethM hstatic hkP hinitP hy (g := g) hg (argsL := argsL) (rest := rest) (hlen _ hsigM) hstack hdg
  obtain ⟨v, B, X', hpost, hsteps⟩ := hK m meth c ⟨T.setVm vm₁, locs, cells, slots⟩ { g with stack := rest } (.invokestatic index) mk argsL.toArray X₁ hg hsize hdg hW (X₁.named hnamed) (hpre vm₁ X₁.warmed)
  exact ⟨v, vm₁, B, X₁.warmed, X', hpost, fun target h => hstep₁ _ fun acts => by rw [doInvoke_state]; exact hsteps.trans h⟩
theorem vx_runSW {y : MethodName} {bytes cc : ByteArray} {maxL nL mc ms n index : Nat} {ret : Option FieldType} {hh : List (Nat × Nat × Nat × Nat)} {ws : List Cond} {rm : Room} {Pc : Array Value → State → Prop} {Qc : Array Value → State → Outcome → State → Prop} {free : Addr → Prop} {Ts : List Cond} {own : String} {As rest : List Value} {g : JFrame}
    (S : CallFix p m c cc nL s args Ts own) (hM : Met l y ws rm Pc Qc mc ms free) (cw : vx_CSW R s args own index y bytes maxL ret hh ws rm mc ms n) (hp : PreS s H Pc As)
    (hg : g.method = m) (hn : As.length = n) (hsize : g.locals.size = nL) (hstack : g.stack = As.reverse ++ rest) (hW : 2 * g.monitorRoom + (rest.map fun v => v.category).sum ≤ 8) (hdg : decode cc g.pc = .ok (.invokestatic index, 3)) (hf : cells + mc ≤ R.cells ∧ slots + ms ≤ R.slots) :
    va_Run p l e R s m args below meth c H locs cells slots mc ms g rest (Qc As.toArray) (free) := by
  obtain ⟨⟨hrc, hrs, hfr, hlo, hws, hcw⟩, hcode, hini, hy, hlen, hl, hstt⟩ := cw
  have hK : Back l R p e below s args y 3 8 (PreOf R mc ms Pc) (PostOf Qc mc ms free) := va_backW (hh := hh) (bytes := bytes) (maxL := maxL) (ret := ret) hM hp.1 hrc hrs hfr hlo hws hcw (fun a' U hW => word_at hW (Or.inl (by first | rfl | simp [Cond.onTables, Cond.keeps, Cond.steady])) hini)
  obtain ⟨hx, hb, hml, ho, -⟩ := S
  intro T hT X
  obtain ⟨v, vm₁, ⟨U', l2, c2, s2⟩, hW₁, X', ⟨g', mk, t, L, e1, e2, hq, h1, hL, h2, h3⟩, st⟩ := vx_callSW X hx (hh := hh) (bytes := bytes) (maxL := maxL) (ret := ret) ho hl hstt hini hcode hy hK hg (hsize.trans hml.symm) (argsL := As) (rest := rest) (fun sig h => hn.trans (hlen sig h)) hstack hW (by rw [hb]; exact hdg)
    (fun vm₁ hW₁ => ⟨hf.1, hf.2, hp.2 (T.setVm vm₁) hT hW₁⟩)
  dsimp only [Pt.U, Pt.locs, Pt.cells, Pt.slots] at X' e1 e2 h1 h2 h3 st
  subst h1; subst h2; subst h3
  exact ⟨v, (T.setVm vm₁).calling g' mk As.toArray, t, U', L, hT, X', hL, e1, e2, hq, st⟩
end VXS
def hq_R (o : Nat) (cJ : ClassId) (g : Nat → Int64) : va_W := [(o, .inl (cJ, 1, .inr (.inl g)))]
theorem hq_P1 {D D' : va_G} {cl cl' : List vw_C} {o n : Nat} {cJ : ClassId} {f : vp_A} {H : Heap} (h : va_P D cl [(o, .inl (cJ, f))] H) : va_P D' cl' [(o, .inl (cJ, f))] H := fun k q hk => by
  match k, hk with
  | 0, hk => cases hk; exact h 0 _ rfl
  | k + 1, hk => simp at hk
/-- behind a call: what isn't the callee's stays, beside what came back -/
theorem hz_back {D : va_G} {cl : List vw_C} {A : Nat → Prop} {Z Z' X : va_W} {H0 H H1 : Heap} {locs : List Loc} (hA : ∀ q, H0.size ≤ q → A q) (hS : va_S A H0 H locs) (hPX : va_P D cl X H) (hD : va_D A (Z ++ X)) (hD1 : va_D (va_A Z H.size) Z') (hk1 : ∀ q : Nat, q < H.size → ¬ va_A Z H.size q → H1[q]? = H[q]?) : va_P D cl X H1 ∧ va_D A (Z' ++ X) := by
  have hF : ∀ q, va_A Z H.size q → A q := fun q hq => by
    rcases hq with ⟨k, e', he⟩ | hq
    · exact (hr_Dl hD).2 k (q, e') he
    · exact hA q (Nat.le_trans hS.1 hq)
  have hx : ∀ (k : Nat) (q : Nat × va_E), X[k]? = some q → q.1 < H.size ∧ ¬ va_A Z H.size q.1 := fun k q hk => by
    have hlt := (hPX k q hk).lt
    refine ⟨hlt, fun h => ?_⟩
    rcases h with ⟨k2, e2, h2⟩ | h2
    · exact hr_Dx hD h2 hk rfl
    · omega
  refine ⟨hPX.kept (fun k q hk => hk1 q.1 (hx k q hk).1 (hx k q hk).2), va_D.app (hD1.weaken (fun k q _ h => hF _ h)) (hr_Dr hD) (fun i j p q hi hj e => ?_)⟩
  have h := hD1.2 i p hi
  rw [e] at h
  exact (hx j q hj).2 h
theorem hz_in {A : Nat → Prop} {Z X : va_W} {H0 H : Heap} {locs : List Loc} (hA : ∀ q, H0.size ≤ q → A q) (hS : va_S A H0 H locs) (hD : va_D A (Z ++ X)) : ∀ q, va_A Z H.size q → A q := fun q hq => by
  rcases hq with ⟨k, e', he⟩ | hq
  · exact (hr_Dl hD).2 k (q, e') he
  · exact hA q (Nat.le_trans hS.1 hq)
/-- the law's own method mast, with numbers that are right -/
def hz_Pm (D : va_G) (K : Nat → ClassId) (ad : Nat → Nat) (v : hh_M) (o : Nat) (cJ : ClassId) (g : Nat → Int64) (As : List Value) (sz : Nat) : Array Value → State → Prop := va_Pc As (fun U => U.heap.size = sz ∧ va_P D hh_cl (hh_W K ad v ++ hq_R o cJ g) U.heap ∧ va_K D hh_cl (hh_ty K) U ∧ va_K D hh_cl [(cJ, .long)] U ∧ va_D (fun _ => True) (hh_W K ad v ++ hq_R o cJ g))
theorem hz_blind {D : va_G} {K : Nat → ClassId} {ad : Nat → Nat} {v : hh_M} {o : Nat} {cJ : ClassId} {g : Nat → Int64} {As : List Value} {sz : Nat} : FrameBlind (hz_Pm D K ad v o cJ g As sz) := by
  intro a U g mk q
  obtain ⟨q0, q1, qP, qK, qJ, qD⟩ := q
  exact ⟨q0, q1, qP, va_K.moved (u := U) (U := U.calling g mk a) (Vm.Alike.refl U.vm) qK, va_K.moved (u := U) (U := U.calling g mk a) (Vm.Alike.refl U.vm) qJ, qD⟩
abbrev hz_wm : List Cond := Cond.codeWith yL_mast cL_mast 9 (some .int) [(0, 18, 21, 13), (0, 18, 25, 15)] :: hz_wl
theorem hz_gx {index nL : Nat} {y : MethodName} {bytes : ByteArray} {ret : Option FieldType} (h1 : Cond.methodLink RL index y ∈ hz_we) (h2 : Cond.instanceMethod y ∈ hz_we) (h3 : Cond.selects RX7 y y ∈ hz_we) (h5 : Cond.code y bytes nL ret ∈ hh_wa) : GoodIn hz_wl (wsV RL index RX7 y (hh_wm y bytes nL ret)) := by
  intro w hw
  unfold wsV at hw
  rcases List.mem_append.mp hw with hw | hw
  · simp only [List.mem_cons, List.not_mem_nil, or_false] at hw
    rcases hw with rfl | rfl | rfl | rfl
    · exact hz_goodl _ (List.mem_append_right _ h1)
    · exact hz_goodl _ (List.mem_append_right _ h2)
    · exact hz_goodl _ (List.mem_append_right _ h3)
    · exact hz_goodl _ (List.mem_append_right _ hz_21)
  · rcases List.mem_cons.mp hw with rfl | hw
    · exact hz_goodl _ (List.mem_append_left _ h5)
    · exact hz_goodl _ (List.mem_append_left _ hw)
theorem hz_len {K : Nat → ClassId} {ad : Nat → Nat} {v : hh_M} : (hh_W K ad v).length = 190 := by simp [hh_W]
abbrev hz_A7 (ad : Nat → Nat) (o : Nat) (fr : Int32) : List Value := [.ref (ad 0), .int 0, .int 60, .int fr, .int 1, .int 0, .int 0, .ref o]
def hz_Qm (D : va_G) (K : Nat → ClassId) (ad : Nat → Nat) (Z : va_W) (nm : Nat) (nh nc : Nat → Nat) (o : Nat) (cJ : ClassId) (sz : Nat) : Array Value → State → Outcome → State → Prop := va_Qi (fun (_ : Int32) (u : hh_M × (Nat → Int64)) => hh_T (nm + 1) nh nc u.1) (fun u t => va_P D hh_cl (hh_W K ad u.1 ++ hq_R o cJ u.2) t.heap ∧ va_D (va_A Z sz) (hh_W K ad u.1 ++ hq_R o cJ u.2)) (va_A Z sz)
set_option maxHeartbeats 4000000 in
set_option maxRecDepth 100000 in
theorem hz_mast (l : Launch) (D : va_G) (K : Nat → ClassId) (ad : Nat → Nat) {nm : Nat} {nh nc : Nat → Nat} {v : hh_M} (hT : hh_T nm nh nc v) (hm6 : nm < 6) (o : Nat) (cJ : ClassId) (g : Nat → Int64) (fr : Int32) (hfr0 : 0 ≤ fr) (hfr1 : fr ≤ 2) (sz : Nat) : Met l yL_mast hz_wm { frames := 5, cells := 0, slots := 0, locals := 117 } (hz_Pm D K ad v o cJ g (hz_A7 ad o fr) sz) (hz_Qm D K ad (hh_W K ad v ++ hq_R o cJ g) nm nh nc o cJ sz) 0 0 (va_A (hh_W K ad v ++ hq_R o cJ g) sz) := by
  refine va_MetW (cc := cL_mast) (maxL := 9) (ret := some .int) (hh := [(0, 18, 21, 13), (0, 18, 25, 15)]) (by decide) rfl ?_
  intro p e s m args below meth c s₁ B hml hv
  obtain ⟨rfl, hsz, hP, hK, hJ, hD0⟩ := hv
  have hts := atoms_spec (ws := hz_wm) B.pre
  subst hsz
  have hl := lv_entry (hz_A7 ad o fr) (n := 9) (Nat.le_of_ble_eq_true rfl)
  rw [lg_entry_eq]
  generalize (lg_sl (hz_A7 ad o fr) ++ List.replicate (9 - (lg_sl (hz_A7 ad o fr)).length) Slot.unset).toArray = ls at hl ⊢
  have h9 : ∀ w ∈ hz_wl, w.before (hz_A7 ad o fr).toArray s = true := fun w hw => hts w (List.mem_cons_of_mem _ hw)
  have hx := B.exec
  have hb := B.bytes
  have hr9 := B.returns
  have hlk := B.notSynchronized
  have hown := findClass_of_methodNamed B.named
  have hl : lv_has ls 9 [(0, .ref (ad 0)), (1, .int 0), (2, .int 60), (3, .int fr), (4, .int 1), (5, .int 0), (6, .int 0), (7, .ref o)] := hl
  have hA : ∀ q, s.heap.size ≤ q → va_A (hh_W K ad v ++ hq_R o cJ g) s.heap.size q := fun q h => Or.inr h
  have hD := hD0.self (sz := s.heap.size)
  have hS : va_S (va_A (hh_W K ad v ++ hq_R o cJ g) s.heap.size) s.heap s.heap [] := va_S.rf
  refine lv_aload hx hb dL_mast_0 (lv_at hl 7 rfl) ?_
  refine lv_iconst (v := 0) hx hb dL_mast_2 (by decide) ?_
  refine lv_aload_n hx hb dL_mast_3 rfl (lv_at hl 0 rfl) ?_
  refine lv_iload_n hx hb dL_mast_4 rfl (lv_at hl 1 rfl) ?_
  refine lv_iload_n hx hb dL_mast_5 rfl (lv_at hl 2 rfl) ?_
  refine lv_iload_n hx hb dL_mast_6 rfl (lv_at hl 3 rfl) ?_
  refine lv_iload hx hb dL_mast_7 (lv_at hl 4 rfl) ?_
  refine lv_iload hx hb dL_mast_9 (lv_at hl 5 rfl) ?_
  refine lv_iload hx hb dL_mast_11 (lv_at hl 6 rfl) ?_
  refine va_calli (va_runV (As := [.int 0, .int 60, .int fr, .int 1, .int 0, .int 0]) (rest := [.int 0, .ref o]) ⟨hx, hb, hml, hown, h9⟩ (hk_X7_mast l D K ad hT 0 60 fr 1 0 0 (by decide) (by decide) (by decide) (by decide) hfr0 hfr1 (by decide) (by decide) (by decide) (by decide) (by decide) (by decide) hm6 s.heap.size) (cwV 6 h9 (hz_gx hz_16 hz_17 hz_18 hm_323) rfl rfl rfl (by decide +kernel) ⟨Nat.le_of_ble_eq_true rfl, Nat.le_of_ble_eq_true rfl⟩) ⟨hh_blind, va_recv (ci := 7) (q0 := 0) (q := (RX7, TX7, 4)) hK (hr_Pl hP) rfl (by rw [hh_W_at (by decide), hh_E_0]), fun U hU hW => ⟨rfl, congrArg Array.size hU, by rw [hU]; exact hr_Pl hP, va_K.moved hW.alike hK, (hr_Dl hD).weaken (fun _ _ _ _ => trivial)⟩⟩ rfl rfl hl.1 rfl (lv_room (Nat.le_of_ble_eq_true rfl)) dL_mast_13 ⟨Nat.le_of_ble_eq_true rfl, Nat.le_of_ble_eq_true rfl⟩) hS (fun q _ h => hz_in hA hS hD q h) (hz_in hA hS hD) (fun q v1 t H1 locs1 ht hvm hw hB hz1 hk1 hS1 => ?_)
  obtain ⟨hP1, -, hD1⟩ := hB
  rw [ht] at hP1
  obtain ⟨hPR, hD2⟩ := hz_back hA hS (hr_Pr hP) hD hD1 hk1
  refine lv_i2l hx hb dL_mast_16 rfl ?_
  have hPa : va_P D hh_cl (hh_W K ad v1 ++ hq_R o cJ g) H1 := va_P.app hP1 hPR
  refine va_last (D := D) (cl := hh_cl) (tys := [(cJ, .long)]) (ws := hh_W K ad v1 ++ hq_R o cJ g) (f := g) hx hb hJ hPa hD2 hS1 ((hh_W K ad v1).length + 0) 0 (hr_at rfl) rfl (by unfold vp_in; decide) dL_mast_17 (fun H locs hP hD hS => ?_)
  rw [List.set_append_right _ _ (Nat.le_add_right _ _), Nat.add_sub_cancel_left] at hP hD
  refine lv_goto (tgt := 29) hx hb dL_mast_18 (by decide) ?_
  refine lv_iconst (v := 0) hx hb dL_mast_29 (by decide) ?_
  exact W.iret hx hb hr9 (fun t ht hW => ⟨⟨0, (v1, vp_updL g (Int32.toNatClampNeg 0) q.toInt64), rfl, hw.2, by show va_P D hh_cl _ t.heap; rw [ht]; exact hP, hD⟩, hS.F ht⟩) hS.2.2 dL_mast_30 hlk
/-- the law's world: the class's cells and the row of one number, the reference's beside them -/
def hz_W (D1 D2 : va_G) (K : Nat → ClassId) (ad : Nat → Nat) (v : hh_M) (Y : va_W) (o : Nat) (cJ : ClassId) (g : Nat → Int64) (A : Nat → Prop) (H0 H : Heap) (locs : List Loc) : Prop := va_P D1 hh_cl (hh_W K ad v ++ hq_R o cJ g) H ∧ va_P D2 hr_cl Y H ∧ va_D A ((hh_W K ad v ++ hq_R o cJ g) ++ Y) ∧ va_S A H0 H locs
def hz_C (p : Program) (s : State) (m : MethodId) (args : Array Value) (c : Code) (D1 D2 : va_G) (K : Nat → ClassId) (z b L : Nat) (xs : Nat → Int32) (cJ cO : ClassId) (A : Nat → Prop) : Prop :=
  p.tables.exec = Jvm.exec ∧ c.code = cL_law ∧ c.maxLocals = 9 ∧ s.vm.findClass RL = some m.cls ∧ (∀ w ∈ lw_tbl, w.before args s = true) ∧ va_K D1 hh_cl (hh_ty K) s ∧ va_K D1 hh_cl [(cJ, .long)] s ∧ va_K D2 hr_cl (hs_t cO) s ∧ (∀ q, s.heap.size ≤ q → A q) ∧ hr_N z A s s.heap ∧ va_X b L xs s s.heap ∧ b < s.heap.size ∧ ¬ A b
theorem hz_gS : GoodIn lw_tbl (va_wsS RL 84 yL_mast hz_wm) := by
  intro w hw
  unfold va_wsS at hw
  rcases List.mem_append.mp hw with hw | hw
  · simp only [List.mem_cons, List.not_mem_nil, or_false] at hw
    rcases hw with rfl | rfl | rfl
    · exact hz_good _ hz_4
    · exact hz_good _ hz_5
    · exact hz_good _ hz_19
  · rcases List.mem_cons.mp hw with rfl | hw
    · exact hz_good _ hz_6
    · exact ⟨hz_wl_tbl _ hw, (hz_goodl _ hw).2⟩
theorem hz_gV {index nL : Nat} {y : MethodName} {bytes : ByteArray} {ret : Option FieldType} (h1 : Cond.methodLink RL index y ∈ hz_we) (h2 : Cond.instanceMethod y ∈ hz_we) (h3 : Cond.selects RX12 y y ∈ hz_we) (h5 : Cond.code y bytes nL ret ∈ hr_wa) : GoodIn lw_tbl (wsV RL index RX12 y (hr_wm y bytes nL ret)) := by
  intro w hw
  unfold wsV at hw
  rcases List.mem_append.mp hw with hw | hw
  · simp only [List.mem_cons, List.not_mem_nil, or_false] at hw
    rcases hw with rfl | rfl | rfl | rfl
    · exact hz_good _ h1
    · exact hz_good _ h2
    · exact hz_good _ h3
    · exact hz_good _ hz_20
  · rcases List.mem_cons.mp hw with rfl | hw
    · exact ⟨hr_tbl _ h5, (hr_good _ h5).2⟩
    · exact ⟨hr_tbl _ hw, (hr_good _ hw).2⟩
theorem hz_gW {index nL : Nat} {y : MethodName} {bytes : ByteArray} {ret : Option FieldType} (h1 : Cond.methodLink RL index y ∈ hz_we) (h2 : Cond.instanceMethod y ∈ hz_we) (h3 : Cond.selects RX7 y y ∈ hz_we) (h5 : Cond.code y bytes nL ret ∈ hh_wa) : GoodIn lw_tbl (wsV RL index RX7 y (hh_wm y bytes nL ret)) := by
  intro w hw
  unfold wsV at hw
  rcases List.mem_append.mp hw with hw | hw
  · simp only [List.mem_cons, List.not_mem_nil, or_false] at hw
    rcases hw with rfl | rfl | rfl | rfl
    · exact hz_good _ h1
    · exact hz_good _ h2
    · exact hz_good _ h3
    · exact hz_good _ hz_21
  · rcases List.mem_cons.mp hw with rfl | hw
    · exact ⟨hh_tbl _ h5, (hh_good _ h5).2⟩
    · exact ⟨hh_tbl _ hw, (hh_good _ hw).2⟩
section HZ
variable {p : Program} {l : Launch} {e : Env} {R : Room} {s : State} {m : MethodId} {args : Array Value} {below : List Frame} {meth : Method} {c : Code} {H : Heap} {locs : List Loc} {cells slots : Nat} {Q : State → Prop}
variable {pc : Nat} {ls : Array Slot} {rest st0 : List Value} {D1 D2 : va_G} {K : Nat → ClassId} {ad : Nat → Nat} {A : Nat → Prop} {z o b L : Nat} {xs : Nat → Int32} {cJ cO : ClassId} {v : hh_M} {g : Nat → Int64}
variable {index maxL n k mc ms : Nat} {y : MethodName} {bytes : ByteArray} {ret' : Option FieldType} {rm : Room} {As : List Value} {Y : va_W}
theorem hz_arg (C0 : hz_C p s m args c D1 D2 K z b L xs cJ cO A) (hS : va_S A s.heap H locs) {k : Nat} (hk : k < L) (hk31 : k < 2 ^ 31) (hdg : decode cL_law pc = .ok (.iaload, 1))
    (kk : W p l e R s m args below meth c H locs cells slots Q (F0 m (pc + 1) ls (.int (xs k) :: rest))) : W p l e R s m args below meth c H locs cells slots Q (F0 m pc ls (.int (nI k) :: .ref b :: rest)) := by
  obtain ⟨hx, hb, hml, hown, hts, hK1, hJ1, hK2, hA, hN, hX, hbl, hbA⟩ := C0
  refine va_sld hx hb hX hbl hbA hS (fun h => h.elim (nI_pos hk31) (fun q => absurd hk (Nat.not_lt.mpr (by rw [nI_clamp hk31] at q; exact q)))) hdg ?_
  rw [nI_clamp hk31]
  exact kk
/-- the law's method mast -/
theorem hz_cm (C0 : hz_C p s m args c D1 D2 K z b L xs cJ cO A) (hp : hz_W D1 D2 K ad v Y o cJ g A s.heap H locs) {nm : Nat} {nh nc : Nat → Nat} (hT : hh_T nm nh nc v) (hm6 : nm < 6) {fr : Int32} (hfr0 : 0 ≤ fr) (hfr1 : fr ≤ 2) (hR : 6 ≤ R.frames ∧ 200 ≤ R.locals) (hf : cells ≤ R.cells ∧ slots ≤ R.slots) (hsz : ls.size = 9) (hdg : decode cL_law pc = .ok (.invokestatic 84, 3))
    (kk : ∀ (q : Int32) (v1 : hh_M) (g1 : Nat → Int64) (H1 : Heap) (locs1 : List Loc), hh_T (nm + 1) nh nc v1 → H.size ≤ H1.size → hz_W D1 D2 K ad v1 Y o cJ g1 A s.heap H1 locs1 → W p l e R s m args below meth c H1 locs1 cells slots Q (F0 m (pc + 3) ls [.int q])) : W p l e R s m args below meth c H locs cells slots Q (F0 m pc ls [.ref o, .int 0, .int 0, .int 1, .int fr, .int 60, .int 0, .ref (ad 0)]) := by
  obtain ⟨hx, hb, hml, hown, hts, hK1, hJ1, hK2, hA, hN, hX, hbl, hbA⟩ := C0
  obtain ⟨hP1, hP2, hD, hS⟩ := hp
  refine va_calli (vx_runSW (As := hz_A7 ad o fr) (rest := []) ⟨hx, hb, hml, hown, hts⟩ (hz_mast l D1 K ad hT hm6 o cJ g fr hfr0 hfr1 H.size) (vx_cwSW 8 hts hz_gS rfl rfl rfl (by decide +kernel) ⟨hR.1, Nat.le_trans (Nat.le_of_ble_eq_true rfl) hR.2⟩) ⟨hz_blind, fun U hU hW => ⟨rfl, congrArg Array.size hU, by rw [hU]; exact hP1, va_K.moved hW.alike hK1, va_K.moved hW.alike hJ1, (hr_Dl hD).weaken (fun _ _ _ _ => trivial)⟩⟩ rfl rfl hsz rfl (lv_room (Nat.le_of_ble_eq_true rfl)) hdg ⟨hf.1, hf.2⟩) hS (fun q _ h => hz_in hA hS hD q h) (hz_in hA hS hD) (fun q u t H1 locs1 ht hvm hw hB hz1 hk1 hS1 => ?_)
  obtain ⟨hP3, hD3⟩ := hB
  rw [ht] at hP3
  obtain ⟨hPY, hD4⟩ := hz_back hA hS hP2 hD hD3 hk1
  exact kk q u.1 u.2 H1 locs1 hw hz1 ⟨hP3, hPY, hD4, hS1⟩
/-- the class's checksum -/
theorem hz_cd (C0 : hz_C p s m args c D1 D2 K z b L xs cJ cO A) (hp : hz_W D1 D2 K ad v Y o cJ g A s.heap H locs) {nm : Nat} (hT : hh_TT nm 0 0 v) (hR : 7 ≤ R.frames ∧ 200 ≤ R.locals) (hf : cells ≤ R.cells ∧ slots ≤ R.slots) (hsz : ls.size = 9) (hdg : decode cL_law pc = .ok (.invokevirtual 164, 3))
    (kk : ∀ (q : Int64) (v1 : hh_M) (H1 : Heap) (locs1 : List Loc), hh_TT nm 0 0 v1 → H.size ≤ H1.size → hz_W D1 D2 K ad v1 Y o cJ g A s.heap H1 locs1 → W p l e R s m args below meth c H1 locs1 cells slots Q (F0 m (pc + 3) ls [.long q])) : W p l e R s m args below meth c H locs cells slots Q (F0 m pc ls [.ref (ad 0)]) := by
  obtain ⟨hx, hb, hml, hown, hts, hK1, hJ1, hK2, hA, hN, hX, hbl, hbA⟩ := C0
  obtain ⟨hP1, hP2, hD, hS⟩ := hp
  obtain ⟨nh, nc, hT, h0, hc0, h1⟩ := hT
  have hD9 : va_D A (hh_W K ad v ++ (hq_R o cJ g ++ Y)) := by rw [← List.append_assoc]; exact hD
  refine va_calll (va_runV (As := []) (rest := []) ⟨hx, hb, hml, hown, hts⟩ (hk_X7_digest l D1 K ad hT (by omega) H.size) (cwV 0 hts (hz_gW hz_10 hz_11 hz_12 hm_445) rfl rfl rfl (by decide +kernel) ⟨hR.1, Nat.le_trans (Nat.le_of_ble_eq_true rfl) hR.2⟩) ⟨hh_blind, va_recv (ci := 7) (q0 := 0) (q := (RX7, TX7, 4)) hK1 (hr_Pl hP1) rfl (by rw [hh_W_at (by decide), hh_E_0]), fun U hU hW => ⟨rfl, congrArg Array.size hU, by rw [hU]; exact hr_Pl hP1, va_K.moved hW.alike hK1, (hr_Dl hD9).weaken (fun _ _ _ _ => trivial)⟩⟩ rfl rfl hsz rfl (lv_room (Nat.le_of_ble_eq_true rfl)) hdg ⟨hf.1, hf.2⟩) hS (fun q _ h => hz_in hA hS hD9 q h) (hz_in hA hS hD9) (fun q v1 t H1 locs1 ht hvm hw hB hz1 hk1 hS1 => ?_)
  obtain ⟨hP3, -, hD3⟩ := hB
  rw [ht] at hP3
  have hDY : va_D A (hh_W K ad v ++ Y) := hr_Dl (b := hq_R o cJ g) (va_D.swap hD)
  obtain ⟨hPR, -⟩ := hz_back hA hS (hr_Pr hP1) (hr_Dl hD) hD3 hk1
  obtain ⟨hPY, -⟩ := hz_back hA hS hP2 hDY hD3 hk1
  have hfst : va_D A (hh_W K ad v1 ++ (hq_R o cJ g ++ Y)) := by
    refine va_D.app (hD3.weaken (fun k q _ h => hz_in hA hS hD9 _ h)) (hr_Dr hD9) (fun i j p q hi hj e => ?_)
    have h := hD3.2 i p hi
    rw [e] at h
    have hlt : q.1 < H.size := by
      rcases List.mem_append.mp (List.mem_of_getElem? hj) with h9 | h9
      · obtain ⟨j9, hj9⟩ := List.getElem?_of_mem h9
        exact (hr_Pr hP1 j9 q hj9).lt
      · obtain ⟨j9, hj9⟩ := List.getElem?_of_mem h9
        exact (hP2 j9 q hj9).lt
    rcases h with ⟨k2, e2, h2⟩ | h2
    · exact hr_Dx hD9 h2 hj rfl
    · omega
  refine kk q v1 H1 locs1 ?_ hz1 ⟨va_P.app hP3 hPR, hPY, by rw [List.append_assoc]; exact hfst, hS1⟩
  have h8 := hw.2.1
  rw [h0, hc0] at h8
  exact h8
/-- the reference is asked -/
theorem hz_ri {S : Type} {φ : Int32 → S → Prop} {Wf : S → va_W} {q0 : Nat} {fs : List Value} {b0 : Nat} (C0 : hz_C p s m args c D1 D2 K z b L xs cJ cO A) (hp : hz_W D1 D2 K ad v Y o cJ g A s.heap H locs) (M : hs_Ki l D2 z (hs_t cO) y (hr_wm y bytes maxL ret') rm (.ref b0 :: As) Y k mc ms φ Wf) (he : Y[q0]? = some (b0, .inr (2, fs))) (gg : GoodIn lw_tbl (wsV RL index RX12 y (hr_wm y bytes maxL ret'))) (hrm : rm.cells = mc ∧ rm.slots = ms)
    (hd : y.cls = RX12 ∧ y.cls ≠ "java/lang/invoke/MethodHandle" ∧ y.cls ≠ "java/lang/invoke/VarHandle" ∧ (parseMethodDescriptor y.desc).map (fun d => d.parameters.length) = some n) (hR : rm.frames + 1 ≤ R.frames ∧ 8 + (maxL + 11) + rm.locals ≤ R.locals) (hf : cells + mc ≤ R.cells ∧ slots + ms ≤ R.slots) (hsz : ls.size = 9) (hn : As.length = n) (hst0 : st0 = As.reverse ++ .ref b0 :: rest) (hst : (rest.map fun v => v.category).sum ≤ 8) (hdg : decode cL_law pc = .ok (.invokevirtual index, 3))
    (kk : ∀ (q : Int32) (u : S) (H1 : Heap) (locs1 : List Loc), φ q u → H.size + k ≤ H1.size → hz_W D1 D2 K ad v (Wf u) o cJ g A s.heap H1 locs1 → W p l e R s m args below meth c H1 locs1 (cells + mc) (slots + ms) Q (F0 m (pc + 3) ls (.int q :: rest))) : W p l e R s m args below meth c H locs cells slots Q (F0 m pc ls st0) := by
  subst hst0
  obtain ⟨hx, hb, hml, hown, hts, hK1, hJ1, hK2, hA, hN, hX, hbl, hbA⟩ := C0
  obtain ⟨hP1, hP2, hD, hS⟩ := hp
  have hD9 : va_D A (Y ++ (hh_W K ad v ++ hq_R o cJ g)) := va_D.swap (a := []) hD
  have hF := hz_in hA hS hD9
  refine va_calli (va_runV (As := As) (rest := rest) ⟨hx, hb, hml, hown, hts⟩ (M H.size) (cwV n hts gg rfl hrm.1 hrm.2 hd hR) ⟨hs_blind, va_recv (ci := 2) (q := (RX12, TX12, 4)) hK2 hP2 rfl he, fun U hU hW => ⟨rfl, congrArg Array.size hU, by rw [hU]; exact hP2, va_K.moved hW.alike hK2, (hr_Dl hD9).weaken (fun _ _ _ _ => trivial), ⟨hN.1.warm hW, by rw [hU]; exact ((hN.2.kept hS.2.1).moved hW.alike).narrow hF⟩⟩⟩ rfl hn hsz rfl (lv_room hst) hdg ⟨hf.1, hf.2⟩) hS (fun q _ h => hF q h) hF (fun q u t H1 locs1 ht hvm hw hB hz1 hk1 hS1 => ?_)
  obtain ⟨⟨hP3, hD3⟩, hz9⟩ := hB
  rw [ht] at hP3 hz9
  obtain ⟨hPW, hD4⟩ := hz_back hA hS hP1 hD9 hD3 hk1
  exact kk q u H1 locs1 hw hz9 ⟨hPW, hP3, va_D.swap (a := []) hD4, hS1⟩
theorem hz_rl {S : Type} {φ : Int64 → S → Prop} {Wf : S → va_W} {q0 : Nat} {fs : List Value} {b0 : Nat} (C0 : hz_C p s m args c D1 D2 K z b L xs cJ cO A) (hp : hz_W D1 D2 K ad v Y o cJ g A s.heap H locs) (M : hs_Kl l D2 z (hs_t cO) y (hr_wm y bytes maxL ret') rm (.ref b0 :: As) Y k mc ms φ Wf) (he : Y[q0]? = some (b0, .inr (2, fs))) (gg : GoodIn lw_tbl (wsV RL index RX12 y (hr_wm y bytes maxL ret'))) (hrm : rm.cells = mc ∧ rm.slots = ms)
    (hd : y.cls = RX12 ∧ y.cls ≠ "java/lang/invoke/MethodHandle" ∧ y.cls ≠ "java/lang/invoke/VarHandle" ∧ (parseMethodDescriptor y.desc).map (fun d => d.parameters.length) = some n) (hR : rm.frames + 1 ≤ R.frames ∧ 8 + (maxL + 11) + rm.locals ≤ R.locals) (hf : cells + mc ≤ R.cells ∧ slots + ms ≤ R.slots) (hsz : ls.size = 9) (hn : As.length = n) (hst0 : st0 = As.reverse ++ .ref b0 :: rest) (hst : (rest.map fun v => v.category).sum ≤ 8) (hdg : decode cL_law pc = .ok (.invokevirtual index, 3))
    (kk : ∀ (q : Int64) (u : S) (H1 : Heap) (locs1 : List Loc), φ q u → H.size + k ≤ H1.size → hz_W D1 D2 K ad v (Wf u) o cJ g A s.heap H1 locs1 → W p l e R s m args below meth c H1 locs1 (cells + mc) (slots + ms) Q (F0 m (pc + 3) ls (.long q :: rest))) : W p l e R s m args below meth c H locs cells slots Q (F0 m pc ls st0) := by
  subst hst0
  obtain ⟨hx, hb, hml, hown, hts, hK1, hJ1, hK2, hA, hN, hX, hbl, hbA⟩ := C0
  obtain ⟨hP1, hP2, hD, hS⟩ := hp
  have hD9 : va_D A (Y ++ (hh_W K ad v ++ hq_R o cJ g)) := va_D.swap (a := []) hD
  have hF := hz_in hA hS hD9
  refine va_calll (va_runV (As := As) (rest := rest) ⟨hx, hb, hml, hown, hts⟩ (M H.size) (cwV n hts gg rfl hrm.1 hrm.2 hd hR) ⟨hs_blind, va_recv (ci := 2) (q := (RX12, TX12, 4)) hK2 hP2 rfl he, fun U hU hW => ⟨rfl, congrArg Array.size hU, by rw [hU]; exact hP2, va_K.moved hW.alike hK2, (hr_Dl hD9).weaken (fun _ _ _ _ => trivial), ⟨hN.1.warm hW, by rw [hU]; exact ((hN.2.kept hS.2.1).moved hW.alike).narrow hF⟩⟩⟩ rfl hn hsz rfl (lv_room hst) hdg ⟨hf.1, hf.2⟩) hS (fun q _ h => hF q h) hF (fun q u t H1 locs1 ht hvm hw hB hz1 hk1 hS1 => ?_)
  obtain ⟨⟨hP3, hD3⟩, hz9⟩ := hB
  rw [ht] at hP3 hz9
  obtain ⟨hPW, hD4⟩ := hz_back hA hS hP1 hD9 hD3 hk1
  exact kk q u H1 locs1 hw hz9 ⟨hPW, hP3, va_D.swap (a := []) hD4, hS1⟩
end HZ
