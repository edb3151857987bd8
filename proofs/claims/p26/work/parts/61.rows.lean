/-! THE LAW'S WORLD: the class's 190 cells (hh_W) and, behind them, arrays of the law's own (X) -/
section HLW
variable {D : va_G} {cl : List vw_C} {a b : va_W} {H : Heap} {A : Nat → Prop}
theorem hl_Pl (h : va_P D cl (a ++ b) H) : va_P D cl a H := fun k q hk => h k q (by rw [List.getElem?_append_left (List.getElem?_eq_some_iff.mp hk).1]; exact hk)
theorem hl_Pr (h : va_P D cl (a ++ b) H) : va_P D cl b H := fun k q hk => h (a.length + k) q (by rw [List.getElem?_append_right (Nat.le_add_right _ _), Nat.add_sub_cancel_left]; exact hk)
theorem hl_Dl (h : va_D A (a ++ b)) : va_D A a := ⟨fun i j p q hi hj e => h.1 i j p q (by rw [List.getElem?_append_left (List.getElem?_eq_some_iff.mp hi).1]; exact hi) (by rw [List.getElem?_append_left (List.getElem?_eq_some_iff.mp hj).1]; exact hj) e, fun k q hk => h.2 k q (by rw [List.getElem?_append_left (List.getElem?_eq_some_iff.mp hk).1]; exact hk)⟩
theorem hl_at {k : Nat} {q : Nat × va_E} (hk : b[k]? = some q) : (a ++ b)[a.length + k]? = some q := by rw [List.getElem?_append_right (Nat.le_add_right _ _), Nat.add_sub_cancel_left]; exact hk
theorem hl_Dr (h : va_D A (a ++ b)) : va_D A b := ⟨fun i j p q hi hj e => by
  have := h.1 (a.length + i) (a.length + j) p q (hl_at hi) (hl_at hj) e
  omega, fun k q hk => h.2 (a.length + k) q (hl_at hk)⟩
theorem hl_Dx (h : va_D A (a ++ b)) {i j : Nat} {p q : Nat × va_E} (hi : a[i]? = some p) (hj : b[j]? = some q) : p.1 ≠ q.1 := fun e => by
  have hlt := (List.getElem?_eq_some_iff.mp hi).1
  have := h.1 i (a.length + j) p q (by rw [List.getElem?_append_left hlt]; exact hi) (hl_at hj) e
  omega
end HLW
theorem hl_len {K : Nat → ClassId} {ad : Nat → Nat} {v : hh_M} : (hh_W K ad v).length = 190 := by simp [hh_W]
def hl_H (D : va_G) (K : Nat → ClassId) (ad : Nat → Nat) (A : Nat → Prop) (H0 : Heap) (v : hh_M) (X : va_W) (H : Heap) (locs : List Loc) : Prop := va_P D hh_cl (hh_W K ad v ++ X) H ∧ va_D A (hh_W K ad v ++ X) ∧ va_S A H0 H locs
theorem hl_drop {D : va_G} {K : Nat → ClassId} {ad : Nat → Nat} {A : Nat → Prop} {H0 : Heap} {v : hh_M} {X Y : va_W} {H : Heap} {locs : List Loc} (h : hl_H D K ad A H0 v (X ++ Y) H locs) : hl_H D K ad A H0 v X H locs := by
  obtain ⟨h1, h2, h3⟩ := h
  rw [← List.append_assoc] at h1 h2
  exact ⟨hl_Pl h1, hl_Dl h2, h3⟩
theorem hl_at2 {K : Nat → ClassId} {ad : Nat → Nat} {v : hh_M} {X : va_W} {i : Nat} {q : Nat × va_E} (h : X[i]? = some q) : (hh_W K ad v ++ X)[190 + i]? = some q := by
  have := hl_at (a := hh_W K ad v) h
  rwa [hl_len] at this
theorem hl_set {K : Nat → ClassId} {ad : Nat → Nat} {v : hh_M} {X : va_W} {i : Nat} {q : Nat × va_E} : (hh_W K ad v ++ X).set (190 + i) q = hh_W K ad v ++ X.set i q := by
  rw [List.set_append_right _ _ (by rw [hl_len]; omega), hl_len, Nat.add_sub_cancel_left]
/-- what the walk of the law has at hand -/
def hl_C (p : Program) (s : State) (m : MethodId) (args : Array Value) (meth : Method) (c : Code) (D : va_G) (K : Nat → ClassId) (A : Nat → Prop) (b L : Nat) (xs : Nat → Int32) : Prop :=
  p.tables.exec = Jvm.exec ∧ c.code = code ∧ c.maxLocals = 9 ∧ s.vm.findClass RL = some m.cls ∧ (∀ w ∈ lw_tbl, w.before args s = true) ∧ va_K D hh_cl (hh_ty K) s ∧ (∀ q, s.heap.size ≤ q → A q) ∧ va_X b L xs s s.heap ∧ b < s.heap.size ∧ ¬ A b
section HLR
variable {p : Program} {l : Launch} {e : Env} {R : Room} {s : State} {m : MethodId} {args : Array Value} {below : List Frame} {meth : Method} {c : Code} {H : Heap} {locs : List Loc} {cells slots : Nat} {Q : State → Prop}
variable {pc b L : Nat} {xs : Nat → Int32} {ls : Array Slot} {rest st0 : List Value} {D : va_G} {K : Nat → ClassId} {ad : Nat → Nat} {A : Nat → Prop} {v : hh_M} {X : va_W}
variable {index maxL n : Nat} {y : MethodName} {bytes : ByteArray} {ret' : Option FieldType} {rm : Room} {As : List Value}
theorem hl_free (hp : hl_H D K ad A s.heap v X H locs) (hA : ∀ q, s.heap.size ≤ q → A q) : ∀ q, va_A (hh_W K ad v) H.size q → A q := by
  intro q hq
  rcases hq with ⟨k, e', he⟩ | hq
  · exact (hl_Dl hp.2.1).2 k (q, e') he
  · exact hA q (Nat.le_trans hp.2.2.1 hq)
theorem hl_back (hp : hl_H D K ad A s.heap v X H locs) (hA : ∀ q, s.heap.size ≤ q → A q) {v1 : hh_M} {H1 : Heap} {locs1 : List Loc} (hP1 : va_P D hh_cl (hh_W K ad v1) H1) (hD1 : va_D (va_A (hh_W K ad v) H.size) (hh_W K ad v1)) (hk1 : ∀ q : Nat, q < H.size → ¬ va_A (hh_W K ad v) H.size q → H1[q]? = H[q]?) (hS1 : va_S A s.heap H1 locs1) : hl_H D K ad A s.heap v1 X H1 locs1 := by
  have hx : ∀ (k : Nat) (q : Nat × va_E), X[k]? = some q → q.1 < H.size ∧ ¬ va_A (hh_W K ad v) H.size q.1 := fun k q hk => by
    have hlt := (hl_Pr hp.1 k q hk).lt
    refine ⟨hlt, fun h => ?_⟩
    rcases h with ⟨k2, e2, h2⟩ | h2
    · exact hl_Dx hp.2.1 h2 hk rfl
    · omega
  refine ⟨va_P.app hP1 ((hl_Pr hp.1).kept (fun k q hk => hk1 q.1 (hx k q hk).1 (hx k q hk).2)), va_D.app (hD1.weaken (fun k q _ h => hl_free hp hA _ h)) (hl_Dr hp.2.1) (fun i j p q hi hj e => ?_), hS1⟩
  have h := hD1.2 i p hi
  rw [e] at h
  exact (hx j q hj).2 h
/-- a method of the object is called: it answers a whole number -/
theorem hl_cVi {φ : Int32 → hh_M → Prop} (C0 : hl_C p s m args meth c D K A b L xs) (hp : hl_H D K ad A s.heap v X H locs) (M : hh_Ki l D K ad y (hh_wm y bytes maxL ret') rm (.ref (ad 0) :: As) v φ) (g : GoodIn lw_tbl (wsV RL index RX7 y (hh_wm y bytes maxL ret'))) (hrm : rm.cells = 0 ∧ rm.slots = 0)
    (hd : y.cls = RX7 ∧ y.cls ≠ "java/lang/invoke/MethodHandle" ∧ y.cls ≠ "java/lang/invoke/VarHandle" ∧ (parseMethodDescriptor y.desc).map (fun d => d.parameters.length) = some n) (hR : rm.frames + 1 ≤ R.frames ∧ 8 + (maxL + 11) + rm.locals ≤ R.locals) (hf : cells ≤ R.cells ∧ slots ≤ R.slots) (hsz : ls.size = 9) (hn : As.length = n) (hst0 : st0 = As.reverse ++ .ref (ad 0) :: rest) (hst : (rest.map fun v => v.category).sum ≤ 8) (hdg : decode code pc = .ok (.invokevirtual index, 3))
    (kk : ∀ (q : Int32) (v1 : hh_M) (H1 : Heap) (locs1 : List Loc), φ q v1 → hl_H D K ad A s.heap v1 X H1 locs1 → W p l e R s m args below meth c H1 locs1 cells slots Q (F0 m (pc + 3) ls (.int q :: rest))) : W p l e R s m args below meth c H locs cells slots Q (F0 m pc ls st0) := by
  subst hst0
  obtain ⟨hx, hb, hml, hown, hts, hK, hA, -, -, -⟩ := C0
  have hF := hl_free hp hA
  have hP0 := hl_Pl hp.1
  have hD0 := hl_Dl hp.2.1
  refine va_calli (va_runV (As := As) (rest := rest) ⟨hx, hb, hml, hown, hts⟩ (M H.size) (cwV n hts g rfl hrm.1 hrm.2 hd hR) ⟨hh_blind, va_recv (ci := 7) (q0 := 0) (q := (RX7, TX7, 4)) hK hP0 rfl (by rw [hh_W_at (by decide), hh_E_0]), fun U hU hW => ⟨rfl, by rw [hU], by rw [hU]; exact hP0, va_K.moved hW.alike hK, hD0.weaken (fun _ _ _ _ => trivial)⟩⟩ rfl hn hsz rfl (lv_room hst) hdg ⟨hf.1, hf.2⟩) hp.2.2 (fun q _ h => hF q h) hF (fun q v1 t H1 locs1 ht hvm hw hB hz1 hk1 hS1 => ?_)
  obtain ⟨hP1, hK1, hD1⟩ := hB
  rw [ht] at hP1
  exact kk q v1 H1 locs1 hw (hl_back hp hA hP1 hD1 hk1 hS1)
/-- it answers a long -/
theorem hl_cVl {φ : Int64 → hh_M → Prop} (C0 : hl_C p s m args meth c D K A b L xs) (hp : hl_H D K ad A s.heap v X H locs) (M : hh_Kl l D K ad y (hh_wm y bytes maxL ret') rm (.ref (ad 0) :: As) v φ) (g : GoodIn lw_tbl (wsV RL index RX7 y (hh_wm y bytes maxL ret'))) (hrm : rm.cells = 0 ∧ rm.slots = 0)
    (hd : y.cls = RX7 ∧ y.cls ≠ "java/lang/invoke/MethodHandle" ∧ y.cls ≠ "java/lang/invoke/VarHandle" ∧ (parseMethodDescriptor y.desc).map (fun d => d.parameters.length) = some n) (hR : rm.frames + 1 ≤ R.frames ∧ 8 + (maxL + 11) + rm.locals ≤ R.locals) (hf : cells ≤ R.cells ∧ slots ≤ R.slots) (hsz : ls.size = 9) (hn : As.length = n) (hst0 : st0 = As.reverse ++ .ref (ad 0) :: rest) (hst : (rest.map fun v => v.category).sum ≤ 8) (hdg : decode code pc = .ok (.invokevirtual index, 3))
    (kk : ∀ (q : Int64) (v1 : hh_M) (H1 : Heap) (locs1 : List Loc), φ q v1 → hl_H D K ad A s.heap v1 X H1 locs1 → W p l e R s m args below meth c H1 locs1 cells slots Q (F0 m (pc + 3) ls (.long q :: rest))) : W p l e R s m args below meth c H locs cells slots Q (F0 m pc ls st0) := by
  subst hst0
  obtain ⟨hx, hb, hml, hown, hts, hK, hA, -, -, -⟩ := C0
  have hF := hl_free hp hA
  have hP0 := hl_Pl hp.1
  have hD0 := hl_Dl hp.2.1
  refine va_calll (va_runV (As := As) (rest := rest) ⟨hx, hb, hml, hown, hts⟩ (M H.size) (cwV n hts g rfl hrm.1 hrm.2 hd hR) ⟨hh_blind, va_recv (ci := 7) (q0 := 0) (q := (RX7, TX7, 4)) hK hP0 rfl (by rw [hh_W_at (by decide), hh_E_0]), fun U hU hW => ⟨rfl, by rw [hU], by rw [hU]; exact hP0, va_K.moved hW.alike hK, hD0.weaken (fun _ _ _ _ => trivial)⟩⟩ rfl hn hsz rfl (lv_room hst) hdg ⟨hf.1, hf.2⟩) hp.2.2 (fun q _ h => hF q h) hF (fun q v1 t H1 locs1 ht hvm hw hB hz1 hk1 hS1 => ?_)
  obtain ⟨hP1, hK1, hD1⟩ := hB
  rw [ht] at hP1
  exact kk q v1 H1 locs1 hw (hl_back hp hA hP1 hD1 hk1 hS1)
/-- an array of the law's own: a place is read, is written -/
theorem hl_ial (C0 : hl_C p s m args meth c D K A b L xs) (hp : hl_H D K ad A s.heap v X H locs) (i0 : Nat) {q n k' : Nat} {f : Nat → Int32} (ha : X[i0]? = some (q, .inl (K 0, n, .inl f))) {i : Int32} (hin : vp_in i n) (hk : i.toNatClampNeg = k') (hdg : decode code pc = .ok (.iaload, 1))
    (kk : W p l e R s m args below meth c H locs cells slots Q (F0 m (pc + 1) ls (.int (f k') :: rest))) : W p l e R s m args below meth c H locs cells slots Q (F0 m pc ls (.int i :: .ref q :: rest)) := by
  obtain ⟨hx, hb, hml, hown, hts, hK, hA, -, -, -⟩ := C0
  subst hk
  exact va_iald (D := D) (cl := hh_cl) (tys := hh_ty K) (ws := hh_W K ad v ++ X) (f := f) hx hb hK hp.1 (190 + i0) 0 (hl_at2 ha) rfl hin hdg kk
theorem hl_ias (C0 : hl_C p s m args meth c D K A b L xs) (hp : hl_H D K ad A s.heap v X H locs) (i0 : Nat) {q n k' : Nat} {f : Nat → Int32} (ha : X[i0]? = some (q, .inl (K 0, n, .inl f))) {i x : Int32} (hin : vp_in i n) (hk : i.toNatClampNeg = k') {X' : va_W} (hX' : X.set i0 (q, .inl (K 0, n, .inl (upd f k' x))) = X') (hdg : decode code pc = .ok (.iastore, 1))
    (kk : ∀ (H1 : Heap) (locs1 : List Loc), hl_H D K ad A s.heap v X' H1 locs1 → W p l e R s m args below meth c H1 locs1 cells slots Q (F0 m (pc + 1) ls rest)) : W p l e R s m args below meth c H locs cells slots Q (F0 m pc ls (.int x :: .int i :: .ref q :: rest)) := by
  obtain ⟨hx, hb, hml, hown, hts, hK, hA, -, -, -⟩ := C0
  subst hk
  subst hX'
  refine va_iast (D := D) (cl := hh_cl) (tys := hh_ty K) (ws := hh_W K ad v ++ X) (f := f) hx hb hK hp.1 hp.2.1 hp.2.2 (190 + i0) 0 (hl_at2 ha) rfl hin hdg (fun H1 locs1 hP hD hS => kk H1 locs1 ?_)
  rw [hl_set] at hP hD
  exact ⟨hP, hD, hS⟩
theorem hl_alen (C0 : hl_C p s m args meth c D K A b L xs) (hp : hl_H D K ad A s.heap v X H locs) (i0 : Nat) {q n : Nat} {f : Nat → Int32} (ha : X[i0]? = some (q, .inl (K 0, n, .inl f))) (hdg : decode code pc = .ok (.arraylength, 1))
    (kk : W p l e R s m args below meth c H locs cells slots Q (F0 m (pc + 1) ls (.int (nI n) :: rest))) : W p l e R s m args below meth c H locs cells slots Q (F0 m pc ls (.ref q :: rest)) := by
  obtain ⟨hx, hb, hml, hown, hts, hK, hA, -, -, -⟩ := C0
  exact va_alen (D := D) (cl := hh_cl) (tys := hh_ty K) (ws := hh_W K ad v ++ X) hx hb hK hp.1 (190 + i0) 0 (hl_at2 ha) rfl rfl hdg kk
/-- a new one -/
theorem hl_new (C0 : hl_C p s m args meth c D K A b L xs) (hp : hl_H D K ad A s.heap v X H locs) {i : Int32} {n : Nat} (h0 : ¬ i < 0) (hN : i.toNatClampNeg = n) (hn : n ≤ 100) (hcells : cells + 1 ≤ R.cells) (hslots : slots + n ≤ R.slots) (hdg : decode code pc = .ok (.newarray .int, 2))
    (kk : ∀ (q : Nat) (H1 : Heap), hl_H D K ad A s.heap v (X ++ [(q, .inl (K 0, n, .inl (fun _ => 0)))]) H1 locs → W p l e R s m args below meth c H1 locs (cells + 1) (slots + n) Q (F0 m (pc + 2) ls (.ref q :: rest))) : W p l e R s m args below meth c H locs cells slots Q (F0 m pc ls (.int i :: rest)) := by
  obtain ⟨hx, hb, hml, hown, hts, hK, hA, -, -, -⟩ := C0
  refine va_newa (atype := .int) (D := D) (cl := hh_cl) (tys := hh_ty K) (ws := hh_W K ad v ++ X) (a0 := (n, .inl (fun _ => 0))) hx hb (hts (.arrayClass .int) (by decide +kernel)) (ty := .int) rfl hK hp.1 hp.2.1 hp.2.2 hA (fun cA => rfl) h0 hN (by show n * 4 ≤ _; omega) hcells hslots hdg (fun q cA H1 hK1 hP hD hS => kk q H1 ?_)
  have e1 := hn_RA (hK1.2 0 (K 0, .int) rfl).2
  have e2 := hn_RA (hK1.2 5 (cA, .int) rfl).2
  have e3 : cA = K 0 := Option.some.inj (e2.symm.trans e1)
  subst e3
  rw [List.append_assoc] at hP hD
  exact ⟨hP, hD, hS⟩
end HLR
