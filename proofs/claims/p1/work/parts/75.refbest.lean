/-! the reference: rows of qualities, the best place, the checksum, on an empty road -/
def hr_abs (x : Int32) : Int32 := if 0 ≤ x then x else 0 - x
def hr_cov (x : Int32) : Int32 := if x - 0 < 5 then 0 else 1
def hr_srv (pw : Int32) (pl : Nat) (at_ : Nat) (z : Int32) : Int32 := z + hr_one (hr_cov (pw - hr_abs (nI pl - nI at_)))
def hr_cnt (pw : Int32) (pl : Nat) : Int32 := hh_fld (hr_srv pw pl) 100 0
def hr_bst (pw : Int32) (pl : Nat) (z : Int32 × Int32) : Int32 × Int32 := if z.2 < hr_cnt pw pl then (nI pl, hr_cnt pw pl) else z
def hr_bf (pw : Int32) : Int32 := (hh_fld (hr_bst pw) 100 ((-1), (-1))).1
/-- the row of rows of an array of arrays: its component's class -/
def hr_A2 (U : State) (c1 : ClassId) : Prop := ∃ (kA : Class) (comp : ClassId), U.vm.classes[c1]? = some kA ∧ kA.kind = .array comp (.array .int) ∧ U.vm.findClass (FieldType.array .int).toString = some comp
/-- n rows of one place each, in a row -/
def hr_R (q : Nat) (c1 c2 : ClassId) (n : Nat) (ad : Nat → Nat) : va_W := (q, .inl (c1, 100, .inr (.inr (.inr (.inr (hn_fl n ad)))))) :: (List.range n).map (fun k => ((ad k, .inl (c2, 1, .inl (fun _ => 0))) : Nat × va_E))
theorem hr_R_s {a : Nat → Nat} {z : Nat} {th nw : Int32} {q q' : Nat} {c1 c2 : ClassId} {n : Nat} {ad : Nat → Nat} : (hr_Y a z th nw ++ (hr_R q c1 c2 n ad ++ ([(q', .inl (c2, 1, .inl (fun _ => 0)))] : va_W))).set 6 (q, .inl (c1, 100, .inr (.inr (.inr (.inr (va_up (hn_fl n ad) n (some q'))))))) = hr_Y a z th nw ++ hr_R q c1 c2 (n + 1) (hn_ad ad n q') := by
  rw [hn_fl_s]
  unfold hr_R
  rw [hn_map_s (fun k => ((ad k, .inl (c2, 1, .inl (fun _ => 0))) : Nat × va_E)) (fun k => ((hn_ad ad n q' k, .inl (c2, 1, .inl (fun _ => 0))) : Nat × va_E)) n (q', .inl (c2, 1, .inl (fun _ => 0))) (fun k hk => by simp [hn_ad, Nat.ne_of_lt hk]) (by simp [hn_ad])]
  rfl
theorem hr_intK {D : va_G} {s : State} {c2 cA : ClassId} (h1 : va_K D hr_cl [(c2, .int)] s) (h2 : va_K D hr_cl [(cA, .int)] s) : cA = c2 := by
  have a1 := hn_RA (h1.2 0 (c2, .int) rfl).2
  have a2 := hn_RA (h2.2 0 (cA, .int) rfl).2
  rw [a1] at a2
  exact (Option.some.inj a2).symm
theorem hr_int {D : va_G} {args : Array Value} {s : State} (h : (Cond.arrayClass .int).before args s = true) (hK : va_K D hr_cl [] s) : ∃ c : ClassId, va_K D hr_cl [(c, .int)] s := by
  obtain ⟨c, k, comp, h1, h2, h3⟩ := Cond.arrayClass_spec h
  refine ⟨c, ⟨hK.1, fun k9 q hk => ?_⟩⟩
  have hz : k9 < 1 := (List.getElem?_eq_some_iff.mp hk).1
  have h0 : k9 = 0 := by omega
  subst h0
  cases hk
  exact ⟨fun N z => ⟨(fun q hq => by cases hq), k, h2, comp, h3⟩, h1⟩
theorem hr_K2 {D : va_G} {s : State} {c1 c2 : ClassId} {t1 t2 : FieldType} (h1 : va_K D hr_cl [(c1, t1)] s) (h2 : va_K D hr_cl [(c2, t2)] s) : va_K D hr_cl [(c1, t1), (c2, t2)] s := by
  refine ⟨h1.1, fun k q hk => ?_⟩
  match k, hk with
  | 0, hk => exact h1.2 0 q hk
  | 1, hk => exact h2.2 0 q hk
  | k + 2, hk => simp at hk
section HRB
variable {p : Program} {l : Launch} {e : Env} {R : Room} {s : State} {m : MethodId} {args : Array Value} {below : List Frame} {meth : Method} {c : Code} {H : Heap} {locs : List Loc} {cells slots : Nat} {Q : State → Prop}
variable {cc : ByteArray} {pc nL : Nat} {ls : Array Slot} {rest st0 : List Value} {D : va_G} {z : Nat} {A : Nat → Prop} {ret : Option FieldType} {own nm : String} {Y Y' : va_W}
theorem hr_newA (C0 : hr_C p s m args meth c D z cc nL ret own nm A) (hp : hr_H D A s.heap Y H locs) {index : Nat} (hw : Cond.classLink own index (FieldType.array .int).toString ∈ hr_wa) {i : Int32} {n : Nat} (h0 : ¬ i < 0) (hN : i.toNatClampNeg = n) (hn : n ≤ 100) (hcells : cells + 1 ≤ R.cells) (hslots : slots + n ≤ R.slots) (hdg : decode cc pc = .ok (.anewarray index, 3))
    (kk : ∀ (q : Nat) (cA : ClassId) (H : Heap), va_K D hr_cl [(cA, .array .int)] s → hr_A2 s cA → hr_H D A s.heap (Y ++ [(q, .inl (cA, n, .inr (.inr (.inr (.inr (fun _ => none))))))]) H locs → W p l e R s m args below meth c H locs (cells + 1) (slots + n) Q (F0 m (pc + 3) ls (.ref q :: rest))) : W p l e R s m args below meth c H locs cells slots Q (F0 m pc ls (.int i :: rest)) := by
  obtain ⟨hx, hb, hr, hml, hown, hts, hK, hlk, hA, hN9, -⟩ := C0
  obtain ⟨hP, hD, hS⟩ := hp
  subst hN
  refine W.anewA (t := .int) hx hb hown (hts _ hw) (by exact hN9.1.2.2.2.2.2.1) rfl hdg rfl h0 (by omega) hcells hslots fun cA kA comp f1 f2 f3 f4 => ?_
  generalize hH1 : H.push ({ cls := cA, slots := Array.replicate i.toNatClampNeg .null, vm := .none } : Cell) = H1
  have z1 : H1.size = H.size + 1 := by rw [← hH1, Array.size_push]
  have e1 : H1[H.size]? = some (arrV cA i.toNatClampNeg (fun _ => .null)) := by rw [← hH1, Array.getElem?_push_size, ← arrV_new]
  have o1 : ∀ q : Nat, q < H.size → H1[q]? = H[q]? := fun q hq => by rw [← hH1, Array.getElem?_push, if_neg (Nat.ne_of_lt hq)]
  have hAr : ArrOfT s cA (.array .int) := fun N z => ⟨(fun k h => by cases h), kA, f2, comp, f3⟩
  have hk : ∀ (k : Nat) (x : Nat × va_E), Y[k]? = some x → H1[x.1]? = H[x.1]? := fun k x hx => o1 x.1 ((hP k x hx).lt)
  refine kk H.size cA H1 ⟨hK.1, fun k x hx => ?_⟩ ⟨kA, comp, f2, f3, f4⟩ ⟨(hP.kept hk).app (fun k x hx => ?_), hD.push hP rfl (hA _ hS.1), ⟨Nat.le_trans hS.1 (by omega), fun x h1 h2 => (o1 x (Nat.lt_of_lt_of_le h1 hS.1)).trans (hS.2.1 x h1 h2), hS.2.2⟩⟩
  · have hz : k < 1 := (List.getElem?_eq_some_iff.mp hx).1
    have h0 : k = 0 := by omega
    subst h0
    cases hx
    exact ⟨hAr, f1⟩
  · have hz : k < 1 := (List.getElem?_eq_some_iff.mp hx).1
    have h0 : k = 0 := by omega
    subst h0
    cases hx
    show H1[H.size]? = some (vp_cell _ _)
    rw [e1, vp_cell_q]
    rfl
theorem hr_aastI (C0 : hr_C p s m args meth c D z cc nL ret own nm A) {c1 c2 : ClassId} (hA2 : hr_A2 s c1) (hK2 : va_K D hr_cl [(c2, .int)] s) (hp : hr_H D A s.heap Y H locs) {q0 qk a v n n2 k' : Nat} {g : Nat → Int32} {f : Nat → Option Nat} (ha : Y[q0]? = some (a, .inl (c1, n, .inr (.inr (.inr (.inr f)))))) (hv : Y[qk]? = some (v, .inl (c2, n2, .inl g))) {i : Int32} (hin : vp_in i n) (hk : i.toNatClampNeg = k') (hY : Y.set q0 (a, .inl (c1, n, .inr (.inr (.inr (.inr (va_up f k' (some v))))))) = Y') (hdg : decode cc pc = .ok (.aastore, 1))
    (kk : ∀ (H : Heap) (locs : List Loc), hr_H D A s.heap Y' H locs → W p l e R s m args below meth c H locs cells slots Q (F0 m (pc + 1) ls rest)) : W p l e R s m args below meth c H locs cells slots Q (F0 m pc ls (.ref v :: .int i :: .ref a :: rest)) := by
  obtain ⟨hx, hb, hr, hml, hown, hts, hK, hlk, hA, -, -⟩ := C0
  obtain ⟨hP, hD, hS⟩ := hp
  subst hk
  subst hY
  have hlt : i.toNatClampNeg < n := Nat.not_le.mp fun q => hin (Or.inr q)
  have h0 : ¬ i < 0 := fun q => hin (Or.inl q)
  obtain ⟨kA, comp, k1, k2, k3⟩ := hA2
  have hc2 := hn_RA (hK2.2 0 (c2, .int) rfl).2
  have hcomp : comp = c2 := Option.some.inj (k3.symm.trans hc2)
  subst hcomp
  obtain ⟨-, k9, hk9, -⟩ := (hK2.2 0 (comp, .int) rfl).1 0 (fun _ => .null)
  refine W.aast hx hb (hP q0 _ ha) (fun q h => by cases h) (fun h => by cases h) k1 k2 rfl hk9 ⟨h0, by show _ < (arrV _ _ _).slots.size; rw [arrV_size]; exact hlt⟩ (hP qk _ hv) (fun q h => by cases h) hk9 (va_asg _ _) rfl rfl hdg fun H1 e z oq => ?_
  refine kk H1 _ ⟨hP.set hD ha ?_ oq, hD.set ha, hS.put z oq (hD.2 q0 _ ha)⟩
  show H1[a]? = some (vp_cell _ _)
  rw [e]
  rw [vp_cell_q, vp_cell_q, arrV_store]
  congr 2
  funext q
  by_cases hq : q = i.toNatClampNeg
  · subst hq
    simp [updV, va_up, va_rf]
  · simp [updV, va_up, hq]
theorem hr_aalA (C0 : hr_C p s m args meth c D z cc nL ret own nm A) {tys : List (ClassId × FieldType)} {c1 : ClassId} (hK1 : va_K D hr_cl tys s) (t0 : Nat) (ht : tys[t0]? = some (c1, .array .int)) (hp : hr_H D A s.heap Y H locs) {q0 a n k' r : Nat} {f : Nat → Option Nat} (ha : Y[q0]? = some (a, .inl (c1, n, .inr (.inr (.inr (.inr f)))))) {i : Int32} (hin : vp_in i n) (hk : i.toNatClampNeg = k') (hf : f k' = some r) (hdg : decode cc pc = .ok (.aaload, 1))
    (kk : W p l e R s m args below meth c H locs cells slots Q (F0 m (pc + 1) ls (.ref r :: rest))) : W p l e R s m args below meth c H locs cells slots Q (F0 m pc ls (.int i :: .ref a :: rest)) := by
  obtain ⟨hx, hb, -, hml, hown, hts, hK, hlk, hA, -, -⟩ := C0
  subst hk
  have hlt : i.toNatClampNeg < n := Nat.not_le.mp fun q => hin (Or.inr q)
  refine W.aald (v := va_rf (f i.toNatClampNeg)) (ty := .array .int) hx hb (hp.1 q0 _ ha) ((hK1.2 t0 _ ht).1 n (fun i => va_rf (f i))) rfl (fun q => by cases q) (by show ¬ (i < 0 ∨ (arrV _ _ _).slots.size ≤ _); rw [arrV_size]; exact hin) (by show (arrV _ _ _).slots[_]? = _; rw [arrV_read _ _ hlt]) rfl rfl hdg ?_
  rw [hf]
  exact kk
end HRB
/-- a method that knows a class of rows more -/
def hr_preT (D : va_G) (z : Nat) (tys : List (ClassId × FieldType)) (As : List Value) (Y : va_W) (sz : Nat) : Array Value → State → Prop := va_Pc As (fun U => U.heap.size = sz ∧ va_P D hr_cl Y U.heap ∧ va_K D hr_cl tys U ∧ va_D (fun _ => True) Y ∧ hr_N z (va_A Y sz) U U.heap)
def hr_KiT (l : Launch) (D : va_G) (z : Nat) (tys : List (ClassId × FieldType)) (y : MethodName) (ws : List Cond) (rm : Room) (As : List Value) (Y : va_W) (mc ms : Nat) {S : Type} (φ : Int32 → S → Prop) (Wf : S → va_W) : Prop := ∀ sz : Nat, Met l y ws rm (hr_preT D z tys As Y sz) (va_Qi φ (fun u t => hr_B D (va_A Y sz) (Wf u) t) (va_A Y sz)) mc ms (va_A Y sz)
theorem hr_blindT {D : va_G} {z : Nat} {tys : List (ClassId × FieldType)} {As : List Value} {Y : va_W} {sz : Nat} : FrameBlind (hr_preT D z tys As Y sz) := by
  intro a U g mk q
  obtain ⟨q0, q1, qP, qK, qD, qN⟩ := q
  exact ⟨q0, q1, qP, va_K.moved (u := U) (U := U.calling g mk a) (Vm.Alike.refl U.vm) qK, qD, qN.1.same rfl, qN.2.moved (u := U) (U := U.calling g mk a) (Vm.Alike.refl U.vm)⟩
theorem hr_KiT_of {l : Launch} {D : va_G} {z : Nat} {tys : List (ClassId × FieldType)} {y : MethodName} {cc : ByteArray} {nL mc ms : Nat} {ret : Option FieldType} {rm : Room} {As : List Value} {Y : va_W} {S : Type} {φ : Int32 → S → Prop} {Wf : S → va_W} (hy : plainName y.cls = true) (hn : (lg_sl As).length ≤ nL)
    (body : ∀ (p : Program) (e : Env) (s : State) (m : MethodId) (args : Array Value) (below : List Frame) (meth : Method) (c : Code) (ls : Array Slot) (A : Nat → Prop), hr_C p s m args meth c D z cc nL ret y.cls y.name A → va_K D hr_cl tys s → hr_H D A s.heap Y s.heap [] → lv_has ls nL (lv_args 0 As) → W p l e rm s m args below meth c s.heap [] 0 0 (MQ below (va_Qi φ (fun u t => hr_B D A (Wf u) t) A) args s mc ms A) (F0 m 0 ls [])) : hr_KiT l D z tys y (hr_wm y cc nL ret) rm As Y mc ms φ Wf := by
  intro sz
  refine Met.ofW (cc := cc) (maxL := nL) (ret := ret) hy rfl ?_
  intro p e s m args below meth c s₁ B hml hv
  obtain ⟨rfl, hsz, hP, hK, hD0, hN⟩ := hv
  have hts := atoms_spec (ws := hr_wm y cc nL ret) B.pre
  subst hsz
  have hl := lv_entry As (n := nL) hn
  rw [lg_entry_eq]
  exact body p e s m _ below meth c _ _ ⟨B.exec, B.bytes, B.returns, hml, findClass_of_methodNamed B.named, fun w hw => hts w (List.mem_cons_of_mem _ hw), ⟨hK.1, fun k q h => by simp at h⟩, B.notSynchronized, fun q h => Or.inr h, hN, (name_of_methodNamed B.named B.method).1⟩ hK ⟨hP, hD0.self, va_S.rf⟩ hl
section HRT
variable {p : Program} {l : Launch} {e : Env} {R : Room} {s : State} {m : MethodId} {args : Array Value} {below : List Frame} {meth : Method} {c : Code} {H : Heap} {locs : List Loc} {cells slots : Nat} {Q : State → Prop}
variable {cc : ByteArray} {pc nL : Nat} {ls : Array Slot} {rest st0 : List Value} {D : va_G} {z : Nat} {A : Nat → Prop} {ret : Option FieldType} {own nm : String} {Y Y0 : va_W} {tys : List (ClassId × FieldType)}
variable {Cn : String} {index maxL n mc ms b : Nat} {y : MethodName} {bytes : ByteArray} {ret' : Option FieldType} {rm : Room} {As : List Value} {S : Type}
theorem hr_cViT {φ : Int32 → S → Prop} {Wf : S → va_W} (C0 : hr_C p s m args meth c D z cc nL ret own nm A) (hKT : va_K D hr_cl tys s) (hp : hr_H D A s.heap Y0 H locs) (X : va_W) (M : hr_KiT l D z tys y (hr_wm y bytes maxL ret') rm (.ref b :: As) Y mc ms φ Wf) (hY : Y0 = Y ++ X) {ci q0 : Nat} {T : u_T} {N : Nat} {fs : List Value} (he : Y[q0]? = some (b, .inr (ci, fs))) (hc : hr_cl[ci]? = some (Cn, T, N)) (g : GoodIn hr_wa (wsV own index Cn y (hr_wm y bytes maxL ret'))) (hrm : rm.cells = mc ∧ rm.slots = ms)
    (hd : y.cls = Cn ∧ y.cls ≠ "java/lang/invoke/MethodHandle" ∧ y.cls ≠ "java/lang/invoke/VarHandle" ∧ (parseMethodDescriptor y.desc).map (fun d => d.parameters.length) = some n) (hR : rm.frames + 1 ≤ R.frames ∧ 8 + (maxL + 11) + rm.locals ≤ R.locals) (hf : cells + mc ≤ R.cells ∧ slots + ms ≤ R.slots) (hsz : ls.size = nL) (hn : As.length = n) (hst0 : st0 = As.reverse ++ .ref b :: rest) (hst : (rest.map fun v => v.category).sum ≤ 8) (hdg : decode cc pc = .ok (.invokevirtual index, 3))
    (kk : ∀ (q : Int32) (u : S) (H : Heap) (locs : List Loc), φ q u → hr_H D A s.heap (Wf u ++ X) H locs → W p l e R s m args below meth c H locs (cells + mc) (slots + ms) Q (F0 m (pc + 3) ls (.int q :: rest))) : W p l e R s m args below meth c H locs cells slots Q (F0 m pc ls st0) := by
  subst hst0
  subst hY
  obtain ⟨hx, hb, hr, hml, hown, hts, hK, hlk, hA, hN, -⟩ := C0
  have hF := hr_free hp hA
  refine va_calli (va_runV (As := As) (rest := rest) ⟨hx, hb, hml, hown, hts⟩ (M H.size) (cwV n hts g rfl hrm.1 hrm.2 hd hR) ⟨hr_blindT, va_recv hK (hr_Pl hp.1) hc he, fun U hU hW => ⟨rfl, congrArg Array.size hU, by rw [hU]; exact hr_Pl hp.1, va_K.moved hW.alike hKT, (hr_Dl hp.2.1).weaken (fun _ _ _ _ => trivial), hr_sub hp hA hN hU hW⟩⟩ rfl hn hsz rfl (lv_room hst) hdg ⟨hf.1, hf.2⟩) hp.2.2 (fun q _ h => hF q h) hF (fun q u t H1 locs1 ht hvm hw hB hz1 hk1 hS1 => ?_)
  obtain ⟨hP1, hD1⟩ := hB
  rw [ht] at hP1
  exact kk q u H1 locs1 hw (hr_back hp hA hP1 hD1 hk1 hS1)
end HRT
theorem hr_R_at {a : Nat → Nat} {z : Nat} {th nw : Int32} {q : Nat} {c1 c2 : ClassId} {n : Nat} {ad : Nat → Nat} {x : Nat × va_E} : (hr_Y a z th nw ++ (hr_R q c1 c2 n ad ++ [x]))[6 + (n + 1)]? = some x := hr_at (a := hr_Y a z th nw) (k := n + 1) (by rw [List.getElem?_append_right (by simp [hr_R])]; simp [hr_R])
theorem hr_R_row {q : Nat} {c1 c2 : ClassId} {n i : Nat} {ad : Nat → Nat} (h : i < n) : (hr_R q c1 c2 n ad)[i + 1]? = some (ad i, .inl (c2, 1, .inl (fun _ => 0))) := by
  unfold hr_R
  rw [List.getElem?_cons_succ, List.getElem?_map, List.getElem?_range h]
  rfl
set_option maxHeartbeats 4000000 in
set_option maxRecDepth 100000 in
/-- isCovered -/
theorem hr_X12_isCovered (l : Launch) (D : va_G) (a : Nat → Nat) (z : Nat) (th nw : Int32) (X : va_W) (r9 kx : Nat) (cI : ClassId) (hX9 : X[kx]? = some (r9, .inl (cI, 1, .inl (fun _ => 0)))) (p0 p1 : Int32) : hr_KiT l D z [(cI, .int)] yX12_isCovered (hr_wm yX12_isCovered cX12_isCovered 8 (some .boolean)) { frames := 1, cells := 0, slots := 0, locals := 20 } [.ref (a 0), .ref r9, .int p0, .int p1] (hr_Y a z th nw ++ X) 0 0 (fun (q : Int32) (_ : Unit) => q = hr_cov p0) (fun _ => hr_Y a z th nw ++ X) := by
  refine hr_KiT_of (by decide) (Nat.le_of_ble_eq_true rfl) ?_
  intro p e s m args below meth c ls A C0 hKI hp hl
  obtain ⟨hx, hb, hr9, hml, hown, hts, hK, hlk, hA, hN, hnm9⟩ := id C0
  have hl : lv_has ls 8 [(0, .ref (a 0)), (1, .ref r9), (2, .int p0), (3, .int p1)] := hl
  refine lv_aload_n hx hb dX12_isCovered_0 rfl (lv_at hl 0 rfl) ?_
  refine hr_get C0 hp (q0 := 0) (C := RX12) (T := TX12) (N := 4) (ci := 2) rfl rfl hr_uX12 1 (by decide) hw_139 (fun _ h9 => h9) rfl dX12_isCovered_1 ?_
  refine hr_get C0 hp (q0 := 1) (C := RX11) (T := TX11) (N := 5) (ci := 1) rfl rfl hr_uX11 0 (by decide) hw_149 (fun _ h9 => h9) rfl dX12_isCovered_4 ?_
  refine hr_cVi C0 hp (q0 := 2) (ci := 0) (Cn := RJx4a65c) (T := TJx4a65c) (N := 3) (rest := []) (n := 0) (X) (hr_size_2 l D a z th nw) rfl rfl rfl (hr_gV hw_150 hw_52 hw_53 hw_26 hw_54) ⟨rfl, rfl⟩ (by decide +kernel) ⟨Nat.le_of_ble_eq_true rfl, Nat.le_of_ble_eq_true rfl⟩ ⟨Nat.le_of_ble_eq_true rfl, Nat.le_of_ble_eq_true rfl⟩ hl.1 rfl rfl (Nat.le_of_ble_eq_true rfl) dX12_isCovered_7 (fun q_7 u_7 H locs hv_7 hp => ?_)
  subst hv_7
  have hp : hr_H D A s.heap (hr_Y a z th nw ++ X) H _ := hp
  refine lv_istore (lv' := [(4, .int 0), (0, .ref (a 0)), (1, .ref r9), (2, .int p0), (3, .int p1)]) hx hb dX12_isCovered_10 hl (by decide) rfl (fun ls hl => ?_)
  refine lv_iload_n hx hb dX12_isCovered_12 rfl (lv_at hl 3 rfl) ?_
  refine lv_aload_n hx hb dX12_isCovered_13 rfl (lv_at hl 2 rfl) ?_
  refine lv_iload hx hb dX12_isCovered_14 (lv_at hl 0 rfl) ?_
  refine hr_ial C0 hKI hp (q0 := 6 + kx) (n := 1) (f := fun _ => 0) (k' := 0) (hr_at (a := hr_Y a z th nw) hX9) (by unfold vp_in; decide) (by decide) dX12_isCovered_16 ?_
  refine lv_isub hx hb dX12_isCovered_17 ?_
  refine lv_iconst (v := 5) hx hb dX12_isCovered_18 (by decide) ?_
  refine lv_icmp_lt (tgt := 24) hx hb dX12_isCovered_19 (by decide) (fun c1 => ?_) (fun c1 => ?_)
  · refine lv_iconst (v := 0) hx hb dX12_isCovered_24 (by decide) ?_
    refine lv_istore (lv' := [(5, .int 0), (4, .int 0), (0, .ref (a 0)), (1, .ref r9), (2, .int p0), (3, .int p1)]) hx hb dX12_isCovered_25 hl (by decide) rfl (fun ls hl => ?_)
    refine lv_iload hx hb dX12_isCovered_27 (lv_at hl 0 rfl) ?_
    refine lv_iload hx hb dX12_isCovered_29 (lv_at hl 1 rfl) ?_
    refine lv_icmp_ge (tgt := 100) hx hb dX12_isCovered_31 (by decide) (fun _ => ?_) (fun c9 => absurd c9 (by decide))
    refine lv_iconst (v := 0) hx hb dX12_isCovered_100 (by decide) ?_
    exact hr_zret () C0 hp rfl (by decide) ⟨Nat.le_of_ble_eq_true rfl, Nat.le_of_ble_eq_true rfl⟩ dX12_isCovered_101 (if_pos c1).symm
  · refine lv_iconst (v := 1) hx hb dX12_isCovered_22 (by decide) ?_
    exact hr_zret () C0 hp rfl (by decide) ⟨Nat.le_of_ble_eq_true rfl, Nat.le_of_ble_eq_true rfl⟩ dX12_isCovered_23 (if_neg c1).symm
set_option maxHeartbeats 4000000 in
set_option maxRecDepth 100000 in
/-- rowsFor -/
theorem hr_X12_rowsFor (l : Launch) (D : va_G) (a : Nat → Nat) (z : Nat) (th nw : Int32) (p0 : Int32) : hr_Kr l D z yX12_rowsFor (hr_wm yX12_rowsFor cX12_rowsFor 7 (some (.array (.array .int)))) { frames := 1, cells := 101, slots := 200, locals := 20 } [.ref (a 0), .int p0] (hr_Y a z th nw) 101 200 (fun (_ : (Nat → Nat) × ClassId × ClassId) => True) (fun u q9 => hr_Y a z th nw ++ hr_R q9 u.2.1 u.2.2 100 u.1) (fun u => [(u.2.1, .array .int), (u.2.2, .int)]) := by
  refine hr_Kr_of (by decide) (Nat.le_of_ble_eq_true rfl) ?_
  intro p e s m args below meth c ls A C0 hp hl
  obtain ⟨hx, hb, hr9, hml, hown, hts, hK, hlk, hA, hN, hnm9⟩ := id C0
  have hl : lv_has ls 7 [(0, .ref (a 0)), (1, .int p0)] := hl
  refine lv_bipush (v := 100) hx hb dX12_rowsFor_0 (by decide) ?_
  refine hr_newA C0 hp hw_223 (n := 100) (by decide) (by decide) (by decide) (Nat.le_of_ble_eq_true rfl) (Nat.le_of_ble_eq_true rfl) dX12_rowsFor_2 (fun q9 c1 H hK1 hA2 hp => ?_)
  obtain ⟨c2, hK2⟩ := hr_int (hts _ hw_226) hK
  have hp : hr_H D A s.heap (hr_Y a z th nw ++ hr_R q9 c1 c2 0 (fun _ => 0)) H [] := by
    rw [hn_fl_0 (fun _ => 0)] at hp
    exact hp
  refine lv_astore_n (lv' := [(2, .ref q9), (0, .ref (a 0)), (1, .int p0)]) hx hb dX12_rowsFor_5 rfl hl (by decide) rfl (fun ls hl => ?_)
  refine lv_iconst (v := 0) hx hb dX12_rowsFor_6 (by decide) ?_
  refine lv_istore_n (lv' := [(3, .int 0), (2, .ref q9), (0, .ref (a 0)), (1, .int p0)]) hx hb dX12_rowsFor_7 rfl hl (by decide) rfl (fun ls hl => ?_)
  have hL : ∀ (n i : Nat) (ad : Nat → Nat) (c2 : ClassId) (H : Heap) (locs : List Loc) (ls : Array Slot), i ≤ 100 → 100 - i < n → va_K D hr_cl [(c2, .int)] s → hr_H D A s.heap (hr_Y a z th nw ++ hr_R q9 c1 c2 i ad) H locs → lv_has ls 7 [(3, .int (nI i)), (2, .ref q9), (0, .ref (a 0)), (1, .int p0)] → W p l e ({ frames := 1, cells := 101, slots := 200, locals := 20 } : Room) s m args below meth c H locs (1 + i) (100 + i) (MQ below (va_Qr (fun (_ : (Nat → Nat) × ClassId × ClassId) => True) (fun u a9 t => hr_B D A ((fun u q9 => hr_Y a z th nw ++ hr_R q9 u.2.1 u.2.2 100 u.1) u a9) t ∧ va_K D hr_cl ((fun u => [(u.2.1, .array .int), (u.2.2, .int)]) u) t) A) args s 101 200 A) (F0 m 8 ls []) := by
    intro n
    induction n with
    | zero => intro i ad c2 H locs ls h1 h2; omega
    | succ n ih =>
    intro i ad c2 H locs ls hi hn hK2 hp hl
    refine lv_iload_n hx hb dX12_rowsFor_8 rfl (lv_at hl 0 rfl) ?_
    refine lv_bipush (v := 100) hx hb dX12_rowsFor_9 (by decide) ?_
    refine lv_icmp_ge (tgt := 142) hx hb dX12_rowsFor_11 (by decide) (fun c9 => ?_) (fun c9 => ?_)
    · have e9 : i = 100 := by
        have := (nI_leI (a := 100) (b := i) (by decide) (by omega)).mp c9
        omega
      subst e9
      refine lv_aload_n hx hb dX12_rowsFor_142 rfl (lv_at hl 1 rfl) ?_
      exact hr_aret (ad, c1, c2) C0 hp rfl (Or.inr ⟨_, rfl⟩) ⟨Nat.le_of_ble_eq_true rfl, Nat.le_of_ble_eq_true rfl⟩ dX12_rowsFor_143 trivial (hr_K2 hK1 hK2)
    · have hlt : i < 100 := Nat.not_le.mp (fun q => c9 ((nI_leI (a := 100) (b := i) (by decide) (by omega)).mpr q))
      refine lv_aload_n hx hb dX12_rowsFor_14 rfl (lv_at hl 2 rfl) ?_
      refine hr_get C0 hp (q0 := 0) (C := RX12) (T := TX12) (N := 4) (ci := 2) rfl rfl hr_uX12 1 (by decide) hw_139 (fun _ h9 => h9) rfl dX12_rowsFor_15 ?_
      refine hr_get C0 hp (q0 := 1) (C := RX11) (T := TX11) (N := 5) (ci := 1) rfl rfl hr_uX11 0 (by decide) hw_149 (fun _ h9 => h9) rfl dX12_rowsFor_18 ?_
      refine hr_cVi C0 hp (q0 := 2) (ci := 0) (Cn := RJx4a65c) (T := TJx4a65c) (N := 3) (rest := []) (n := 0) (hr_R q9 c1 c2 i ad) (hr_size_2 l D a z th nw) rfl rfl rfl (hr_gV hw_150 hw_52 hw_53 hw_26 hw_54) ⟨rfl, rfl⟩ (by decide +kernel) ⟨Nat.le_of_ble_eq_true rfl, Nat.le_of_ble_eq_true rfl⟩ ⟨by show 1 + i + 0 ≤ 101; omega, by show 100 + i + 0 ≤ 200; omega⟩ hl.1 rfl rfl (Nat.le_of_ble_eq_true rfl) dX12_rowsFor_21 (fun q_21 u_21 H locs hv_21 hp => ?_)
      subst hv_21
      have hp : hr_H D A s.heap (hr_Y a z th nw ++ hr_R q9 c1 c2 i ad) H _ := hp
      refine lv_iconst (v := 1) hx hb dX12_rowsFor_24 (by decide) ?_
      refine lv_iadd hx hb dX12_rowsFor_25 ?_
      rw [show (0 : Int32) + 1 = 1 from by decide]
      refine hr_newI C0 hp hw_226 (n := 1) (by decide) (by decide) (by decide) (by show 1 + i + 1 ≤ 101; omega) (by show 100 + i + 1 ≤ 200; omega) dX12_rowsFor_26 (fun q7 cA H hKA hp => ?_)
      have eA := hr_intK hK2 hKA
      subst eA
      have hp : hr_H D A s.heap (hr_Y a z th nw ++ (hr_R q9 c1 cA i ad ++ [(q7, .inl (cA, 1, .inl (fun _ => 0)))])) H _ := hp
      refine lv_astore (lv' := [(4, .ref q7), (3, .int (nI i)), (2, .ref q9), (0, .ref (a 0)), (1, .int p0)]) hx hb dX12_rowsFor_28 hl (by decide) rfl (fun ls hl => ?_)
      refine lv_iconst (v := 0) hx hb dX12_rowsFor_30 (by decide) ?_
      refine lv_istore (lv' := [(5, .int 0), (4, .ref q7), (3, .int (nI i)), (2, .ref q9), (0, .ref (a 0)), (1, .int p0)]) hx hb dX12_rowsFor_31 hl (by decide) rfl (fun ls hl => ?_)
      refine lv_iload hx hb dX12_rowsFor_33 (lv_at hl 0 rfl) ?_
      refine lv_aload_n hx hb dX12_rowsFor_35 rfl (lv_at hl 4 rfl) ?_
      refine hr_get C0 hp (q0 := 0) (C := RX12) (T := TX12) (N := 4) (ci := 2) rfl rfl hr_uX12 1 (by decide) hw_139 (fun _ h9 => h9) rfl dX12_rowsFor_36 ?_
      refine hr_get C0 hp (q0 := 1) (C := RX11) (T := TX11) (N := 5) (ci := 1) rfl rfl hr_uX11 0 (by decide) hw_149 (fun _ h9 => h9) rfl dX12_rowsFor_39 ?_
      refine hr_cVi C0 hp (q0 := 2) (ci := 0) (Cn := RJx4a65c) (T := TJx4a65c) (N := 3) (rest := [.int 0]) (n := 0) ((hr_R q9 c1 cA i ad ++ [(q7, .inl (cA, 1, .inl (fun _ => 0)))])) (hr_size_2 l D a z th nw) rfl rfl rfl (hr_gV hw_150 hw_52 hw_53 hw_26 hw_54) ⟨rfl, rfl⟩ (by decide +kernel) ⟨Nat.le_of_ble_eq_true rfl, Nat.le_of_ble_eq_true rfl⟩ ⟨by show 1 + i + 1 + 0 ≤ 101; omega, by show 100 + i + 1 + 0 ≤ 200; omega⟩ hl.1 rfl rfl (Nat.le_of_ble_eq_true rfl) dX12_rowsFor_42 (fun q_42 u_42 H locs hv_42 hp => ?_)
      subst hv_42
      have hp : hr_H D A s.heap (hr_Y a z th nw ++ (hr_R q9 c1 cA i ad ++ [(q7, .inl (cA, 1, .inl (fun _ => 0)))])) H _ := hp
      refine lv_icmp_ge (tgt := 131) hx hb dX12_rowsFor_45 (by decide) (fun _ => ?_) (fun c9 => absurd c9 (by decide))
      refine lv_aload_n hx hb dX12_rowsFor_131 rfl (lv_at hl 3 rfl) ?_
      refine lv_iload_n hx hb dX12_rowsFor_132 rfl (lv_at hl 2 rfl) ?_
      refine lv_aload hx hb dX12_rowsFor_133 (lv_at hl 1 rfl) ?_
      refine hr_aastI C0 hA2 hKA hp (q0 := 6) (qk := 6 + (i + 1)) (n := 100) (f := hn_fl i ad) (k' := i) (Y' := hr_Y a z th nw ++ hr_R q9 c1 cA (i + 1) (hn_ad ad i q7)) rfl hr_R_at (vp_in_nI hlt (by decide)) (nI_clamp (by omega)) hr_R_s dX12_rowsFor_135 (fun H locs hp => ?_)
      refine lv_iinc (v := (nI (i + 1))) (lv' := [(3, .int (nI (i + 1))), (5, .int 0), (4, .ref q7), (2, .ref q9), (0, .ref (a 0)), (1, .int p0)]) hx hb dX12_rowsFor_136 hl (k := 2) rfl (nI_1 i) (by decide) rfl (fun ls hl => ?_)
      refine lv_goto (tgt := 8) hx hb dX12_rowsFor_139 (by decide) ?_
      refine W.widen (k := 1 + (i + 1)) (n := 100 + (i + 1)) (by omega) (by omega) ?_
      exact ih (i + 1) (hn_ad ad i q7) cA _ _ _ (by omega) (by omega) hKA hp (lv_sub hl [0, 3, 4, 5] rfl)
  exact hL 101 0 (fun _ => 0) c2 _ _ _ (by decide) (by decide) hK2 hp (lv_sub hl [0, 1, 2, 3] rfl)
set_option maxHeartbeats 4000000 in
set_option maxRecDepth 100000 in
/-- bestFor -/
theorem hr_X12_bestFor (l : Launch) (D : va_G) (a : Nat → Nat) (z : Nat) (th nw : Int32) (p0 p1 : Int32) : hr_Ki l D z yX12_bestFor (hr_wm yX12_bestFor cX12_bestFor 9 (some .int)) { frames := 2, cells := 101, slots := 200, locals := 47 } [.ref (a 0), .int p0, .int p1] (hr_Y a z th nw) 101 200 (fun (q : Int32) (_ : Unit) => q = hr_bf p0) (fun _ => hr_Y a z th nw) := by
  refine hr_Ki_of (by decide) (Nat.le_of_ble_eq_true rfl) ?_
  intro p e s m args below meth c ls A C0 hp hl
  obtain ⟨hx, hb, hr9, hml, hown, hts, hK, hlk, hA, hN, hnm9⟩ := id C0
  have hl : lv_has ls 9 [(0, .ref (a 0)), (1, .int p0), (2, .int p1)] := hl
  refine lv_aload_n hx hb dX12_bestFor_0 rfl (lv_at hl 0 rfl) ?_
  refine hr_get C0 hp (q0 := 0) (C := RX12) (T := TX12) (N := 4) (ci := 2) rfl rfl hr_uX12 1 (by decide) hw_139 (fun _ h9 => h9) rfl dX12_bestFor_1 ?_
  refine hr_get C0 hp (q0 := 1) (C := RX11) (T := TX11) (N := 5) (ci := 1) rfl rfl hr_uX11 0 (by decide) hw_149 (fun _ h9 => h9) rfl dX12_bestFor_4 ?_
  refine hr_cVi C0 hp (q0 := 2) (ci := 0) (Cn := RJx4a65c) (T := TJx4a65c) (N := 3) (rest := []) (n := 0) [] (hr_size_2 l D a z th nw) rfl rfl rfl (hr_gV hw_150 hw_52 hw_53 hw_26 hw_54) ⟨rfl, rfl⟩ (by decide +kernel) ⟨Nat.le_of_ble_eq_true rfl, Nat.le_of_ble_eq_true rfl⟩ ⟨Nat.le_of_ble_eq_true rfl, Nat.le_of_ble_eq_true rfl⟩ hl.1 rfl rfl (Nat.le_of_ble_eq_true rfl) dX12_bestFor_7 (fun q_7 u_7 H locs hv_7 hp => ?_)
  subst hv_7
  have hp : hr_H D A s.heap (hr_Y a z th nw) H _ := hp
  refine lv_bipush (v := 6) hx hb dX12_bestFor_10 (by decide) ?_
  refine lv_icmp_ne (tgt := 17) hx hb dX12_bestFor_12 (by decide) (fun _ => ?_) (fun c9 => absurd c9 (by decide))
  refine lv_aload_n hx hb dX12_bestFor_17 rfl (lv_at hl 0 rfl) ?_
  refine lv_iload_n hx hb dX12_bestFor_18 rfl (lv_at hl 2 rfl) ?_
  refine hr_cVr C0 hp (q0 := 0) (ci := 2) (Cn := RX12) (T := TX12) (N := 4) (rest := []) (n := 1) [] (hr_X12_rowsFor l D a z th nw p1) rfl rfl rfl (hr_gV hw_304 hw_305 hw_306 hw_105 hw_299) ⟨rfl, rfl⟩ (by decide +kernel) ⟨Nat.le_of_ble_eq_true rfl, Nat.le_of_ble_eq_true rfl⟩ ⟨Nat.le_of_ble_eq_true rfl, Nat.le_of_ble_eq_true rfl⟩ hl.1 rfl rfl (Nat.le_of_ble_eq_true rfl) dX12_bestFor_19 (fun u_19 q_19 H locs hv_19 hk_19 hp => ?_)
  have hp : hr_H D A s.heap (hr_Y a z th nw ++ hr_R q_19 u_19.2.1 u_19.2.2 100 u_19.1) H _ := hp
  refine W.widen (k := 101) (n := 200) (by decide) (by decide) ?_
  refine lv_astore_n (lv' := [(3, .ref q_19), (0, .ref (a 0)), (1, .int p0), (2, .int p1)]) hx hb dX12_bestFor_22 rfl hl (by decide) rfl (fun ls hl => ?_)
  refine lv_iconst (v := (-1)) hx hb dX12_bestFor_23 (by decide) ?_
  refine lv_istore (lv' := [(4, .int (-1)), (3, .ref q_19), (0, .ref (a 0)), (1, .int p0), (2, .int p1)]) hx hb dX12_bestFor_24 hl (by decide) rfl (fun ls hl => ?_)
  refine lv_iconst (v := (-1)) hx hb dX12_bestFor_26 (by decide) ?_
  refine lv_istore (lv' := [(5, .int (-1)), (4, .int (-1)), (3, .ref q_19), (0, .ref (a 0)), (1, .int p0), (2, .int p1)]) hx hb dX12_bestFor_27 hl (by decide) rfl (fun ls hl => ?_)
  refine lv_iconst (v := 0) hx hb dX12_bestFor_29 (by decide) ?_
  refine lv_istore (lv' := [(6, .int 0), (5, .int (-1)), (4, .int (-1)), (3, .ref q_19), (0, .ref (a 0)), (1, .int p0), (2, .int p1)]) hx hb dX12_bestFor_30 hl (by decide) rfl (fun ls hl => ?_)
  have hI : ∀ (j : Nat) (m9 b9 : Int32), j ≤ 100 → (∀ (H : Heap) (locs : List Loc) (ls : Array Slot), hr_H D A s.heap (hr_Y a z th nw ++ hr_R q_19 u_19.2.1 u_19.2.2 100 u_19.1) H locs → lv_has ls 9 [(7, .int (hr_cnt p0 j)), (6, .int (nI j)), (5, .int m9), (4, .int b9), (3, .ref q_19), (0, .ref (a 0)), (1, .int p0), (2, .int p1)] → W p l e ({ frames := 2, cells := 101, slots := 200, locals := 47 } : Room) s m args below meth c H locs 101 200 (MQ below (va_Qi (fun (q : Int32) (_ : Unit) => q = hr_bf p0) (fun u t => hr_B D A ((fun _ => hr_Y a z th nw) u) t) A) args s 101 200 A) (F0 m 85 ls [])) → ∀ (n i : Nat) (k9 : Int32) (H : Heap) (locs : List Loc) (ls : Array Slot), i ≤ 100 → 100 - i < n → k9 = hh_fld (hr_srv p0 j) i 0 → hr_H D A s.heap (hr_Y a z th nw ++ hr_R q_19 u_19.2.1 u_19.2.2 100 u_19.1) H locs → lv_has ls 9 [(8, .int (nI i)), (7, .int k9), (6, .int (nI j)), (5, .int m9), (4, .int b9), (3, .ref q_19), (0, .ref (a 0)), (1, .int p0), (2, .int p1)] → W p l e ({ frames := 2, cells := 101, slots := 200, locals := 47 } : Room) s m args below meth c H locs 101 200 (MQ below (va_Qi (fun (q : Int32) (_ : Unit) => q = hr_bf p0) (fun u t => hr_B D A ((fun _ => hr_Y a z th nw) u) t) A) args s 101 200 A) (F0 m 45 ls []) := by
    intro j m9 b9 hj kk n
    induction n with
    | zero => intro i k9 H locs ls h1 h2; omega
    | succ n ih =>
    intro i k9 H locs ls hi hn hk9 hp hl
    refine lv_iload hx hb dX12_bestFor_45 (lv_at hl 0 rfl) ?_
    refine lv_bipush (v := 100) hx hb dX12_bestFor_47 (by decide) ?_
    refine lv_icmp_ge (tgt := 85) hx hb dX12_bestFor_49 (by decide) (fun c9 => ?_) (fun c9 => ?_)
    · have e9 : i = 100 := by
        have := (nI_leI (a := 100) (b := i) (by decide) (by omega)).mp c9
        omega
      subst e9
      exact kk _ _ _ hp (by rw [show hr_cnt p0 j = k9 from hk9.symm]; exact lv_sub hl [1, 2, 3, 4, 5, 6, 7, 8] rfl)
    · have hlt : i < 100 := Nat.not_le.mp (fun q => c9 ((nI_leI (a := 100) (b := i) (by decide) (by omega)).mpr q))
      refine lv_iload hx hb dX12_bestFor_52 (lv_at hl 1 rfl) ?_
      refine lv_aload_n hx hb dX12_bestFor_54 rfl (lv_at hl 6 rfl) ?_
      refine lv_aload_n hx hb dX12_bestFor_55 rfl (lv_at hl 5 rfl) ?_
      refine lv_iload hx hb dX12_bestFor_56 (lv_at hl 0 rfl) ?_
      refine hr_aalA C0 hk_19 0 rfl hp (q0 := 6) (n := 100) (f := hn_fl 100 u_19.1) (k' := i) (r := u_19.1 i) rfl (vp_in_nI hlt (by decide)) (nI_clamp (by omega)) (if_pos hlt) dX12_bestFor_58 ?_
      refine lv_iload_n hx hb dX12_bestFor_59 rfl (lv_at hl 7 rfl) ?_
      refine lv_iload hx hb dX12_bestFor_60 (lv_at hl 2 rfl) ?_
      refine lv_iload hx hb dX12_bestFor_62 (lv_at hl 0 rfl) ?_
      refine lv_isub hx hb dX12_bestFor_64 ?_
      refine va_mabs hx hb (hml.trans hl.1.symm) hown (hts _ hw_303) (hts _ hw_89) (hts _ hw_62) (hts _ hw_90) (Nat.le_of_ble_eq_true rfl) (Nat.le_of_ble_eq_true rfl) (Nat.le_of_ble_eq_true rfl) (Nat.le_of_ble_eq_true rfl) dX12_bestFor_65 ?_
      rw [show (if 0 ≤ ((nI j) - (nI i)) then ((nI j) - (nI i)) else 0 - ((nI j) - (nI i))) = hr_abs ((nI j) - (nI i)) from rfl]
      refine lv_isub hx hb dX12_bestFor_68 ?_
      refine lv_iload_n hx hb dX12_bestFor_69 rfl (lv_at hl 8 rfl) ?_
      refine hr_cViT C0 (hk_19.sub (tys' := [(u_19.2.2, .int)]) [1] rfl) hp [] (rest := [.int k9]) (n := 3) (hr_X12_isCovered l D a z th nw (hr_R q_19 u_19.2.1 u_19.2.2 100 u_19.1) (u_19.1 i) (i + 1) u_19.2.2 (hr_R_row hlt) (p0 - (hr_abs ((nI j) - (nI i)))) p1) (List.append_nil _).symm (q0 := 0) (ci := 2) (Cn := RX12) (T := TX12) (N := 4) rfl rfl (hr_gV hw_307 hw_308 hw_309 hw_105 hw_301) ⟨rfl, rfl⟩ (by decide +kernel) ⟨Nat.le_of_ble_eq_true rfl, Nat.le_of_ble_eq_true rfl⟩ ⟨Nat.le_of_ble_eq_true rfl, Nat.le_of_ble_eq_true rfl⟩ hl.1 rfl rfl (Nat.le_of_ble_eq_true rfl) dX12_bestFor_70 (fun q_70 u_70 H locs hv_70 hp => ?_)
      subst hv_70
      have hp : hr_H D A s.heap (hr_Y a z th nw ++ hr_R q_19 u_19.2.1 u_19.2.2 100 u_19.1) H locs := by
        have h := hp
        rw [List.append_nil] at h
        exact h
      refine hr_cSi C0 hp (rest := [.int k9]) (n := 1) [] (hr_X12_one l D z (hr_Y a z th nw ++ hr_R q_19 u_19.2.1 u_19.2.2 100 u_19.1) (hr_cov (p0 - (hr_abs ((nI j) - (nI i)))))) (List.append_nil _).symm (hr_gS hw_244 hw_122 hw_105 hw_123) ⟨rfl, rfl⟩ (by decide +kernel) ⟨Nat.le_of_ble_eq_true rfl, Nat.le_of_ble_eq_true rfl⟩ ⟨Nat.le_of_ble_eq_true rfl, Nat.le_of_ble_eq_true rfl⟩ hl.1 rfl rfl (Nat.le_of_ble_eq_true rfl) dX12_bestFor_73 (fun q_73 u_73 H locs hv_73 hp => ?_)
      subst hv_73
      have hp : hr_H D A s.heap (hr_Y a z th nw ++ hr_R q_19 u_19.2.1 u_19.2.2 100 u_19.1) H locs := by
        have h := hp
        rw [List.append_nil] at h
        exact h
      refine lv_iadd hx hb dX12_bestFor_76 ?_
      refine lv_istore (lv' := [(7, .int (k9 + (hr_one (hr_cov (p0 - (hr_abs ((nI j) - (nI i)))))))), (8, .int (nI i)), (6, .int (nI j)), (5, .int m9), (4, .int b9), (3, .ref q_19), (0, .ref (a 0)), (1, .int p0), (2, .int p1)]) hx hb dX12_bestFor_77 hl (by decide) rfl (fun ls hl => ?_)
      refine lv_iinc (v := (nI (i + 1))) (lv' := [(8, .int (nI (i + 1))), (7, .int (k9 + (hr_one (hr_cov (p0 - (hr_abs ((nI j) - (nI i)))))))), (6, .int (nI j)), (5, .int m9), (4, .int b9), (3, .ref q_19), (0, .ref (a 0)), (1, .int p0), (2, .int p1)]) hx hb dX12_bestFor_79 hl (k := 1) rfl (nI_1 i) (by decide) rfl (fun ls hl => ?_)
      refine lv_goto (tgt := 45) hx hb dX12_bestFor_82 (by decide) ?_
      exact ih (i + 1) _ _ _ _ (by omega) (by omega) (by rw [hh_fld, ← hk9]; rfl) hp (lv_sub hl [0, 1, 2, 3, 4, 5, 6, 7, 8] rfl)
  have hO : ∀ (n j : Nat) (w9 : Int32 × Int32) (H : Heap) (locs : List Loc) (ls : Array Slot), j ≤ 100 → 100 - j < n → w9 = hh_fld (hr_bst p0) j ((-1), (-1)) → hr_H D A s.heap (hr_Y a z th nw ++ hr_R q_19 u_19.2.1 u_19.2.2 100 u_19.1) H locs → lv_has ls 9 [(6, .int (nI j)), (5, .int w9.2), (4, .int w9.1), (3, .ref q_19), (0, .ref (a 0)), (1, .int p0), (2, .int p1)] → W p l e ({ frames := 2, cells := 101, slots := 200, locals := 47 } : Room) s m args below meth c H locs 101 200 (MQ below (va_Qi (fun (q : Int32) (_ : Unit) => q = hr_bf p0) (fun u t => hr_B D A ((fun _ => hr_Y a z th nw) u) t) A) args s 101 200 A) (F0 m 32 ls []) := by
    intro n
    induction n with
    | zero => intro j w9 H locs ls h1 h2; omega
    | succ n ih =>
    intro j w9 H locs ls hi hn hw9 hp hl
    refine lv_iload hx hb dX12_bestFor_32 (lv_at hl 0 rfl) ?_
    refine lv_bipush (v := 100) hx hb dX12_bestFor_34 (by decide) ?_
    refine lv_icmp_ge (tgt := 109) hx hb dX12_bestFor_36 (by decide) (fun c9 => ?_) (fun c9 => ?_)
    · have e9 : j = 100 := by
        have := (nI_leI (a := 100) (b := j) (by decide) (by omega)).mp c9
        omega
      subst e9
      refine lv_iload hx hb dX12_bestFor_109 (lv_at hl 2 rfl) ?_
      have hp := hr_drop (Y := hr_Y a z th nw) (X := hr_R q_19 u_19.2.1 u_19.2.2 100 u_19.1) hp
      exact hr_iret () C0 hp rfl ⟨Nat.le_of_ble_eq_true rfl, Nat.le_of_ble_eq_true rfl⟩ dX12_bestFor_111 (by rw [hw9]; rfl)
    · have hlt : j < 100 := Nat.not_le.mp (fun q => c9 ((nI_leI (a := 100) (b := j) (by decide) (by omega)).mpr q))
      refine lv_iconst (v := 0) hx hb dX12_bestFor_39 (by decide) ?_
      refine lv_istore (lv' := [(7, .int 0), (6, .int (nI j)), (5, .int w9.2), (4, .int w9.1), (3, .ref q_19), (0, .ref (a 0)), (1, .int p0), (2, .int p1)]) hx hb dX12_bestFor_40 hl (by decide) rfl (fun ls hl => ?_)
      refine lv_iconst (v := 0) hx hb dX12_bestFor_42 (by decide) ?_
      refine lv_istore (lv' := [(8, .int 0), (7, .int 0), (6, .int (nI j)), (5, .int w9.2), (4, .int w9.1), (3, .ref q_19), (0, .ref (a 0)), (1, .int p0), (2, .int p1)]) hx hb dX12_bestFor_43 hl (by decide) rfl (fun ls hl => ?_)
      refine hI j w9.2 w9.1 (by omega) ?_ 101 0 0 _ _ _ (by decide) (by decide) rfl hp (lv_sub hl [0, 1, 2, 3, 4, 5, 6, 7, 8] rfl)
      intro H locs ls hp hl
      refine lv_iload hx hb dX12_bestFor_85 (lv_at hl 0 rfl) ?_
      refine lv_iload hx hb dX12_bestFor_87 (lv_at hl 2 rfl) ?_
      refine lv_icmp_gt (tgt := 95) hx hb dX12_bestFor_89 (by decide) (fun c8 => ?_) (fun c8 => ?_)
      · refine lv_iload hx hb dX12_bestFor_95 (lv_at hl 0 rfl) ?_
        refine lv_istore (lv' := [(5, .int (hr_cnt p0 j)), (7, .int (hr_cnt p0 j)), (6, .int (nI j)), (4, .int w9.1), (3, .ref q_19), (0, .ref (a 0)), (1, .int p0), (2, .int p1)]) hx hb dX12_bestFor_97 hl (by decide) rfl (fun ls hl => ?_)
        refine lv_iload hx hb dX12_bestFor_99 (lv_at hl 2 rfl) ?_
        refine lv_istore (lv' := [(4, .int (nI j)), (5, .int (hr_cnt p0 j)), (7, .int (hr_cnt p0 j)), (6, .int (nI j)), (3, .ref q_19), (0, .ref (a 0)), (1, .int p0), (2, .int p1)]) hx hb dX12_bestFor_101 hl (by decide) rfl (fun ls hl => ?_)
        refine lv_iinc (v := (nI (j + 1))) (lv' := [(6, .int (nI (j + 1))), (4, .int (nI j)), (5, .int (hr_cnt p0 j)), (7, .int (hr_cnt p0 j)), (3, .ref q_19), (0, .ref (a 0)), (1, .int p0), (2, .int p1)]) hx hb dX12_bestFor_103 hl (k := 3) rfl (nI_1 j) (by decide) rfl (fun ls hl => ?_)
        refine lv_goto (tgt := 32) hx hb dX12_bestFor_106 (by decide) ?_
        have e8 : hr_bst p0 j w9 = (nI j, hr_cnt p0 j) := if_pos c8
        exact ih (j + 1) (hr_bst p0 j w9) _ _ _ (by omega) (by omega) (by rw [hh_fld, ← hw9]) hp (by rw [e8]; exact lv_sub hl [0, 2, 1, 4, 5, 6, 7] rfl)
      · refine lv_goto (tgt := 103) hx hb dX12_bestFor_92 (by decide) ?_
        refine lv_iinc (v := (nI (j + 1))) (lv' := [(6, .int (nI (j + 1))), (7, .int (hr_cnt p0 j)), (5, .int w9.2), (4, .int w9.1), (3, .ref q_19), (0, .ref (a 0)), (1, .int p0), (2, .int p1)]) hx hb dX12_bestFor_103 hl (k := 1) rfl (nI_1 j) (by decide) rfl (fun ls hl => ?_)
        refine lv_goto (tgt := 32) hx hb dX12_bestFor_106 (by decide) ?_
        have e8 : hr_bst p0 j w9 = w9 := if_neg c8
        exact ih (j + 1) (hr_bst p0 j w9) _ _ _ (by omega) (by omega) (by rw [hh_fld, ← hw9]) hp (by rw [e8]; exact lv_sub hl [0, 2, 3, 4, 5, 6, 7] rfl)
  exact hO 101 0 ((-1), (-1)) _ _ _ (by decide) (by decide) rfl hp (lv_sub hl [0, 1, 2, 3, 4, 5, 6] rfl)
set_option maxHeartbeats 4000000 in
set_option maxRecDepth 100000 in
/-- bestPlace -/
theorem hr_bestPlace_y (l : Launch) (D : va_G) (a : Nat → Nat) (z : Nat) (th nw : Int32) (p0 p1 : Int32) (hvd : hv_bestPlace p0 p1) : hr_Ki l D z yX12_bestPlace (hr_wm yX12_bestPlace cX12_bestPlace 3 (some .int)) { frames := 3, cells := 101, slots := 200, locals := 75 } [.ref (a 0), .int p0, .int p1] (hr_Y a z th nw) 101 200 (fun (q : Int32) (_ : Unit) => q = hr_bf p0) (fun _ => hr_Y a z 0 nw) := by
  refine hr_Ki_of (by decide) (Nat.le_of_ble_eq_true rfl) ?_
  intro p e s m args below meth c ls A C0 hp hl
  obtain ⟨hx, hb, hr9, hml, hown, hts, hK, hlk, hA, hN, hnm9⟩ := id C0
  have hl : lv_has ls 3 [(0, .ref (a 0)), (1, .int p0), (2, .int p1)] := hl
  refine lv_aload_n hx hb dX12_bestPlace_0 rfl (lv_at hl 0 rfl) ?_
  refine lv_iload_n hx hb dX12_bestPlace_1 rfl (lv_at hl 1 rfl) ?_
  refine lv_bipush (v := 10) hx hb dX12_bestPlace_2 (by decide) ?_
  refine lv_bipush (v := 60) hx hb dX12_bestPlace_4 (by decide) ?_
  refine hr_cSi C0 hp (rest := [.ref (a 0)]) (n := 3) [] (hr_X12_isIn l D z (hr_Y a z th nw) (p0) (10) (60)) rfl (hr_gS hw_151 hw_104 hw_105 hw_106) ⟨rfl, rfl⟩ (by decide +kernel) ⟨Nat.le_of_ble_eq_true rfl, Nat.le_of_ble_eq_true rfl⟩ ⟨Nat.le_of_ble_eq_true rfl, Nat.le_of_ble_eq_true rfl⟩ hl.1 rfl rfl (Nat.le_of_ble_eq_true rfl) dX12_bestPlace_6 (fun q_6 u_6 H locs hv_6 hp => ?_)
  subst hv_6
  have hp : hr_H D A s.heap (hr_Y a z th nw) H _ := hp
  rw [hr_in_y hvd.1.1 hvd.1.2]
  refine lv_if_eq (tgt := 21) hx hb dX12_bestPlace_9 (by decide) (fun c9 => absurd c9 (by decide)) (fun _ => ?_)
  refine lv_iload_n hx hb dX12_bestPlace_12 rfl (lv_at hl 2 rfl) ?_
  refine lv_iconst (v := 0) hx hb dX12_bestPlace_13 (by decide) ?_
  refine lv_iconst (v := 2) hx hb dX12_bestPlace_14 (by decide) ?_
  refine hr_cSi C0 hp (rest := [.ref (a 0)]) (n := 3) [] (hr_X12_isIn l D z (hr_Y a z th nw) (p1) (0) (2)) rfl (hr_gS hw_151 hw_104 hw_105 hw_106) ⟨rfl, rfl⟩ (by decide +kernel) ⟨Nat.le_of_ble_eq_true rfl, Nat.le_of_ble_eq_true rfl⟩ ⟨Nat.le_of_ble_eq_true rfl, Nat.le_of_ble_eq_true rfl⟩ hl.1 rfl rfl (Nat.le_of_ble_eq_true rfl) dX12_bestPlace_15 (fun q_15 u_15 H locs hv_15 hp => ?_)
  subst hv_15
  have hp : hr_H D A s.heap (hr_Y a z th nw) H _ := hp
  rw [hr_in_y hvd.2.1 hvd.2.2]
  refine lv_if_ne (tgt := 25) hx hb dX12_bestPlace_18 (by decide) (fun _ => ?_) (fun c9 => absurd c9 (by decide))
  refine lv_iconst (v := 0) hx hb dX12_bestPlace_25 (by decide) ?_
  refine lv_iconst (v := 1) hx hb dX12_bestPlace_26 (by decide) ?_
  refine hr_cVi C0 hp (q0 := 0) (ci := 2) (Cn := RX12) (T := TX12) (N := 4) (rest := []) (n := 2) [] (hr_start_0 l D a z th nw) rfl rfl rfl (hr_gV hw_159 hw_160 hw_161 hw_105 hw_144) ⟨rfl, rfl⟩ (by decide +kernel) ⟨Nat.le_of_ble_eq_true rfl, Nat.le_of_ble_eq_true rfl⟩ ⟨Nat.le_of_ble_eq_true rfl, Nat.le_of_ble_eq_true rfl⟩ hl.1 rfl rfl (Nat.le_of_ble_eq_true rfl) dX12_bestPlace_27 (fun q_27 u_27 H locs hv_27 hp => ?_)
  subst hv_27
  have hp : hr_H D A s.heap (hr_Y a z 0 nw) H _ := hp
  refine lv_if_eq (tgt := 37) hx hb dX12_bestPlace_30 (by decide) (fun _ => ?_) (fun c9 => absurd c9 (by decide))
  refine lv_aload_n hx hb dX12_bestPlace_37 rfl (lv_at hl 0 rfl) ?_
  refine lv_iload_n hx hb dX12_bestPlace_38 rfl (lv_at hl 1 rfl) ?_
  refine lv_iload_n hx hb dX12_bestPlace_39 rfl (lv_at hl 2 rfl) ?_
  refine hr_cVi C0 hp (q0 := 0) (ci := 2) (Cn := RX12) (T := TX12) (N := 4) (rest := []) (n := 2) [] (hr_X12_bestFor l D a z 0 nw p0 p1) rfl rfl rfl (hr_gV hw_311 hw_312 hw_313 hw_105 hw_302) ⟨rfl, rfl⟩ (by decide +kernel) ⟨Nat.le_of_ble_eq_true rfl, Nat.le_of_ble_eq_true rfl⟩ ⟨Nat.le_of_ble_eq_true rfl, Nat.le_of_ble_eq_true rfl⟩ hl.1 rfl rfl (Nat.le_of_ble_eq_true rfl) dX12_bestPlace_40 (fun q_40 u_40 H locs hv_40 hp => ?_)
  subst hv_40
  have hp : hr_H D A s.heap (hr_Y a z 0 nw) H _ := hp
  refine W.widen (k := 101) (n := 200) (by decide) (by decide) ?_
  exact hr_iret () C0 hp rfl ⟨Nat.le_of_ble_eq_true rfl, Nat.le_of_ble_eq_true rfl⟩ dX12_bestPlace_43 rfl
set_option maxHeartbeats 4000000 in
set_option maxRecDepth 100000 in
/-- bestPlace: a number is wrong -/
theorem hr_bestPlace_n (l : Launch) (D : va_G) (a : Nat → Nat) (z : Nat) (th nw : Int32) (p0 p1 : Int32) (hvd : ¬ hv_bestPlace p0 p1) : hr_Ki l D z yX12_bestPlace (hr_wm yX12_bestPlace cX12_bestPlace 3 (some .int)) { frames := 2, cells := 0, slots := 0, locals := 44 } [.ref (a 0), .int p0, .int p1] (hr_Y a z th nw) 0 0 (fun (q : Int32) (_ : Unit) => q = 0) (fun _ => hr_Y a z 1 nw) := by
  refine hr_Ki_of (by decide) (Nat.le_of_ble_eq_true rfl) ?_
  intro p e s m args below meth c ls A C0 hp hl
  obtain ⟨hx, hb, hr9, hml, hown, hts, hK, hlk, hA, hN, hnm9⟩ := id C0
  have hl : lv_has ls 3 [(0, .ref (a 0)), (1, .int p0), (2, .int p1)] := hl
  refine lv_aload_n hx hb dX12_bestPlace_0 rfl (lv_at hl 0 rfl) ?_
  refine lv_iload_n hx hb dX12_bestPlace_1 rfl (lv_at hl 1 rfl) ?_
  refine lv_bipush (v := 10) hx hb dX12_bestPlace_2 (by decide) ?_
  refine lv_bipush (v := 60) hx hb dX12_bestPlace_4 (by decide) ?_
  refine hr_cSi C0 hp (rest := [.ref (a 0)]) (n := 3) [] (hr_X12_isIn l D z (hr_Y a z th nw) (p0) (10) (60)) rfl (hr_gS hw_151 hw_104 hw_105 hw_106) ⟨rfl, rfl⟩ (by decide +kernel) ⟨Nat.le_of_ble_eq_true rfl, Nat.le_of_ble_eq_true rfl⟩ ⟨Nat.le_of_ble_eq_true rfl, Nat.le_of_ble_eq_true rfl⟩ hl.1 rfl rfl (Nat.le_of_ble_eq_true rfl) dX12_bestPlace_6 (fun q_6 u_6 H locs hv_6 hp => ?_)
  subst hv_6
  have hp : hr_H D A s.heap (hr_Y a z th nw) H _ := hp
  rcases Classical.em (¬ (10 ≤ p0 ∧ p0 ≤ 60)) with hc0 | hc0
  · rw [hr_in_n hc0]
    refine lv_if_eq (tgt := 21) hx hb dX12_bestPlace_9 (by decide) (fun _ => ?_) (fun c9 => absurd c9 (by decide))
    refine lv_iconst (v := 1) hx hb dX12_bestPlace_21 (by decide) ?_
    refine lv_goto (tgt := 26) hx hb dX12_bestPlace_22 (by decide) ?_
    refine lv_iconst (v := 1) hx hb dX12_bestPlace_26 (by decide) ?_
    refine hr_cVi C0 hp (q0 := 0) (ci := 2) (Cn := RX12) (T := TX12) (N := 4) (rest := []) (n := 2) [] (hr_start_1 l D a z th nw) rfl rfl rfl (hr_gV hw_159 hw_160 hw_161 hw_105 hw_144) ⟨rfl, rfl⟩ (by decide +kernel) ⟨Nat.le_of_ble_eq_true rfl, Nat.le_of_ble_eq_true rfl⟩ ⟨Nat.le_of_ble_eq_true rfl, Nat.le_of_ble_eq_true rfl⟩ hl.1 rfl rfl (Nat.le_of_ble_eq_true rfl) dX12_bestPlace_27 (fun q_27 u_27 H locs hv_27 hp => ?_)
    subst hv_27
    have hp : hr_H D A s.heap (hr_Y a z 1 nw) H _ := hp
    refine lv_if_eq (tgt := 37) hx hb dX12_bestPlace_30 (by decide) (fun c9 => absurd c9 (by decide)) (fun _ => ?_)
    refine lv_iconst (v := 0) hx hb dX12_bestPlace_33 (by decide) ?_
    refine lv_goto (tgt := 43) hx hb dX12_bestPlace_34 (by decide) ?_
    exact hr_iret () C0 hp rfl ⟨Nat.le_of_ble_eq_true rfl, Nat.le_of_ble_eq_true rfl⟩ dX12_bestPlace_43 rfl
  replace hc0 := Classical.not_not.mp hc0
  rw [hr_in_y hc0.1 hc0.2]
  refine lv_if_eq (tgt := 21) hx hb dX12_bestPlace_9 (by decide) (fun c9 => absurd c9 (by decide)) (fun _ => ?_)
  refine lv_iload_n hx hb dX12_bestPlace_12 rfl (lv_at hl 2 rfl) ?_
  refine lv_iconst (v := 0) hx hb dX12_bestPlace_13 (by decide) ?_
  refine lv_iconst (v := 2) hx hb dX12_bestPlace_14 (by decide) ?_
  refine hr_cSi C0 hp (rest := [.ref (a 0)]) (n := 3) [] (hr_X12_isIn l D z (hr_Y a z th nw) (p1) (0) (2)) rfl (hr_gS hw_151 hw_104 hw_105 hw_106) ⟨rfl, rfl⟩ (by decide +kernel) ⟨Nat.le_of_ble_eq_true rfl, Nat.le_of_ble_eq_true rfl⟩ ⟨Nat.le_of_ble_eq_true rfl, Nat.le_of_ble_eq_true rfl⟩ hl.1 rfl rfl (Nat.le_of_ble_eq_true rfl) dX12_bestPlace_15 (fun q_15 u_15 H locs hv_15 hp => ?_)
  subst hv_15
  have hp : hr_H D A s.heap (hr_Y a z th nw) H _ := hp
  rcases Classical.em (¬ (0 ≤ p1 ∧ p1 ≤ 2)) with hc1 | hc1
  · rw [hr_in_n hc1]
    refine lv_if_ne (tgt := 25) hx hb dX12_bestPlace_18 (by decide) (fun c9 => absurd c9 (by decide)) (fun _ => ?_)
    refine lv_iconst (v := 1) hx hb dX12_bestPlace_21 (by decide) ?_
    refine lv_goto (tgt := 26) hx hb dX12_bestPlace_22 (by decide) ?_
    refine lv_iconst (v := 1) hx hb dX12_bestPlace_26 (by decide) ?_
    refine hr_cVi C0 hp (q0 := 0) (ci := 2) (Cn := RX12) (T := TX12) (N := 4) (rest := []) (n := 2) [] (hr_start_1 l D a z th nw) rfl rfl rfl (hr_gV hw_159 hw_160 hw_161 hw_105 hw_144) ⟨rfl, rfl⟩ (by decide +kernel) ⟨Nat.le_of_ble_eq_true rfl, Nat.le_of_ble_eq_true rfl⟩ ⟨Nat.le_of_ble_eq_true rfl, Nat.le_of_ble_eq_true rfl⟩ hl.1 rfl rfl (Nat.le_of_ble_eq_true rfl) dX12_bestPlace_27 (fun q_27 u_27 H locs hv_27 hp => ?_)
    subst hv_27
    have hp : hr_H D A s.heap (hr_Y a z 1 nw) H _ := hp
    refine lv_if_eq (tgt := 37) hx hb dX12_bestPlace_30 (by decide) (fun c9 => absurd c9 (by decide)) (fun _ => ?_)
    refine lv_iconst (v := 0) hx hb dX12_bestPlace_33 (by decide) ?_
    refine lv_goto (tgt := 43) hx hb dX12_bestPlace_34 (by decide) ?_
    exact hr_iret () C0 hp rfl ⟨Nat.le_of_ble_eq_true rfl, Nat.le_of_ble_eq_true rfl⟩ dX12_bestPlace_43 rfl
  replace hc1 := Classical.not_not.mp hc1
  rw [hr_in_y hc1.1 hc1.2]
  exact absurd ⟨hc0, hc1⟩ hvd
set_option maxHeartbeats 4000000 in
set_option maxRecDepth 100000 in
/-- add -/
theorem hr_X12_add (l : Launch) (D : va_G) (z : Nat) (Y : va_W) (d9 v9 : Int64) : hr_Kl l D z yX12_add (hr_wm yX12_add cX12_add 4 (some .long)) { frames := 0, cells := 0, slots := 0, locals := 0 } [.long d9, .long v9] Y 0 0 (fun (q : Int64) (_ : Unit) => q = d9 * 31 + v9) (fun _ => Y) := by
  refine hr_Kl_of (by decide) (Nat.le_of_ble_eq_true rfl) ?_
  intro p e s m args below meth c ls A C0 hp hl
  obtain ⟨hx, hb, hr9, hml, hown, hts, hK, hlk, hA, hN, hnm9⟩ := id C0
  have hl : lv_has ls 4 [(0, .long d9), (2, .long v9)] := hl
  refine lv_lload_n hx hb dX12_add_0 rfl (lv_at hl 0 rfl) ?_
  refine lv_ldc2 (v := 31) hx hb hown (hts _ hw_315) dX12_add_1 ?_
  refine lv_lmul hx hb dX12_add_4 ?_
  refine lv_lload_n hx hb dX12_add_5 rfl (lv_at hl 1 rfl) ?_
  refine lv_ladd hx hb dX12_add_6 ?_
  exact hr_lret () C0 hp rfl ⟨Nat.le_of_ble_eq_true rfl, Nat.le_of_ble_eq_true rfl⟩ dX12_add_7 rfl
def hr_dl (n : Nat) : Int64 := hh_fld (fun _ d => d * 31 + 0) n 58188
def hr_dg : Int64 := ((hr_dl 15 * 31 + (-1)) * 31 + (-1)) * 31 + (hr_bf 30).toInt64
set_option maxHeartbeats 4000000 in
set_option maxRecDepth 100000 in
/-- the checksum of an empty road -/
theorem hr_X12_digest (l : Launch) (D : va_G) (a : Nat → Nat) (z : Nat) (th : Int32) : hr_Kl l D z yX12_digest (hr_wm yX12_digest cX12_digest 5 (some .long)) { frames := 4, cells := 146, slots := 545, locals := 98 } [.ref (a 0)] (hr_Y a z th 0) 146 545 (fun (q : Int64) (_ : Unit) => q = hr_dg) (fun _ => hr_Y a z 0 0) := by
  refine hr_Kl_of (by decide) (Nat.le_of_ble_eq_true rfl) ?_
  intro p e s m args below meth c ls A C0 hp hl
  obtain ⟨hx, hb, hr9, hml, hown, hts, hK, hlk, hA, hN, hnm9⟩ := id C0
  have hl : lv_has ls 5 [(0, .ref (a 0))] := hl
  have hL : ∀ (n i : Nat) (H : Heap) (locs : List Loc) (ls : Array Slot), i ≤ 15 → 15 - i < n → hr_H D A s.heap (hr_Y a z 0 0) H locs → lv_has ls 5 [(3, .int (nI i)), (1, .long (hr_dl i)), (0, .ref (a 0))] → W p l e ({ frames := 4, cells := 146, slots := 545, locals := 98 } : Room) s m args below meth c H locs (3 * i) (23 * i) (MQ below (va_Ql (fun (q : Int64) (_ : Unit) => q = hr_dg) (fun u t => hr_B D A ((fun _ => hr_Y a z 0 0) u) t) A) args s 146 545 A) (F0 m 11 ls []) := by
    intro n
    induction n with
    | zero => intro i H locs ls h1 h2; omega
    | succ n ih =>
    intro i H locs ls hi hn hp hl
    refine lv_iload_n hx hb dX12_digest_11 rfl (lv_at hl 0 rfl) ?_
    refine lv_bipush (v := 15) hx hb dX12_digest_12 (by decide) ?_
    refine lv_icmp_ge (tgt := 34) hx hb dX12_digest_14 (by decide) (fun c9 => ?_) (fun c9 => ?_)
    · have e9 : i = 15 := by
        have := (nI_leI (a := 15) (b := i) (by decide) (by omega)).mp c9
        omega
      subst e9
      refine lv_iconst (v := 0) hx hb dX12_digest_34 (by decide) ?_
      refine lv_istore_n (lv' := [(3, .int 0), (1, .long (hr_dl 15)), (0, .ref (a 0))]) hx hb dX12_digest_35 rfl hl (by decide) rfl (fun ls hl => ?_)
      refine lv_iload_n hx hb dX12_digest_36 rfl (lv_at hl 0 rfl) ?_
      refine lv_aload_n hx hb dX12_digest_37 rfl (lv_at hl 2 rfl) ?_
      refine hr_get C0 hp (q0 := 0) (C := RX12) (T := TX12) (N := 4) (ci := 2) rfl rfl hr_uX12 1 (by decide) hw_139 (fun _ h9 => h9) rfl dX12_digest_38 ?_
      refine hr_get C0 hp (q0 := 1) (C := RX11) (T := TX11) (N := 5) (ci := 1) rfl rfl hr_uX11 0 (by decide) hw_149 (fun _ h9 => h9) rfl dX12_digest_41 ?_
      refine hr_cVi C0 hp (q0 := 2) (ci := 0) (Cn := RJx4a65c) (T := TJx4a65c) (N := 3) (rest := [.int 0]) (n := 0) [] (hr_size_2 l D a z 0 0) rfl rfl rfl (hr_gV hw_150 hw_52 hw_53 hw_26 hw_54) ⟨rfl, rfl⟩ (by decide +kernel) ⟨Nat.le_of_ble_eq_true rfl, Nat.le_of_ble_eq_true rfl⟩ ⟨Nat.le_of_ble_eq_true rfl, Nat.le_of_ble_eq_true rfl⟩ hl.1 rfl rfl (Nat.le_of_ble_eq_true rfl) dX12_digest_44 (fun q_44 u_44 H locs hv_44 hp => ?_)
      subst hv_44
      have hp : hr_H D A s.heap (hr_Y a z 0 0) H _ := hp
      refine lv_icmp_ge (tgt := 114) hx hb dX12_digest_47 (by decide) (fun _ => ?_) (fun c9 => absurd c9 (by decide))
      refine lv_iconst (v := 0) hx hb dX12_digest_114 (by decide) ?_
      refine lv_istore_n (lv' := [(3, .int 0), (1, .long (hr_dl 15)), (0, .ref (a 0))]) hx hb dX12_digest_115 rfl hl (by decide) rfl (fun ls hl => ?_)
      refine lv_iload_n hx hb dX12_digest_116 rfl (lv_at hl 0 rfl) ?_
      refine lv_aload_n hx hb dX12_digest_117 rfl (lv_at hl 2 rfl) ?_
      refine hr_get C0 hp (q0 := 0) (C := RX12) (T := TX12) (N := 4) (ci := 2) rfl rfl hr_uX12 1 (by decide) hw_139 (fun _ h9 => h9) rfl dX12_digest_118 ?_
      refine hr_get C0 hp (q0 := 1) (C := RX11) (T := TX11) (N := 5) (ci := 1) rfl rfl hr_uX11 1 (by decide) hw_153 (fun _ h9 => h9) rfl dX12_digest_121 ?_
      refine hr_cVi C0 hp (q0 := 3) (ci := 0) (Cn := RJx4a65c) (T := TJx4a65c) (N := 3) (rest := [.int 0]) (n := 0) [] (hr_size_3 l D a z 0 0) rfl rfl rfl (hr_gV hw_150 hw_52 hw_53 hw_26 hw_54) ⟨rfl, rfl⟩ (by decide +kernel) ⟨Nat.le_of_ble_eq_true rfl, Nat.le_of_ble_eq_true rfl⟩ ⟨Nat.le_of_ble_eq_true rfl, Nat.le_of_ble_eq_true rfl⟩ hl.1 rfl rfl (Nat.le_of_ble_eq_true rfl) dX12_digest_124 (fun q_124 u_124 H locs hv_124 hp => ?_)
      subst hv_124
      have hp : hr_H D A s.heap (hr_Y a z 0 0) H _ := hp
      refine lv_icmp_ge (tgt := 178) hx hb dX12_digest_127 (by decide) (fun _ => ?_) (fun c9 => absurd c9 (by decide))
      refine lv_iconst (v := 0) hx hb dX12_digest_178 (by decide) ?_
      refine lv_istore_n (lv' := [(3, .int 0), (1, .long (hr_dl 15)), (0, .ref (a 0))]) hx hb dX12_digest_179 rfl hl (by decide) rfl (fun ls hl => ?_)
      refine lv_iload_n hx hb dX12_digest_180 rfl (lv_at hl 0 rfl) ?_
      refine lv_aload_n hx hb dX12_digest_181 rfl (lv_at hl 2 rfl) ?_
      refine hr_get C0 hp (q0 := 0) (C := RX12) (T := TX12) (N := 4) (ci := 2) rfl rfl hr_uX12 1 (by decide) hw_139 (fun _ h9 => h9) rfl dX12_digest_182 ?_
      refine hr_get C0 hp (q0 := 1) (C := RX11) (T := TX11) (N := 5) (ci := 1) rfl rfl hr_uX11 2 (by decide) hw_155 (fun _ h9 => h9) rfl dX12_digest_185 ?_
      refine hr_cVi C0 hp (q0 := 4) (ci := 0) (Cn := RJx4a65c) (T := TJx4a65c) (N := 3) (rest := [.int 0]) (n := 0) [] (hr_size_4 l D a z 0 0) rfl rfl rfl (hr_gV hw_150 hw_52 hw_53 hw_26 hw_54) ⟨rfl, rfl⟩ (by decide +kernel) ⟨Nat.le_of_ble_eq_true rfl, Nat.le_of_ble_eq_true rfl⟩ ⟨Nat.le_of_ble_eq_true rfl, Nat.le_of_ble_eq_true rfl⟩ hl.1 rfl rfl (Nat.le_of_ble_eq_true rfl) dX12_digest_188 (fun q_188 u_188 H locs hv_188 hp => ?_)
      subst hv_188
      have hp : hr_H D A s.heap (hr_Y a z 0 0) H _ := hp
      refine lv_icmp_ge (tgt := 254) hx hb dX12_digest_191 (by decide) (fun _ => ?_) (fun c9 => absurd c9 (by decide))
      refine lv_lload_n hx hb dX12_digest_254 rfl (lv_at hl 1 rfl) ?_
      refine lv_aload_n hx hb dX12_digest_255 rfl (lv_at hl 2 rfl) ?_
      refine hr_get C0 hp (q0 := 0) (C := RX12) (T := TX12) (N := 4) (ci := 2) rfl rfl hr_uX12 1 (by decide) hw_139 (fun _ h9 => h9) rfl dX12_digest_256 ?_
      refine lv_bipush (v := 33) hx hb dX12_digest_259 (by decide) ?_
      refine hr_cVi C0 hp (q0 := 1) (ci := 1) (Cn := RX11) (T := TX11) (N := 5) (rest := [.long (hr_dl 15)]) (n := 1) [] (hr_X11_bestHeard l D a z 0 0 33) rfl rfl rfl (hr_gV hw_253 hw_114 hw_115 hw_58 hw_91) ⟨rfl, rfl⟩ (by decide +kernel) ⟨Nat.le_of_ble_eq_true rfl, Nat.le_of_ble_eq_true rfl⟩ ⟨Nat.le_of_ble_eq_true rfl, Nat.le_of_ble_eq_true rfl⟩ hl.1 rfl rfl (Nat.le_of_ble_eq_true rfl) dX12_digest_261 (fun q_261 u_261 H locs hv_261 hp => ?_)
      subst hv_261
      have hp : hr_H D A s.heap (hr_Y a z 0 0) H _ := hp
      refine lv_i2l (v := (-1)) hx hb dX12_digest_264 (by decide) ?_
      refine hr_cSl C0 hp (rest := []) (n := 2) [] (hr_X12_add l D z (hr_Y a z 0 0) (hr_dl 15) (-1)) rfl (hr_gS hw_318 hw_319 hw_105 hw_314) ⟨rfl, rfl⟩ (by decide +kernel) ⟨Nat.le_of_ble_eq_true rfl, Nat.le_of_ble_eq_true rfl⟩ ⟨Nat.le_of_ble_eq_true rfl, Nat.le_of_ble_eq_true rfl⟩ hl.1 rfl rfl (Nat.le_of_ble_eq_true rfl) dX12_digest_265 (fun q_265 u_265 H locs hv_265 hp => ?_)
      subst hv_265
      have hp : hr_H D A s.heap (hr_Y a z 0 0) H _ := hp
      refine lv_aload_n hx hb dX12_digest_268 rfl (lv_at hl 2 rfl) ?_
      refine hr_get C0 hp (q0 := 0) (C := RX12) (T := TX12) (N := 4) (ci := 2) rfl rfl hr_uX12 1 (by decide) hw_139 (fun _ h9 => h9) rfl dX12_digest_269 ?_
      refine lv_bipush (v := 66) hx hb dX12_digest_272 (by decide) ?_
      refine hr_cVi C0 hp (q0 := 1) (ci := 1) (Cn := RX11) (T := TX11) (N := 5) (rest := [.long ((hr_dl 15) * 31 + (-1))]) (n := 1) [] (hr_X11_bestHeard l D a z 0 0 66) rfl rfl rfl (hr_gV hw_253 hw_114 hw_115 hw_58 hw_91) ⟨rfl, rfl⟩ (by decide +kernel) ⟨Nat.le_of_ble_eq_true rfl, Nat.le_of_ble_eq_true rfl⟩ ⟨Nat.le_of_ble_eq_true rfl, Nat.le_of_ble_eq_true rfl⟩ hl.1 rfl rfl (Nat.le_of_ble_eq_true rfl) dX12_digest_274 (fun q_274 u_274 H locs hv_274 hp => ?_)
      subst hv_274
      have hp : hr_H D A s.heap (hr_Y a z 0 0) H _ := hp
      refine lv_i2l (v := (-1)) hx hb dX12_digest_277 (by decide) ?_
      refine hr_cSl C0 hp (rest := []) (n := 2) [] (hr_X12_add l D z (hr_Y a z 0 0) ((hr_dl 15) * 31 + (-1)) (-1)) rfl (hr_gS hw_318 hw_319 hw_105 hw_314) ⟨rfl, rfl⟩ (by decide +kernel) ⟨Nat.le_of_ble_eq_true rfl, Nat.le_of_ble_eq_true rfl⟩ ⟨Nat.le_of_ble_eq_true rfl, Nat.le_of_ble_eq_true rfl⟩ hl.1 rfl rfl (Nat.le_of_ble_eq_true rfl) dX12_digest_278 (fun q_278 u_278 H locs hv_278 hp => ?_)
      subst hv_278
      have hp : hr_H D A s.heap (hr_Y a z 0 0) H _ := hp
      refine lv_aload_n hx hb dX12_digest_281 rfl (lv_at hl 2 rfl) ?_
      refine lv_bipush (v := 30) hx hb dX12_digest_282 (by decide) ?_
      refine lv_iconst (v := 1) hx hb dX12_digest_284 (by decide) ?_
      refine hr_cVi C0 hp (q0 := 0) (ci := 2) (Cn := RX12) (T := TX12) (N := 4) (rest := [.long (((hr_dl 15) * 31 + (-1)) * 31 + (-1))]) (n := 2) [] (hr_X12_bestFor l D a z 0 0 30 1) rfl rfl rfl (hr_gV hw_311 hw_312 hw_313 hw_105 hw_302) ⟨rfl, rfl⟩ (by decide +kernel) ⟨Nat.le_of_ble_eq_true rfl, Nat.le_of_ble_eq_true rfl⟩ ⟨Nat.le_of_ble_eq_true rfl, Nat.le_of_ble_eq_true rfl⟩ hl.1 rfl rfl (Nat.le_of_ble_eq_true rfl) dX12_digest_285 (fun q_285 u_285 H locs hv_285 hp => ?_)
      subst hv_285
      have hp : hr_H D A s.heap (hr_Y a z 0 0) H _ := hp
      refine lv_i2l hx hb dX12_digest_288 rfl ?_
      refine hr_cSl C0 hp (rest := []) (n := 2) [] (hr_X12_add l D z (hr_Y a z 0 0) (((hr_dl 15) * 31 + (-1)) * 31 + (-1)) (((hr_bf 30)).toInt64)) rfl (hr_gS hw_318 hw_319 hw_105 hw_314) ⟨rfl, rfl⟩ (by decide +kernel) ⟨Nat.le_of_ble_eq_true rfl, Nat.le_of_ble_eq_true rfl⟩ ⟨Nat.le_of_ble_eq_true rfl, Nat.le_of_ble_eq_true rfl⟩ hl.1 rfl rfl (Nat.le_of_ble_eq_true rfl) dX12_digest_289 (fun q_289 u_289 H locs hv_289 hp => ?_)
      subst hv_289
      have hp : hr_H D A s.heap (hr_Y a z 0 0) H _ := hp
      exact hr_lret () C0 hp rfl ⟨Nat.le_of_ble_eq_true rfl, Nat.le_of_ble_eq_true rfl⟩ dX12_digest_292 rfl
    · have hlt : i < 15 := Nat.not_le.mp (fun q => c9 ((nI_leI (a := 15) (b := i) (by decide) (by omega)).mpr q))
      refine lv_lload_n hx hb dX12_digest_17 rfl (lv_at hl 1 rfl) ?_
      refine lv_aload_n hx hb dX12_digest_18 rfl (lv_at hl 2 rfl) ?_
      refine lv_iload_n hx hb dX12_digest_19 rfl (lv_at hl 0 rfl) ?_
      refine hr_cVi C0 hp (q0 := 0) (ci := 2) (Cn := RX12) (T := TX12) (N := 4) (rest := [.long (hr_dl i)]) (n := 1) [] (hr_X12_count l D a z 0 (nI i) (vp_in_nI hlt (by decide))) rfl rfl rfl (hr_gV hw_278 hw_279 hw_280 hw_105 hw_272) ⟨rfl, rfl⟩ (by decide +kernel) ⟨Nat.le_of_ble_eq_true rfl, Nat.le_of_ble_eq_true rfl⟩ ⟨by show 3 * i + 3 ≤ 146; omega, by show 23 * i + 23 ≤ 545; omega⟩ hl.1 rfl rfl (Nat.le_of_ble_eq_true rfl) dX12_digest_20 (fun q_20 u_20 H locs hv_20 hp => ?_)
      subst hv_20
      have hp : hr_H D A s.heap (hr_Y a z 0 0) H _ := hp
      refine lv_i2l (v := 0) hx hb dX12_digest_23 (by decide) ?_
      refine hr_cSl C0 hp (rest := []) (n := 2) [] (hr_X12_add l D z (hr_Y a z 0 0) (hr_dl i) 0) rfl (hr_gS hw_318 hw_319 hw_105 hw_314) ⟨rfl, rfl⟩ (by decide +kernel) ⟨Nat.le_of_ble_eq_true rfl, Nat.le_of_ble_eq_true rfl⟩ ⟨by show 3 * i + 3 + 0 ≤ 146; omega, by show 23 * i + 23 + 0 ≤ 545; omega⟩ hl.1 rfl rfl (Nat.le_of_ble_eq_true rfl) dX12_digest_24 (fun q_24 u_24 H locs hv_24 hp => ?_)
      subst hv_24
      have hp : hr_H D A s.heap (hr_Y a z 0 0) H _ := hp
      refine lv_lstore_n (lv' := [(1, .long ((hr_dl i) * 31 + 0)), (3, .int (nI i)), (0, .ref (a 0))]) hx hb dX12_digest_27 rfl hl (by decide) rfl (fun ls hl => ?_)
      refine lv_iinc (v := (nI (i + 1))) (lv' := [(3, .int (nI (i + 1))), (1, .long ((hr_dl i) * 31 + 0)), (0, .ref (a 0))]) hx hb dX12_digest_28 hl (k := 1) rfl (nI_1 i) (by decide) rfl (fun ls hl => ?_)
      refine lv_goto (tgt := 11) hx hb dX12_digest_31 (by decide) ?_
      refine W.widen (k := 3 * (i + 1)) (n := 23 * (i + 1)) (by omega) (by omega) ?_
      exact ih (i + 1) _ _ _ (by omega) (by omega) hp (lv_sub hl [0, 1, 2] rfl)
  refine lv_aload_n hx hb dX12_digest_0 rfl (lv_at hl 0 rfl) ?_
  refine lv_iconst (v := 0) hx hb dX12_digest_1 (by decide) ?_
  refine hr_put C0 hp (q0 := 0) (C := RX12) (T := TX12) (N := 4) (ci := 2) (ty0 := tyX12) (ty := .int) (Y' := (hr_Y a z 0 0)) rfl rfl hr_uX12 tyX12_ok nmX12 0 (by decide) hw_142 (fun _ h9 => h9) rfl (by decide +kernel) rfl rfl (Nat.le_of_ble_eq_true rfl) rfl dX12_digest_2 (fun H locs hp => ?_)
  refine lv_ldc2 (v := 58188) hx hb hown (hts _ hw_317) dX12_digest_5 ?_
  refine lv_lstore_n (lv' := [(1, .long 58188), (0, .ref (a 0))]) hx hb dX12_digest_8 rfl hl (by decide) rfl (fun ls hl => ?_)
  refine lv_iconst (v := 0) hx hb dX12_digest_9 (by decide) ?_
  refine lv_istore_n (lv' := [(3, .int 0), (1, .long 58188), (0, .ref (a 0))]) hx hb dX12_digest_10 rfl hl (by decide) rfl (fun ls hl => ?_)
  exact hL 16 0 _ _ _ (by decide) (by decide) hp (lv_sub hl [0, 1, 2] rfl)
