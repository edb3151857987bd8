/-! constructors: laid by wip/gen/mkctor2.py -/
theorem hn_nd_of {l : List Nat} (h : l.Nodup) : va_nd l = true := by
  induction l with
  | nil => rfl
  | cons a l ih =>
    rw [List.nodup_cons] at h
    simp [va_nd, h.1, ih h.2]
theorem hn_last {X : va_W} {y : Nat × va_E} : [X.length].map (fun i => (X ++ [y])[i]?) = [y].map some := by simp
theorem hn_init {X : va_W} {y : Nat × va_E} : (List.range X.length).map (fun i => (X ++ [y])[i]?) = X.map some := by
  apply List.ext_getElem?
  intro i
  by_cases h : i < X.length
  · rw [List.getElem?_map, List.getElem?_range h, List.getElem?_map]
    simp [List.getElem?_append_left h, List.getElem?_eq_getElem h]
  · rw [List.getElem?_eq_none (by simpa using h), List.getElem?_eq_none (by simpa using h)]
theorem hn_dis {n : Nat} : ∀ i ∈ List.range n, i ∉ [n] := by
  intro i hi
  rw [List.mem_range] at hi
  simp
  omega
/-- the class of the arrays of a type is one -/
theorem hn_RA {U : State} {cA : ClassId} {ty : FieldType} (h : va_RA U cA ty) : U.vm.findClass ("[" ++ ty.toString) = some cA := by
  cases ty <;> first | exact h | (obtain ⟨_, _, _, _, _, h⟩ := h; exact h)
theorem hn_eqA {D : va_G} {s : State} {cA cB : ClassId} {ty : FieldType} {t1 t2 : List (ClassId × FieldType)} (h1 : va_K D hh_cl (t1 ++ [(cA, ty)]) s) (h2 : va_K D hh_cl (t2 ++ [(cB, ty)]) s) : cB = cA := by
  have a1 := hn_RA (h1.2 t1.length (cA, ty) (by simp)).2
  have a2 := hn_RA (h2.2 t2.length (cB, ty) (by simp)).2
  rw [a1] at a2
  exact (Option.some.inj a2).symm
section HN3
variable {p : Program} {l : Launch} {e : Env} {R : Room} {s : State} {m : MethodId} {args : Array Value} {below : List Frame} {meth : Method} {c : Code} {H : Heap} {locs : List Loc} {cells slots : Nat} {Q : State → Prop}
variable {cc : ByteArray} {pc nL : Nat} {ls : Array Slot} {rest st0 : List Value} {D : va_G} {A : Nat → Prop} {own : String} {X : va_W} {b : Nat} {e0 : va_E}
variable {y : MethodName} {bytes : ByteArray} {maxL n index mc ms : Nat} {rm : Room} {As : List Value} {S : Type} {φ : S → Prop} {world : S → va_W} {tyf : S → List (ClassId × FieldType)}
/-- the constructor of the cell that stands last -/
theorem hn_cNL {host : String} (C0 : hn_C p s m args meth c D cc nL own A) (M : hn_K l D y (hh_wm y bytes maxL none) rm (.ref b :: As) [(b, e0)] mc ms φ world tyf) (hK : va_K D hh_cl [] s) (hP : va_P D hh_cl (X ++ [(b, e0)]) H) (hD : va_D A (X ++ [(b, e0)])) (hS : va_S A s.heap H locs)
    (hcode : Cond.code y bytes maxL none ∈ hh_wa) (hini : Cond.initialized y.cls ∈ hh_wa) (hlink : va_Nw (.methodLinkNest own index y host) s) (hinst : Cond.instanceMethod y ∈ hh_wa) (hi : y.name = "<init>") (hd : y.cls ≠ "java/lang/invoke/MethodHandle" ∧ y.cls ≠ "java/lang/invoke/VarHandle" ∧ (parseMethodDescriptor y.desc).map (fun d => d.parameters.length) = some n) (hrm : rm.cells = mc ∧ rm.slots = ms) (hRm : rm.frames + 1 ≤ R.frames ∧ 8 + (maxL + 11) + rm.locals ≤ R.locals) (hf : cells + mc ≤ R.cells ∧ slots + ms ≤ R.slots) (hn : As.length = n) (hsz : ls.size = nL) (hst0 : st0 = As.reverse ++ .ref b :: rest) (hst : (rest.map fun v => v.category).sum ≤ 8) (hdg : decode cc pc = .ok (.invokespecial index, 3))
    (kk : ∀ (u : S) (H1 : Heap) (locs1 : List Loc), φ u → va_P D hh_cl (X ++ world u) H1 → va_D A (X ++ world u) → va_K D hh_cl (tyf u) s → va_S A s.heap H1 locs1 → W p l e R s m args below meth c H1 locs1 (cells + mc) (slots + ms) Q (F0 m (pc + 3) ls rest)) : W p l e R s m args below meth c H locs cells slots Q (F0 m pc ls st0) :=
  hn_cN C0 M hK hP hD hS [X.length] (List.range X.length) hn_last hn_init rfl (hn_nd_of List.nodup_range) hn_dis hcode hini hlink hinst hi hd hrm hRm hf hn hsz hst0 hst hdg kk
end HN3
/-- references 0 .. i-1 in a row -/
def hn_fl (i : Nat) (a : Nat → Nat) : Nat → Option Nat := fun k => if k < i then some (a k) else none
def hn_ad (a : Nat → Nat) (i q : Nat) : Nat → Nat := fun k => if k = i then q else a k
theorem hn_fl_0 (a : Nat → Nat) : (fun _ => none) = hn_fl 0 a := by funext k; simp [hn_fl]
theorem hn_fl_s (i q : Nat) (a : Nat → Nat) : va_up (hn_fl i a) i (some q) = hn_fl (i + 1) (hn_ad a i q) := by
  funext k
  unfold va_up hn_fl hn_ad
  by_cases h : k = i
  · simp [h]
  · by_cases h2 : k < i
    · simp [h, h2, Nat.lt_succ_of_lt h2]
    · simp [h, h2, show ¬ k < i + 1 by omega]
theorem hn_map_s {β : Type} (f : Nat → β) (g : Nat → β) (i : Nat) (y : β) (h : ∀ k, k < i → f k = g k) (hy : g i = y) : (List.range (i + 1)).map g = (List.range i).map f ++ [y] := by
  rw [List.range_succ, List.map_append, List.map_singleton, hy]
  congr 1
  apply List.map_congr_left
  intro k hk
  exact (h k (List.mem_range.mp hk)).symm
theorem hn_fm_s {β : Type} (f : Nat → List β) (g : Nat → List β) (i : Nat) (y : List β) (h : ∀ k, k < i → f k = g k) (hy : g i = y) : (List.range (i + 1)).flatMap g = (List.range i).flatMap f ++ y := by
  rw [List.range_succ, List.flatMap_append, List.flatMap_singleton, hy]
  congr 1
  have : ∀ l : List Nat, (∀ k ∈ l, k < i) → l.flatMap g = l.flatMap f := by
    intro l
    induction l with
    | nil => intro _; rfl
    | cons a l ih => intro hl; rw [List.flatMap_cons, List.flatMap_cons, ih (fun k hk => hl k (List.mem_cons_of_mem _ hk)), h a (hl a List.mem_cons_self)]
  exact this _ (fun k hk => List.mem_range.mp hk)

set_option maxHeartbeats 4000000 in
set_option maxRecDepth 100000 in
theorem hn_X6 (l : Launch) (D : va_G) (h0 : Nat) : hn_K l D yX6_init (hh_wm yX6_init cX6_init 1 none) { frames := 1, cells := 3, slots := 300, locals := 12 } [.ref h0] [(h0, .inr (6, [.null, .null, .null]))] 3 300 (fun _ : Nat × Nat × Nat × ClassId => True) (fun u => [(h0, .inr (6, [.ref u.1, .ref u.2.1, .ref u.2.2.1])), (u.1, .inl (u.2.2.2, 100, .inl (fun _ => 0))), (u.2.1, .inl (u.2.2.2, 100, .inl (fun _ => 0))), (u.2.2.1, .inl (u.2.2.2, 100, .inl (fun _ => 0)))]) (fun u => [(u.2.2.2, .int)]) := by
  refine hn_of (by decide) rfl (Nat.le_of_ble_eq_true rfl) ?_
  intro p e s m args below meth c ls A C0 hK hP hD hS hl
  obtain ⟨hx, hb, hr, hml, hown, hts, hlk, hA, hN, hin⟩ := id C0
  have hl : lv_has ls 1 [(0, .ref h0)] := hl
  refine lv_aload_n hx hb dX6_init_0 rfl (lv_at hl 0 rfl) ?_
  refine hn_obj C0 hm_278 hm_2 hm_3 hl.1 dX6_init_1 (Nat.le_of_ble_eq_true rfl) (Nat.le_of_ble_eq_true rfl) ?_
  refine lv_aload_n hx hb dX6_init_4 rfl (lv_at hl 0 rfl) ?_
  refine lv_bipush (v := 100) hx hb dX6_init_5 (by decide) ?_
  refine va_newa (atype := .int) (ty := .int) (a0 := (100, .inl (fun _ => 0))) hx hb (hts _ hm_75) rfl hK hP hD hS hA (fun _ => rfl) (by decide) rfl (by decide) (by decide) (by decide) dX6_init_7 (fun q7 c7 H hKc7 hP hD hS => ?_)
  have hP : va_P D hh_cl [(h0, .inr (6, [.null, .null, .null])), (q7, .inl (c7, 100, .inl (fun _ => 0)))] H := hP
  have hD : va_D A [(h0, .inr (6, [.null, .null, .null])), (q7, .inl (c7, 100, .inl (fun _ => 0)))] := hD
  refine W.widen (k := 1) (n := 100) (by omega) (by omega) ?_
  refine va_putF (D := D) (ci := 6) (v := .ref q7) (ty := .array .int) (C := RX6) (T := TX6) (N := 3) hx hb hts hh_uX6 tyX6 tyX6_ok nmX6 hown hK hP hD hS 0 rfl rfl 0 (by decide) (hts _ hm_279) (fun _ h9 => h9) rfl hin rfl (by decide +kernel) rfl rfl (Nat.le_of_ble_eq_true rfl) dX6_init_9 (fun H locs hP hD hS => ?_)
  have hP : va_P D hh_cl [(h0, .inr (6, [.ref q7, .null, .null])), (q7, .inl (c7, 100, .inl (fun _ => 0)))] H := hP
  have hD : va_D A [(h0, .inr (6, [.ref q7, .null, .null])), (q7, .inl (c7, 100, .inl (fun _ => 0)))] := hD
  refine lv_aload_n hx hb dX6_init_12 rfl (lv_at hl 0 rfl) ?_
  refine lv_bipush (v := 100) hx hb dX6_init_13 (by decide) ?_
  refine va_newa (atype := .int) (ty := .int) (a0 := (100, .inl (fun _ => 0))) hx hb (hts _ hm_75) rfl hK hP hD hS hA (fun _ => rfl) (by decide) rfl (by decide) (by decide) (by decide) dX6_init_15 (fun q15 c15 H hKc15 hP hD hS => ?_)
  rw [show c15 = c7 from hn_eqA hKc7 hKc15] at hP hD
  have hP : va_P D hh_cl [(h0, .inr (6, [.ref q7, .null, .null])), (q7, .inl (c7, 100, .inl (fun _ => 0))), (q15, .inl (c7, 100, .inl (fun _ => 0)))] H := hP
  have hD : va_D A [(h0, .inr (6, [.ref q7, .null, .null])), (q7, .inl (c7, 100, .inl (fun _ => 0))), (q15, .inl (c7, 100, .inl (fun _ => 0)))] := hD
  refine W.widen (k := 2) (n := 200) (by omega) (by omega) ?_
  refine va_putF (D := D) (ci := 6) (v := .ref q15) (ty := .array .int) (C := RX6) (T := TX6) (N := 3) hx hb hts hh_uX6 tyX6 tyX6_ok nmX6 hown hK hP hD hS 0 rfl rfl 1 (by decide) (hts _ hm_280) (fun _ h9 => h9) rfl hin rfl (by decide +kernel) rfl rfl (Nat.le_of_ble_eq_true rfl) dX6_init_17 (fun H locs hP hD hS => ?_)
  have hP : va_P D hh_cl [(h0, .inr (6, [.ref q7, .ref q15, .null])), (q7, .inl (c7, 100, .inl (fun _ => 0))), (q15, .inl (c7, 100, .inl (fun _ => 0)))] H := hP
  have hD : va_D A [(h0, .inr (6, [.ref q7, .ref q15, .null])), (q7, .inl (c7, 100, .inl (fun _ => 0))), (q15, .inl (c7, 100, .inl (fun _ => 0)))] := hD
  refine lv_aload_n hx hb dX6_init_20 rfl (lv_at hl 0 rfl) ?_
  refine lv_bipush (v := 100) hx hb dX6_init_21 (by decide) ?_
  refine va_newa (atype := .int) (ty := .int) (a0 := (100, .inl (fun _ => 0))) hx hb (hts _ hm_75) rfl hK hP hD hS hA (fun _ => rfl) (by decide) rfl (by decide) (by decide) (by decide) dX6_init_23 (fun q23 c23 H hKc23 hP hD hS => ?_)
  rw [show c23 = c7 from hn_eqA hKc7 hKc23] at hP hD
  have hP : va_P D hh_cl [(h0, .inr (6, [.ref q7, .ref q15, .null])), (q7, .inl (c7, 100, .inl (fun _ => 0))), (q15, .inl (c7, 100, .inl (fun _ => 0))), (q23, .inl (c7, 100, .inl (fun _ => 0)))] H := hP
  have hD : va_D A [(h0, .inr (6, [.ref q7, .ref q15, .null])), (q7, .inl (c7, 100, .inl (fun _ => 0))), (q15, .inl (c7, 100, .inl (fun _ => 0))), (q23, .inl (c7, 100, .inl (fun _ => 0)))] := hD
  refine W.widen (k := 3) (n := 300) (by omega) (by omega) ?_
  refine va_putF (D := D) (ci := 6) (v := .ref q23) (ty := .array .int) (C := RX6) (T := TX6) (N := 3) hx hb hts hh_uX6 tyX6 tyX6_ok nmX6 hown hK hP hD hS 0 rfl rfl 2 (by decide) (hts _ hm_281) (fun _ h9 => h9) rfl hin rfl (by decide +kernel) rfl rfl (Nat.le_of_ble_eq_true rfl) dX6_init_25 (fun H locs hP hD hS => ?_)
  have hP : va_P D hh_cl [(h0, .inr (6, [.ref q7, .ref q15, .ref q23])), (q7, .inl (c7, 100, .inl (fun _ => 0))), (q15, .inl (c7, 100, .inl (fun _ => 0))), (q23, .inl (c7, 100, .inl (fun _ => 0)))] H := hP
  have hD : va_D A [(h0, .inr (6, [.ref q7, .ref q15, .ref q23])), (q7, .inl (c7, 100, .inl (fun _ => 0))), (q15, .inl (c7, 100, .inl (fun _ => 0))), (q23, .inl (c7, 100, .inl (fun _ => 0)))] := hD
  exact hn_vret (u := (q7, q15, q23, c7)) C0 hP hD hKc7 hS dX6_init_28 trivial
/-- a road under way: its handsets' row holds i of them -/
def hn_XH (h0 ms ql qk qh : Nat) (cI cH : ClassId) (i : Nat) (a : Nat → Nat) : va_W := [(h0, .inr (5, [.ref ms, .ref ql, .ref qk, .ref qh, .null, .int 0, .int 0, .int 0, .int 0, .int 0])), (ql, .inl (cI, 6, .inl (fun _ => 0))), (qk, .inl (cI, 6, .inl (fun _ => 0))), (qh, .inl (cH, 8, .inr (.inr (.inr (.inr (hn_fl i a))))))] ++ (List.range i).map (fun k => (a k, .inr (1, [.int 0, .int 0, .int 0, .int 0, .int 0, .int (-1), .int (-1), .int (-1), .int (-1), .int 0, .int 0, .int 0, .int 0])))
theorem hn_XH_s {h0 ms ql qk qh : Nat} {cI cH : ClassId} {i q : Nat} {a : Nat → Nat} : (hn_XH h0 ms ql qk qh cI cH i a ++ ([(q, .inr (1, [.int 0, .int 0, .int 0, .int 0, .int 0, .int (-1), .int (-1), .int (-1), .int (-1), .int 0, .int 0, .int 0, .int 0]))] : va_W)).set 3 (qh, .inl (cH, 8, .inr (.inr (.inr (.inr (va_up (hn_fl i a) i (some q))))))) = hn_XH h0 ms ql qk qh cI cH (i + 1) (hn_ad a i q) := by
  rw [hn_fl_s]
  unfold hn_XH
  rw [hn_map_s (fun k => ((a k, .inr (1, [.int 0, .int 0, .int 0, .int 0, .int 0, .int (-1), .int (-1), .int (-1), .int (-1), .int 0, .int 0, .int 0, .int 0])) : Nat × va_E)) (fun k => ((hn_ad a i q k, .inr (1, [.int 0, .int 0, .int 0, .int 0, .int 0, .int (-1), .int (-1), .int (-1), .int (-1), .int 0, .int 0, .int 0, .int 0])) : Nat × va_E)) i (q, .inr (1, [.int 0, .int 0, .int 0, .int 0, .int 0, .int (-1), .int (-1), .int (-1), .int (-1), .int 0, .int 0, .int 0, .int 0])) (fun k hk => by simp [hn_ad, Nat.ne_of_lt hk]) (by simp [hn_ad])]
  rfl
/-- its handsets stand, its calls' row holds i -/
def hn_XC (h0 ms ql qk qh qc : Nat) (cI cH cC : ClassId) (a : Nat → Nat) (i : Nat) (b g1 g2 : Nat → Nat) : va_W := ([(h0, .inr (5, [.ref ms, .ref ql, .ref qk, .ref qh, .ref qc, .int 0, .int 0, .int 0, .int 0, .int 0])), (ql, .inl (cI, 6, .inl (fun _ => 0))), (qk, .inl (cI, 6, .inl (fun _ => 0))), (qh, .inl (cH, 8, .inr (.inr (.inr (.inr (hn_fl 8 a))))))] ++ (List.range 8).map (fun k => (a k, .inr (1, [.int 0, .int 0, .int 0, .int 0, .int 0, .int (-1), .int (-1), .int (-1), .int (-1), .int 0, .int 0, .int 0, .int 0]))) ++ [(qc, .inl (cC, 24, .inr (.inr (.inr (.inr (hn_fl i b))))))]) ++ (List.range i).flatMap (fun k => [(b k, .inr (0, [.ref (g1 k), .ref (g2 k), .int 0, .int 0, .int 0, .int 0, .int 0])), (g1 k, .inr (2, [.int (-1), .int (-1), .int 0, .int 0, .int (-1), .int 0])), (g2 k, .inr (2, [.int (-1), .int (-1), .int 0, .int 0, .int (-1), .int 0]))])
theorem hn_XC_s {h0 ms ql qk qh qc : Nat} {cI cH cC : ClassId} {i q q1 q2 : Nat} {a b g1 g2 : Nat → Nat} : (hn_XC h0 ms ql qk qh qc cI cH cC a i b g1 g2 ++ ([(q, .inr (0, [.ref q1, .ref q2, .int 0, .int 0, .int 0, .int 0, .int 0])), (q1, .inr (2, [.int (-1), .int (-1), .int 0, .int 0, .int (-1), .int 0])), (q2, .inr (2, [.int (-1), .int (-1), .int 0, .int 0, .int (-1), .int 0]))] : va_W)).set 12 (qc, .inl (cC, 24, .inr (.inr (.inr (.inr (va_up (hn_fl i b) i (some q))))))) = hn_XC h0 ms ql qk qh qc cI cH cC a (i + 1) (hn_ad b i q) (hn_ad g1 i q1) (hn_ad g2 i q2) := by
  rw [hn_fl_s]
  unfold hn_XC
  rw [hn_fm_s (fun k => ([(b k, .inr (0, [.ref (g1 k), .ref (g2 k), .int 0, .int 0, .int 0, .int 0, .int 0])), (g1 k, .inr (2, [.int (-1), .int (-1), .int 0, .int 0, .int (-1), .int 0])), (g2 k, .inr (2, [.int (-1), .int (-1), .int 0, .int 0, .int (-1), .int 0]))] : va_W)) (fun k => ([(hn_ad b i q k, .inr (0, [.ref (hn_ad g1 i q1 k), .ref (hn_ad g2 i q2 k), .int 0, .int 0, .int 0, .int 0, .int 0])), (hn_ad g1 i q1 k, .inr (2, [.int (-1), .int (-1), .int 0, .int 0, .int (-1), .int 0])), (hn_ad g2 i q2 k, .inr (2, [.int (-1), .int (-1), .int 0, .int 0, .int (-1), .int 0]))] : va_W)) i [(q, .inr (0, [.ref q1, .ref q2, .int 0, .int 0, .int 0, .int 0, .int 0])), (q1, .inr (2, [.int (-1), .int (-1), .int 0, .int 0, .int (-1), .int 0])), (q2, .inr (2, [.int (-1), .int (-1), .int 0, .int 0, .int (-1), .int 0]))] (fun k hk => by simp [hn_ad, Nat.ne_of_lt hk]) (by simp [hn_ad])]
  rfl
abbrev hn_U : Type := (Nat × Nat × Nat × Nat) × ((Nat → Nat) × (Nat → Nat) × (Nat → Nat) × (Nat → Nat)) × (ClassId × ClassId × ClassId)
def hn_WR (h0 ms : Nat) (u : hn_U) : va_W := hn_XC h0 ms u.1.1 u.1.2.1 u.1.2.2.1 u.1.2.2.2 u.2.2.1 u.2.2.2.1 u.2.2.2.2 u.2.1.1 24 u.2.1.2.1 u.2.1.2.2.1 u.2.1.2.2.2
def hn_TR (u : hn_U) : List (ClassId × FieldType) := [(u.2.2.1, .int), (u.2.2.2.1, .object RX1), (u.2.2.2.2, .object RX0)]
set_option maxHeartbeats 4000000 in
set_option maxRecDepth 100000 in
theorem hn_X5 (l : Launch) (D : va_G) (h0 ms : Nat) : hn_K l D yX5_init (hh_wm yX5_init cX5_init 3 none) { frames := 3, cells := 84, slots := 604, locals := 52 } [.ref h0, .ref ms] [(h0, .inr (5, [.null, .null, .null, .null, .null, .int 0, .int 0, .int 0, .int 0, .int 0]))] 84 604 (fun _ : hn_U => True) (hn_WR h0 ms) hn_TR := by
  refine hn_of (by decide) rfl (Nat.le_of_ble_eq_true rfl) ?_
  intro p e s m args below meth c ls A C0 hK hP hD hS hl
  obtain ⟨hx, hb, hr, hml, hown, hts, hlk, hA, hN, hin⟩ := id C0
  have hl : lv_has ls 3 [(0, .ref h0), (1, .ref ms)] := hl
  refine lv_aload_n hx hb dX5_init_0 rfl (lv_at hl 0 rfl) ?_
  refine hn_obj C0 hm_96 hm_2 hm_3 hl.1 dX5_init_1 (Nat.le_of_ble_eq_true rfl) (Nat.le_of_ble_eq_true rfl) ?_
  refine lv_aload_n hx hb dX5_init_4 rfl (lv_at hl 0 rfl) ?_
  refine lv_aload_n hx hb dX5_init_5 rfl (lv_at hl 1 rfl) ?_
  refine va_putF (D := D) (ci := 5) (v := .ref ms) (ty := .object "Handoverhouse$Masts") (C := RX5) (T := TX5) (N := 10) hx hb hts hh_uX5 tyX5 tyX5_ok nmX5 hown hK hP hD hS 0 rfl rfl 0 (by decide) (hts _ hm_97) (fun _ h9 => h9) rfl hin rfl (by decide +kernel) rfl rfl (Nat.le_of_ble_eq_true rfl) dX5_init_6 (fun H locs hP hD hS => ?_)
  have hP : va_P D hh_cl [(h0, .inr (5, [.ref ms, .null, .null, .null, .null, .int 0, .int 0, .int 0, .int 0, .int 0]))] H := hP
  have hD : va_D A [(h0, .inr (5, [.ref ms, .null, .null, .null, .null, .int 0, .int 0, .int 0, .int 0, .int 0]))] := hD
  refine lv_aload_n hx hb dX5_init_9 rfl (lv_at hl 0 rfl) ?_
  refine lv_bipush (v := 6) hx hb dX5_init_10 (by decide) ?_
  refine va_newa (atype := .int) (ty := .int) (a0 := (6, .inl (fun _ => 0))) hx hb (hts _ hm_75) rfl hK hP hD hS hA (fun _ => rfl) (by decide) rfl (by decide) (by decide) (by decide) dX5_init_12 (fun ql c12 H hKc12 hP hD hS => ?_)
  have hP : va_P D hh_cl [(h0, .inr (5, [.ref ms, .null, .null, .null, .null, .int 0, .int 0, .int 0, .int 0, .int 0])), (ql, .inl (c12, 6, .inl (fun _ => 0)))] H := hP
  have hD : va_D A [(h0, .inr (5, [.ref ms, .null, .null, .null, .null, .int 0, .int 0, .int 0, .int 0, .int 0])), (ql, .inl (c12, 6, .inl (fun _ => 0)))] := hD
  refine W.widen (k := 1) (n := 6) (by omega) (by omega) ?_
  refine va_putF (D := D) (ci := 5) (v := .ref ql) (ty := .array .int) (C := RX5) (T := TX5) (N := 10) hx hb hts hh_uX5 tyX5 tyX5_ok nmX5 hown hK hP hD hS 0 rfl rfl 1 (by decide) (hts _ hm_98) (fun _ h9 => h9) rfl hin rfl (by decide +kernel) rfl rfl (Nat.le_of_ble_eq_true rfl) dX5_init_14 (fun H locs hP hD hS => ?_)
  have hP : va_P D hh_cl [(h0, .inr (5, [.ref ms, .ref ql, .null, .null, .null, .int 0, .int 0, .int 0, .int 0, .int 0])), (ql, .inl (c12, 6, .inl (fun _ => 0)))] H := hP
  have hD : va_D A [(h0, .inr (5, [.ref ms, .ref ql, .null, .null, .null, .int 0, .int 0, .int 0, .int 0, .int 0])), (ql, .inl (c12, 6, .inl (fun _ => 0)))] := hD
  refine lv_aload_n hx hb dX5_init_17 rfl (lv_at hl 0 rfl) ?_
  refine lv_bipush (v := 6) hx hb dX5_init_18 (by decide) ?_
  refine va_newa (atype := .int) (ty := .int) (a0 := (6, .inl (fun _ => 0))) hx hb (hts _ hm_75) rfl hK hP hD hS hA (fun _ => rfl) (by decide) rfl (by decide) (by decide) (by decide) dX5_init_20 (fun qk c20 H hKc20 hP hD hS => ?_)
  rw [show c20 = c12 from hn_eqA hKc12 hKc20] at hP hD
  have hP : va_P D hh_cl [(h0, .inr (5, [.ref ms, .ref ql, .null, .null, .null, .int 0, .int 0, .int 0, .int 0, .int 0])), (ql, .inl (c12, 6, .inl (fun _ => 0))), (qk, .inl (c12, 6, .inl (fun _ => 0)))] H := hP
  have hD : va_D A [(h0, .inr (5, [.ref ms, .ref ql, .null, .null, .null, .int 0, .int 0, .int 0, .int 0, .int 0])), (ql, .inl (c12, 6, .inl (fun _ => 0))), (qk, .inl (c12, 6, .inl (fun _ => 0)))] := hD
  refine W.widen (k := 2) (n := 12) (by omega) (by omega) ?_
  refine va_putF (D := D) (ci := 5) (v := .ref qk) (ty := .array .int) (C := RX5) (T := TX5) (N := 10) hx hb hts hh_uX5 tyX5 tyX5_ok nmX5 hown hK hP hD hS 0 rfl rfl 2 (by decide) (hts _ hm_99) (fun _ h9 => h9) rfl hin rfl (by decide +kernel) rfl rfl (Nat.le_of_ble_eq_true rfl) dX5_init_22 (fun H locs hP hD hS => ?_)
  have hP : va_P D hh_cl [(h0, .inr (5, [.ref ms, .ref ql, .ref qk, .null, .null, .int 0, .int 0, .int 0, .int 0, .int 0])), (ql, .inl (c12, 6, .inl (fun _ => 0))), (qk, .inl (c12, 6, .inl (fun _ => 0)))] H := hP
  have hD : va_D A [(h0, .inr (5, [.ref ms, .ref ql, .ref qk, .null, .null, .int 0, .int 0, .int 0, .int 0, .int 0])), (ql, .inl (c12, 6, .inl (fun _ => 0))), (qk, .inl (c12, 6, .inl (fun _ => 0)))] := hD
  refine lv_aload_n hx hb dX5_init_25 rfl (lv_at hl 0 rfl) ?_
  refine lv_bipush (v := 8) hx hb dX5_init_26 (by decide) ?_
  refine va_newq (C := RX1) (N' := 8) hx hb hown (hts _ hm_100) hN.2.1 hK hP hD hS hA (by decide) rfl (by decide) (by decide) (by decide) dX5_init_28 (fun qh cH H hKH hP hD hS => ?_)
  have hP : va_P D hh_cl [(h0, .inr (5, [.ref ms, .ref ql, .ref qk, .null, .null, .int 0, .int 0, .int 0, .int 0, .int 0])), (ql, .inl (c12, 6, .inl (fun _ => 0))), (qk, .inl (c12, 6, .inl (fun _ => 0))), (qh, .inl (cH, 8, .inr (.inr (.inr (.inr (fun _ => none))))))] H := hP
  have hD : va_D A [(h0, .inr (5, [.ref ms, .ref ql, .ref qk, .null, .null, .int 0, .int 0, .int 0, .int 0, .int 0])), (ql, .inl (c12, 6, .inl (fun _ => 0))), (qk, .inl (c12, 6, .inl (fun _ => 0))), (qh, .inl (cH, 8, .inr (.inr (.inr (.inr (fun _ => none))))))] := hD
  refine W.widen (k := 3) (n := 20) (by omega) (by omega) ?_
  refine va_putF (D := D) (ci := 5) (v := .ref qh) (ty := .array (.object "Handoverhouse$Handset")) (C := RX5) (T := TX5) (N := 10) hx hb hts hh_uX5 tyX5 tyX5_ok nmX5 hown hK hP hD hS 0 rfl rfl 3 (by decide) (hts _ hm_101) (fun _ h9 => h9) rfl hin rfl (by decide +kernel) rfl rfl (Nat.le_of_ble_eq_true rfl) dX5_init_31 (fun H locs hP hD hS => ?_)
  have hP : va_P D hh_cl [(h0, .inr (5, [.ref ms, .ref ql, .ref qk, .ref qh, .null, .int 0, .int 0, .int 0, .int 0, .int 0])), (ql, .inl (c12, 6, .inl (fun _ => 0))), (qk, .inl (c12, 6, .inl (fun _ => 0))), (qh, .inl (cH, 8, .inr (.inr (.inr (.inr (fun _ => none))))))] H := hP
  have hD : va_D A [(h0, .inr (5, [.ref ms, .ref ql, .ref qk, .ref qh, .null, .int 0, .int 0, .int 0, .int 0, .int 0])), (ql, .inl (c12, 6, .inl (fun _ => 0))), (qk, .inl (c12, 6, .inl (fun _ => 0))), (qh, .inl (cH, 8, .inr (.inr (.inr (.inr (fun _ => none))))))] := hD
  refine lv_iconst (v := 0) hx hb dX5_init_34 (by decide) ?_
  refine lv_istore_n (lv' := [(2, .int 0), (0, .ref h0), (1, .ref ms)]) hx hb dX5_init_35 rfl hl (by decide) rfl (fun ls hl => ?_)
  have hloopH : ∀ (n i : Nat) (a : Nat → Nat) (H : Heap) (locs : List Loc) (ls : Array Slot), i ≤ 8 → 8 - i < n → va_P D hh_cl (hn_XH h0 ms ql qk qh c12 cH i a) H → va_D A (hn_XH h0 ms ql qk qh c12 cH i a) → va_S A s.heap H locs → lv_has ls 3 [(2, .int (nI i)), (0, .ref h0), (1, .ref ms)] → W p l e ({ frames := 3, cells := 84, slots := 604, locals := 52 } : Room) s m args below meth c H locs (3 + i) (20 + 13 * i) (MQ below (va_Qv (fun _ : (Nat × Nat × Nat × Nat) × ((Nat → Nat) × (Nat → Nat) × (Nat → Nat) × (Nat → Nat)) × (ClassId × ClassId × ClassId) => True) (fun u t => hn_B D A (hn_WR h0 ms u) (hn_TR u) t) A) args s 84 604 A) (F0 m 36 ls []) := by
    intro n
    induction n with
    | zero => intro i a H locs ls h1 h2; omega
    | succ n ih =>
      intro i a H locs ls hi hn hP hD hS hl
      refine lv_iload_n hx hb dX5_init_36 rfl (lv_at hl 0 rfl) ?_
      refine lv_bipush (v := 8) hx hb dX5_init_37 (by decide) ?_
      refine lv_icmp_ge (tgt := 61) hx hb dX5_init_39 (by decide) (fun c_39 => ?_) (fun c_39 => ?_)
      · have hi8 : 8 ≤ i := (nI_leI (a := 8) (b := i) (by omega) (by omega)).mp c_39
        have he : i = 8 := by omega
        subst he
        clear ih
        refine lv_aload_n hx hb dX5_init_61 rfl (lv_at hl 1 rfl) ?_
        refine lv_bipush (v := 24) hx hb dX5_init_62 (by decide) ?_
        refine va_newq (C := RX0) (N' := 24) hx hb hown (hts _ hm_104) hN.2.2.1 hK hP hD hS hA (by decide) rfl (by decide) (by decide) (by decide) dX5_init_64 (fun qc cC H hKC hP hD hS => ?_)
        refine W.widen (k := 12) (n := 148) (by omega) (by omega) ?_
        refine va_putF (D := D) (ci := 5) (v := .ref qc) (ty := .array (.object "Handoverhouse$Call")) (C := RX5) (T := TX5) (N := 10) (fs := [.ref ms, .ref ql, .ref qk, .ref qh, .null, .int 0, .int 0, .int 0, .int 0, .int 0]) hx hb hts hh_uX5 tyX5 tyX5_ok nmX5 hown hK hP hD hS 0 rfl rfl 4 (by decide) (hts _ hm_105) (fun _ h9 => h9) rfl hin rfl (by decide +kernel) rfl rfl (Nat.le_of_ble_eq_true rfl) dX5_init_67 (fun H locs hP hD hS => ?_)
        have hP : va_P D hh_cl (hn_XC h0 ms ql qk qh qc c12 cH cC a 0 a a a) H := by unfold hn_XC; rw [← hn_fl_0]; exact hP
        have hD : va_D A (hn_XC h0 ms ql qk qh qc c12 cH cC a 0 a a a) := by unfold hn_XC; rw [← hn_fl_0]; exact hD
        refine lv_iconst (v := 0) hx hb dX5_init_70 (by decide) ?_
        refine lv_istore_n (lv' := [(2, .int 0), (0, .ref h0), (1, .ref ms)]) hx hb dX5_init_71 rfl hl (by decide) rfl (fun ls hl => ?_)
        have hloopC : ∀ (n i : Nat) (b g1 g2 : Nat → Nat) (H : Heap) (locs : List Loc) (ls : Array Slot), i ≤ 24 → 24 - i < n → va_P D hh_cl (hn_XC h0 ms ql qk qh qc c12 cH cC a i b g1 g2) H → va_D A (hn_XC h0 ms ql qk qh qc c12 cH cC a i b g1 g2) → va_S A s.heap H locs → lv_has ls 3 [(2, .int (nI i)), (0, .ref h0), (1, .ref ms)] → W p l e ({ frames := 3, cells := 84, slots := 604, locals := 52 } : Room) s m args below meth c H locs (12 + 3 * i) (148 + 19 * i) (MQ below (va_Qv (fun _ : (Nat × Nat × Nat × Nat) × ((Nat → Nat) × (Nat → Nat) × (Nat → Nat) × (Nat → Nat)) × (ClassId × ClassId × ClassId) => True) (fun u t => hn_B D A (hn_WR h0 ms u) (hn_TR u) t) A) args s 84 604 A) (F0 m 72 ls []) := by
          intro n
          induction n with
          | zero => intro i b g1 g2 H locs ls h1 h2; omega
          | succ n ih =>
            intro i b g1 g2 H locs ls hi hn hP hD hS hl
            refine lv_iload_n hx hb dX5_init_72 rfl (lv_at hl 0 rfl) ?_
            refine lv_bipush (v := 24) hx hb dX5_init_73 (by decide) ?_
            refine lv_icmp_ge (tgt := 97) hx hb dX5_init_75 (by decide) (fun c_75 => ?_) (fun c_75 => ?_)
            · have hi8 : 24 ≤ i := (nI_leI (a := 24) (b := i) (by omega) (by omega)).mp c_75
              have he : i = 24 := by omega
              subst he
              exact hn_vret (u := ((ql, qk, qh, qc), (a, b, g1, g2), (c12, cH, cC))) C0 hP hD (va_K.app hKc12 (va_K.app hKH hKC)) hS dX5_init_97 trivial
            · have hlt : i < 24 := Nat.not_le.mp (fun z => c_75 ((nI_leI (a := 24) (b := i) (by omega) (by omega)).mpr z))
              refine lv_aload_n hx hb dX5_init_78 rfl (lv_at hl 1 rfl) ?_
              refine va_get (D := D) (ci := 5) (v := .ref qc) (fs := [.ref ms, .ref ql, .ref qk, .ref qh, .ref qc, .int 0, .int 0, .int 0, .int 0, .int 0]) (C := RX5) (T := TX5) (N := 10) hx hb hts hh_uX5 hown hK hP 0 rfl rfl 4 (by decide) (hts _ hm_105) (fun _ h9 => h9) rfl dX5_init_79 ?_
              refine lv_iload_n hx hb dX5_init_82 rfl (lv_at hl 0 rfl) ?_
              refine va_new (ci := 0) (fs := [.null, .null, .int 0, .int 0, .int 0, .int 0, .int 0]) (C := RX0) (T := TX0) (N := 7) hx hb hts hh_uX0 tyX0 tyX0_ok hown (hts _ hm_104) (hts _ hm_106) (hts _ hm_107) hK hP hD hS hA rfl (fun j hj => by rcases (show j = 0 ∨ j = 1 ∨ j = 2 ∨ j = 3 ∨ j = 4 ∨ j = 5 ∨ j = 6 by omega) with rfl | rfl | rfl | rfl | rfl | rfl | rfl <;> rfl) (by show 12 + 3 * i + 1 ≤ 84; omega) (by show 148 + 19 * i + 7 ≤ 604; omega) dX5_init_83 (fun q H hP hD hS => ?_)
              refine lv_dup hx hb dX5_init_86 rfl ?_
              refine hn_cNL C0 (As := []) (rest := [.ref q, .int (nI i), .ref qc]) (n := 0) (hn_X0 l D q) hK hP hD hS hm_0 hm_107 hN.2.2.2.2.2.2.1 hm_109 rfl (by decide +kernel) ⟨rfl, rfl⟩ ⟨Nat.le_of_ble_eq_true rfl, Nat.le_of_ble_eq_true rfl⟩ ⟨by show 12 + 3 * i + 1 + 2 ≤ 84; omega, by show 148 + 19 * i + 7 + 12 ≤ 604; omega⟩ rfl hl.1 rfl (Nat.le_of_ble_eq_true rfl) dX5_init_87 (fun u H locs hw hP hD hK9 hS => ?_)
              obtain ⟨q1, q2⟩ := u
              refine va_astq (D := D) (r := (RX0, TX0, 7)) (f := hn_fl i b) (vs := [.ref q1, .ref q2, .int 0, .int 0, .int 0, .int 0, .int 0]) hx hb hKC hP hD hS 12 0 (hn_XC h0 ms ql qk qh qc c12 cH cC a i b g1 g2).length 0 rfl rfl (by simp) rfl (vp_in_nI hlt (by decide)) dX5_init_90 (fun H locs hP hD hS => ?_)
              rw [nI_clamp (by omega)] at hP hD
              rw [hn_XC_s] at hP hD
              refine lv_iinc (v := nI (i + 1)) (lv' := [(2, .int (nI (i + 1))), (0, .ref h0), (1, .ref ms)]) hx hb dX5_init_91 hl (k := 0) rfl (nI_1 i) (by decide) rfl (fun ls hl => ?_)
              refine lv_goto (tgt := 72) hx hb dX5_init_94 (by decide) ?_
              refine W.widen (k := 12 + 3 * (i + 1)) (n := 148 + 19 * (i + 1)) (by omega) (by omega) ?_
              exact ih (i + 1) _ _ _ _ _ _ (by omega) (by omega) hP hD hS hl
        exact hloopC 25 0 a a a _ _ _ (by omega) (by omega) hP hD hS hl
      · have hlt : i < 8 := Nat.not_le.mp (fun z => c_39 ((nI_leI (a := 8) (b := i) (by omega) (by omega)).mpr z))
        refine lv_aload_n hx hb dX5_init_42 rfl (lv_at hl 1 rfl) ?_
        refine va_get (D := D) (ci := 5) (v := .ref qh) (fs := [.ref ms, .ref ql, .ref qk, .ref qh, .null, .int 0, .int 0, .int 0, .int 0, .int 0]) (C := RX5) (T := TX5) (N := 10) hx hb hts hh_uX5 hown hK hP 0 rfl rfl 3 (by decide) (hts _ hm_101) (fun _ h9 => h9) rfl dX5_init_43 ?_
        refine lv_iload_n hx hb dX5_init_46 rfl (lv_at hl 0 rfl) ?_
        refine va_new (ci := 1) (fs := [.int 0, .int 0, .int 0, .int 0, .int 0, .int 0, .int 0, .int 0, .int 0, .int 0, .int 0, .int 0, .int 0]) (C := RX1) (T := TX1) (N := 13) hx hb hts hh_uX1 tyX1 tyX1_ok hown (hts _ hm_100) (hts _ hm_102) (hts _ hm_103) hK hP hD hS hA rfl (fun j hj => by rcases (show j = 0 ∨ j = 1 ∨ j = 2 ∨ j = 3 ∨ j = 4 ∨ j = 5 ∨ j = 6 ∨ j = 7 ∨ j = 8 ∨ j = 9 ∨ j = 10 ∨ j = 11 ∨ j = 12 by omega) with rfl | rfl | rfl | rfl | rfl | rfl | rfl | rfl | rfl | rfl | rfl | rfl | rfl <;> rfl) (by show 3 + i + 1 ≤ 84; omega) (by show 20 + 13 * i + 13 ≤ 604; omega) dX5_init_47 (fun q H hP hD hS => ?_)
        refine lv_dup hx hb dX5_init_50 rfl ?_
        refine hn_cNL C0 (As := []) (rest := [.ref q, .int (nI i), .ref qh]) (n := 0) (hn_X1 l D q) hK hP hD hS hm_32 hm_103 hN.2.2.2.2.2.1 hm_108 rfl (by decide +kernel) ⟨rfl, rfl⟩ ⟨Nat.le_of_ble_eq_true rfl, Nat.le_of_ble_eq_true rfl⟩ ⟨by show 3 + i + 1 + 0 ≤ 84; omega, by show 20 + 13 * i + 13 + 0 ≤ 604; omega⟩ rfl hl.1 rfl (Nat.le_of_ble_eq_true rfl) dX5_init_51 (fun u H locs hw hP hD hK9 hS => ?_)
        refine va_astq (D := D) (r := (RX1, TX1, 13)) (f := hn_fl i a) (vs := [.int 0, .int 0, .int 0, .int 0, .int 0, .int (-1), .int (-1), .int (-1), .int (-1), .int 0, .int 0, .int 0, .int 0]) hx hb hKH hP hD hS 3 0 (hn_XH h0 ms ql qk qh c12 cH i a).length 1 rfl rfl (by simp) rfl (vp_in_nI hlt (by decide)) dX5_init_54 (fun H locs hP hD hS => ?_)
        rw [nI_clamp (by omega)] at hP hD
        rw [hn_XH_s] at hP hD
        refine lv_iinc (v := nI (i + 1)) (lv' := [(2, .int (nI (i + 1))), (0, .ref h0), (1, .ref ms)]) hx hb dX5_init_55 hl (k := 0) rfl (nI_1 i) (by decide) rfl (fun ls hl => ?_)
        refine lv_goto (tgt := 36) hx hb dX5_init_58 (by decide) ?_
        refine W.widen (k := 3 + (i + 1)) (n := 20 + 13 * (i + 1)) (by omega) (by omega) ?_
        exact ih (i + 1) _ _ _ _ (by omega) (by omega) hP hD hS hl
  have hP : va_P D hh_cl (hn_XH h0 ms ql qk qh c12 cH 0 id) H := by unfold hn_XH; rw [← hn_fl_0]; exact hP
  have hD : va_D A (hn_XH h0 ms ql qk qh c12 cH 0 id) := by unfold hn_XH; rw [← hn_fl_0]; exact hD
  exact hloopH 9 0 id _ _ _ (by omega) (by omega) hP hD hS hl
