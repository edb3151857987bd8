/-! constructors: laid by wip/gen/mkctor3.py; va_mna and what stands ahead of it are the printed names' own text -/
def va_AOA (t : FieldType) (U : State) : Prop := (Cond.arrayOver (.array t)).before #[] U = true
theorem va_AOA.use {t : FieldType} {A : Array Value} {U : State} (h : va_AOA t U) : (Cond.arrayOver (.array t)).before A U = true := h
/-! ===== BEGIN new T[n][m]: the outer array a place, the inner ones among the pooled ===== -/
/-- f, but v at every address of l -/
def vr_up {α : Type} (f : Nat → α) (l : List Nat) (v : α) : Nat → α := fun a => if a ∈ l then v else f a
theorem vr_up_in {α : Type} {f : Nat → α} {l : List Nat} {v : α} {a : Nat} (h : a ∈ l) : vr_up f l v a = v := if_pos h
theorem vr_up_ne {α : Type} {f : Nat → α} {l : List Nat} {v : α} {a : Nat} (h : a ∉ l) : vr_up f l v a = f a := if_neg h
theorem vr_rows {L l : List Nat} {f : Nat → va_E} {e : va_E} (h : ∀ a, a ∈ l → a ∉ L) : va_pl L f ++ l.map (fun a => (a, e)) = va_pl (L ++ l) (vr_up f l e) := by
  unfold va_pl
  rw [List.map_append]
  congr 1
  · apply List.map_congr_left
    intro a ha
    rw [vr_up_ne (fun q => h a q ha)]
  · apply List.map_congr_left
    intro a ha
    rw [vr_up_in ha]
theorem vr_lay {X rows : va_W} {x : Nat × va_E} {pl : va_W} {D : va_G} {cl : List vw_C} {H : Heap} (hP : va_P D cl (((X ++ pl) ++ [x]) ++ rows) H) : va_P D cl ((X ++ [x]) ++ (pl ++ rows)) H := by
  rw [List.append_assoc (X ++ pl)] at hP
  have h := va_P.swap hP
  rw [← List.append_assoc X] at h
  have h2 := va_P.swap h
  rw [List.append_assoc (X ++ [x])] at h2
  exact h2
theorem vr_layD {X rows : va_W} {x : Nat × va_E} {pl : va_W} {A : Nat → Prop} (hD : va_D A (((X ++ pl) ++ [x]) ++ rows)) : va_D A ((X ++ [x]) ++ (pl ++ rows)) := by
  rw [List.append_assoc (X ++ pl)] at hD
  have h := va_D.swap hD
  rw [← List.append_assoc X] at h
  have h2 := va_D.swap h
  rw [List.append_assoc (X ++ [x])] at h2
  exact h2
theorem vr_outer (c : ClassId) (N h0 : Nat) : ∀ i : Nat, Jvm.Free.Multi.outerC c N h0 i = arrV c N (fun j => va_rf (if j < i then some (h0 + 1 + j) else none))
  | 0 => by
    show ({ cls := c, slots := Array.replicate N .null, vm := .none } : Cell) = _
    rw [arrV_new]
    refine congrArg (arrV c N) (funext fun j => ?_)
    simp [va_rf]
  | i + 1 => by
    show (Jvm.Free.Multi.outerC c N h0 i).setSlot i (.ref (h0 + 1 + i)) = _
    rw [vr_outer c N h0 i, arrV_store]
    refine congrArg (arrV c N) (funext fun j => ?_)
    by_cases e : j = i
    · subst e
      simp [updV, va_rf]
    · by_cases h : j < i
      · simp [updV, e, h, Nat.lt_succ_of_lt h]
      · simp [updV, e, h, show ¬ j < i + 1 by omega]
section VGM
variable {p : Program} {l : Launch} {e : Env} {R : Room} {s : State} {m : MethodId} {args : Array Value} {below : List Frame} {meth : Method} {c : Code} {H : Heap} {locs : List Loc} {cells slots : Nat} {Q : State → Prop}
variable {cc : ByteArray} {pc : Nat} {ls : Array Slot} {rest : List Value} {D : va_G} {cl : List vw_C} {A : Nat → Prop} {a : Nat} {tys : List (ClassId × FieldType)} {ws : va_W} {H0 : Heap}
theorem va_mna {X : va_W} {L : List Nat} {f : Nat → va_E} {cc : ByteArray} (hexec : p.tables.exec = Jvm.exec) (hb : c.code = cc) {own : String} {index : Nat} {ty : FieldType} {cy : ClassId} (hown : s.vm.findClass own = some m.cls) (hclink : (Cond.classLink own index ("[" ++ (FieldType.array ty).toString)).before args s = true) (hover : va_AOA ty s) (harr : (Cond.arrayClass ty).before args s = true) (hcy : s.vm.findClass (FieldType.array ty).toString = some cy)
    (hK : va_K D cl tys s) (hP : va_P D cl (X ++ va_pl L f) H) (hD : va_D A (X ++ va_pl L f)) (hS : va_S A H0 H locs) (hA : ∀ q, H0.size ≤ q → A q) {n k : Int32} {N' K' : Nat} {z : vp_A} (hn : ¬ n < 0) (hk : ¬ k < 0) (hN : n.toNatClampNeg = N') (hM : k.toNatClampNeg = K')
    (hb1 : N' * 4 ≤ 536870912) (hb2 : K' * componentBytes ty ≤ 536870912) (hb3 : K' ≤ 536870912) (hdf : fits ty (defaultValue ty) = true) (hdd : (defaultValue ty).isDefault = true) (hcells : cells + (1 + N') ≤ R.cells) (hslots : slots + (N' + N' * K') ≤ R.slots) (hz : ∀ c : ClassId, Jvm.Free.Multi.innerC c K' (defaultValue ty) = vp_cell c z) (hdg : decode cc pc = .ok (.multianewarray index 2, 4))
    (kk : ∀ (q : Nat) (r : Nat → Nat) (cA : ClassId) (H1 : Heap), (∀ i j : Nat, i < N' → j < N' → r i = r j → i = j) → (∀ i : Nat, i < N' → r i ∉ L) → va_K D cl (tys ++ [(cA, .array ty)]) s →
      va_P D cl ((X ++ [(q, .inl (cA, N', .inr (.inr (.inr (.inr (fun i => if i < N' then some (r i) else none))))))]) ++ va_pl (L ++ (List.range N').map r) (vr_up f ((List.range N').map r) (.inl (cy, z)))) H1 → va_D A ((X ++ [(q, .inl (cA, N', .inr (.inr (.inr (.inr (fun i => if i < N' then some (r i) else none))))))]) ++ va_pl (L ++ (List.range N').map r) (vr_up f ((List.range N').map r) (.inl (cy, z)))) → va_S A H0 H1 locs →
      W p l e R s m args below meth c H1 locs (cells + 1 + N') (slots + N' + N' * K') Q (F0 m (pc + 4) ls (.ref q :: rest))) : W p l e R s m args below meth c H locs cells slots Q (F0 m pc ls (.int k :: .int n :: rest)) := by
  subst hN
  subst hM
  intro T hT Xs
  obtain ⟨vm₁, cA, comp, -, fA, fC, hO, -, X', step⟩ := Xs.multianewarray2F hexec hown hclink (va_AOA.use hover) harr (g := F0 m pc ls (.int k :: .int n :: rest)) rfl (by rw [hb]; exact hdg) rfl hn hk hb1 hb2 hb3 hdf hdd hcells hslots
  have ec : some cy = some comp := hcy.symm.trans fC
  cases ec
  generalize hF : Jvm.Free.Multi.fill (T.setVm vm₁) cA cy n.toNatClampNeg k.toNatClampNeg (defaultValue ty) n.toNatClampNeg = F at X' step
  have hTh : (T.setVm vm₁).heap = H := hT
  obtain ⟨f1, f2, -, -⟩ := Jvm.Free.Multi.fill_facts (T.setVm vm₁) cA cy n.toNatClampNeg k.toNatClampNeg (defaultValue ty) n.toNatClampNeg
  rw [hF, hTh] at f1 f2
  have hold : ∀ x : Nat, x < H.size → F.heap[x]? = H[x]? := fun x hx => by
    have := Jvm.Free.Multi.fill_old (T.setVm vm₁) cA cy n.toNatClampNeg k.toNatClampNeg (defaultValue ty) (a := x) (by rw [hTh]; exact hx) n.toNatClampNeg
    rw [hF, hTh] at this
    exact this
  have hrow : ∀ j : Nat, j < n.toNatClampNeg → F.heap[H.size + 1 + j]? = some (vp_cell cy z) := fun j hj => by
    have := Jvm.Free.Multi.fill_inner (T.setVm vm₁) cA cy n.toNatClampNeg k.toNatClampNeg (defaultValue ty) n.toNatClampNeg j hj
    rw [hF, hTh, hz] at this
    exact this
  have hout : Jvm.Free.Multi.outerC cA n.toNatClampNeg H.size n.toNatClampNeg = vp_cell cA (n.toNatClampNeg, .inr (.inr (.inr (.inr (fun i => if i < n.toNatClampNeg then some (H.size + 1 + i) else none))))) := by
    rw [vp_cell_q]
    exact vr_outer cA n.toNatClampNeg H.size n.toNatClampNeg
  rw [hout] at f2
  have hlt : ∀ a, a ∈ L → a < H.size := fun a ha => by
    obtain ⟨k9, hk9⟩ := va_pl_get (X := X) (f := f) ha
    exact (hP k9 _ hk9).lt
  have hnl : ∀ i : Nat, i < n.toNatClampNeg → H.size + 1 + i ∉ L := fun i _ h => by
    have := hlt _ h
    omega
  have hnm : ∀ a, a ∈ (List.range n.toNatClampNeg).map (fun i => H.size + 1 + i) → a ∉ L := fun a ha h => by
    obtain ⟨i, -, rfl⟩ := List.mem_map.mp ha
    have := hlt _ h
    omega
  have hP0 : va_P D cl (X ++ va_pl L f) F.heap := hP.kept (fun k9 x hx => hold x.1 ((hP k9 x hx).lt))
  have hP1 : va_P D cl ((X ++ va_pl L f) ++ [(H.size, .inl (cA, n.toNatClampNeg, .inr (.inr (.inr (.inr (fun i => if i < n.toNatClampNeg then some (H.size + 1 + i) else none))))))]) F.heap := hP0.app (fun k9 x hx => by
    have h0 : k9 < 1 := (List.getElem?_eq_some_iff.mp hx).1
    rw [show k9 = 0 by omega] at hx
    cases hx
    exact f2)
  have hP2 : va_P D cl (((X ++ va_pl L f) ++ [(H.size, .inl (cA, n.toNatClampNeg, .inr (.inr (.inr (.inr (fun i => if i < n.toNatClampNeg then some (H.size + 1 + i) else none))))))]) ++ ((List.range n.toNatClampNeg).map (fun i => H.size + 1 + i)).map (fun a => (a, .inl (cy, z)))) F.heap := hP1.app (fun k9 x hx => by
    obtain ⟨a, ha, rfl⟩ := List.mem_map.mp (List.mem_of_getElem? hx)
    obtain ⟨i, hi, rfl⟩ := List.mem_map.mp ha
    exact hrow i (List.mem_range.mp hi))
  have hD2 : va_D A (((X ++ va_pl L f) ++ [(H.size, .inl (cA, n.toNatClampNeg, .inr (.inr (.inr (.inr (fun i => if i < n.toNatClampNeg then some (H.size + 1 + i) else none))))))]) ++ ((List.range n.toNatClampNeg).map (fun i => H.size + 1 + i)).map (fun a => (a, .inl (cy, z)))) := by
    have hD1 := hD.push (e := .inl (cA, n.toNatClampNeg, .inr (.inr (.inr (.inr (fun i => if i < n.toNatClampNeg then some (H.size + 1 + i) else none)))))) hP rfl (hA _ hS.1)
    generalize hW1 : (X ++ va_pl L f) ++ [(H.size, .inl (cA, n.toNatClampNeg, .inr (.inr (.inr (.inr (fun i => if i < n.toNatClampNeg then some (H.size + 1 + i) else none))))))] = W1 at hD1 hP1 ⊢
    have hle : ∀ (k9 : Nat) (x : Nat × va_E), W1[k9]? = some x → x.1 ≤ H.size := fun k9 x hx => by
      rw [← hW1] at hx
      by_cases hl : k9 < (X ++ va_pl L f).length
      · rw [List.getElem?_append_left hl] at hx
        exact Nat.le_of_lt ((hP k9 x hx).lt)
      · rw [List.getElem?_append_right (by omega)] at hx
        have h0 : k9 - (X ++ va_pl L f).length < 1 := (List.getElem?_eq_some_iff.mp hx).1
        rw [show k9 - (X ++ va_pl L f).length = 0 by omega] at hx
        cases hx
        exact Nat.le_refl _
    have hr : ∀ (k9 : Nat) (x : Nat × va_E), (((List.range n.toNatClampNeg).map (fun i => H.size + 1 + i)).map (fun a => ((a, .inl (cy, z)) : Nat × va_E)))[k9]? = some x → x.1 = H.size + 1 + k9 := fun k9 x hx => by
      rw [List.getElem?_map, List.getElem?_map] at hx
      by_cases h9 : k9 < n.toNatClampNeg
      · rw [List.getElem?_range h9] at hx
        cases hx
        rfl
      · have hn0 : (List.range n.toNatClampNeg)[k9]? = none := List.getElem?_eq_none (by rw [List.length_range]; omega)
        rw [hn0] at hx
        cases hx
    refine ⟨fun i j x y hi hj hxy => ?_, fun k9 x hx => ?_⟩
    · by_cases h1 : i < W1.length <;> by_cases h2 : j < W1.length
      · rw [List.getElem?_append_left h1] at hi
        rw [List.getElem?_append_left h2] at hj
        exact hD1.1 i j x y hi hj hxy
      · rw [List.getElem?_append_left h1] at hi
        rw [List.getElem?_append_right (by omega)] at hj
        have := hle _ _ hi
        have := hr _ _ hj
        omega
      · rw [List.getElem?_append_right (by omega)] at hi
        rw [List.getElem?_append_left h2] at hj
        have := hle _ _ hj
        have := hr _ _ hi
        omega
      · rw [List.getElem?_append_right (by omega)] at hi hj
        have := hr _ _ hi
        have := hr _ _ hj
        omega
    · by_cases h1 : k9 < W1.length
      · rw [List.getElem?_append_left h1] at hx
        exact hD1.2 k9 x hx
      · rw [List.getElem?_append_right (by omega)] at hx
        have := hr _ _ hx
        exact hA _ (by have := hS.1; omega)
  have hAr : ArrOfT s cA (.array ty) := fun N9 z9 => by
    obtain ⟨-, k9, hk9, cm9, hkk9⟩ := (hO 0 0 0).1
    exact ⟨(fun q hq => by cases hq), k9, hk9, cm9, hkk9⟩
  have hK2 : va_K D cl (tys ++ [(cA, .array ty)]) s := ⟨hK.1, fun k9 x hx => by
    by_cases hl : k9 < tys.length
    · rw [List.getElem?_append_left hl] at hx
      exact hK.2 k9 x hx
    · rw [List.getElem?_append_right (by omega)] at hx
      have h0 : k9 - tys.length < 1 := (List.getElem?_eq_some_iff.mp hx).1
      rw [show k9 - tys.length = 0 by omega] at hx
      cases hx
      exact ⟨hAr, fA⟩⟩
  obtain ⟨t, a1, b1⟩ := kk H.size (fun i => H.size + 1 + i) cA F.heap (fun i j _ _ h => by have h9 : H.size + 1 + i = H.size + 1 + j := h; omega) hnl hK2 (by rw [← vr_rows hnm]; exact vr_lay hP2) (by rw [← vr_rows hnm]; exact vr_layD hD2) ⟨by rw [f1]; have := hS.1; omega, fun x h1 h2 => (hold x (Nat.lt_of_lt_of_le h1 hS.1)).trans (hS.2.1 x h1 h2), hS.2.2⟩ F rfl X'
  refine ⟨t, step t ?_, b1⟩
  have e : T.heap.size = H.size := by rw [hT]
  rw [e]
  exact a1
end VGM
/-! ===== END ===== -/

section HN4
variable {p : Program} {l : Launch} {e : Env} {R : Room} {s : State} {m : MethodId} {args : Array Value} {below : List Frame} {meth : Method} {c : Code} {H : Heap} {locs : List Loc} {cells slots : Nat} {Q : State → Prop}
variable {cc : ByteArray} {pc nL : Nat} {ls : Array Slot} {rest st0 : List Value} {D : va_G} {A : Nat → Prop} {own : String} {X : va_W} {b : Nat} {e0 : va_E}
variable {y : MethodName} {bytes : ByteArray} {maxL n index mc ms : Nat} {rm : Room} {As : List Value} {S : Type} {φ : S → Prop} {world : S → va_W} {tyf : S → List (ClassId × FieldType)}
/-- the constructor of the cell that stands last, one that is no private one -/
theorem hn_cIL (C0 : hn_C p s m args meth c D cc nL own A) (M : hn_K l D y (hh_wm y bytes maxL none) rm (.ref b :: As) [(b, e0)] mc ms φ world tyf) (hK : va_K D hh_cl [] s) (hP : va_P D hh_cl (X ++ [(b, e0)]) H) (hD : va_D A (X ++ [(b, e0)])) (hS : va_S A s.heap H locs)
    (hcode : Cond.code y bytes maxL none ∈ hh_wa) (hini : Cond.initialized y.cls ∈ hh_wa) (hlink : Cond.methodLink own index y ∈ hh_wa) (hinst : Cond.instanceMethod y ∈ hh_wa) (hi : y.name = "<init>") (hd : y.cls ≠ "java/lang/invoke/MethodHandle" ∧ y.cls ≠ "java/lang/invoke/VarHandle" ∧ (parseMethodDescriptor y.desc).map (fun d => d.parameters.length) = some n) (hrm : rm.cells = mc ∧ rm.slots = ms) (hRm : rm.frames + 1 ≤ R.frames ∧ 8 + (maxL + 11) + rm.locals ≤ R.locals) (hf : cells + mc ≤ R.cells ∧ slots + ms ≤ R.slots) (hn : As.length = n) (hsz : ls.size = nL) (hst0 : st0 = As.reverse ++ .ref b :: rest) (hst : (rest.map fun v => v.category).sum ≤ 8) (hdg : decode cc pc = .ok (.invokespecial index, 3))
    (kk : ∀ (u : S) (H1 : Heap) (locs1 : List Loc), φ u → va_P D hh_cl (X ++ world u) H1 → va_D A (X ++ world u) → va_K D hh_cl (tyf u) s → va_S A s.heap H1 locs1 → W p l e R s m args below meth c H1 locs1 (cells + mc) (slots + ms) Q (F0 m (pc + 3) ls rest)) : W p l e R s m args below meth c H locs cells slots Q (F0 m pc ls st0) :=
  hn_cI C0 M hK hP hD hS [X.length] (List.range X.length) hn_last hn_init rfl (hn_nd_of List.nodup_range) hn_dis hcode hini hlink hinst hi hd hrm hRm hf hn hsz hst0 hst hdg kk
end HN4
/-- the class of int[] is there, by the tables -/
theorem hn_int {D : va_G} {args : Array Value} {s : State} {tys : List (ClassId × FieldType)} (h : (Cond.arrayClass .int).before args s = true) (hK : va_K D hh_cl tys s) : ∃ c : ClassId, va_K D hh_cl [(c, .int)] s ∧ s.vm.findClass (FieldType.array .int).toString = some c := by
  obtain ⟨c, k, comp, h1, h2, h3⟩ := Cond.arrayClass_spec h
  refine ⟨c, ⟨hK.1, fun k9 q hk => ?_⟩, h1⟩
  have hz : k9 < 1 := (List.getElem?_eq_some_iff.mp hk).1
  have h0 : k9 = 0 := by omega
  subst h0
  cases hk
  exact ⟨fun N z => ⟨(fun q hq => by cases hq), k, h2, comp, h3⟩, h1⟩
/-- masts under way -/
def hn_XM (h0 qa : Nat) (cM : ClassId) (i : Nat) (a : Nat → Nat) : va_W := [(h0, .inr (4, [.ref qa, .null, .int 0])), (qa, .inl (cM, 6, .inr (.inr (.inr (.inr (hn_fl i a))))))] ++ (List.range i).map (fun k => (a k, .inr (3, [.int 0, .int 0, .int 0, .int 0, .int 0, .int 0, .int 0])))
theorem hn_XM_s {h0 qa : Nat} {cM : ClassId} {i q : Nat} {a : Nat → Nat} : (hn_XM h0 qa cM i a ++ ([(q, .inr (3, [.int 0, .int 0, .int 0, .int 0, .int 0, .int 0, .int 0]))] : va_W)).set 1 (qa, .inl (cM, 6, .inr (.inr (.inr (.inr (va_up (hn_fl i a) i (some q))))))) = hn_XM h0 qa cM (i + 1) (hn_ad a i q) := by
  rw [hn_fl_s]
  unfold hn_XM
  rw [hn_map_s (fun k => ((a k, .inr (3, [.int 0, .int 0, .int 0, .int 0, .int 0, .int 0, .int 0])) : Nat × va_E)) (fun k => ((hn_ad a i q k, .inr (3, [.int 0, .int 0, .int 0, .int 0, .int 0, .int 0, .int 0])) : Nat × va_E)) i (q, .inr (3, [.int 0, .int 0, .int 0, .int 0, .int 0, .int 0, .int 0])) (fun k hk => by simp [hn_ad, Nat.ne_of_lt hk]) (by simp [hn_ad])]
  rfl
abbrev hn_UM : Type := (Nat × Nat) × ((Nat → Nat) × (Nat → Nat)) × (ClassId × ClassId × ClassId)
def hn_WM (h0 : Nat) (u : hn_UM) : va_W := ([(h0, .inr (4, [.ref u.1.1, .ref u.1.2, .int 0])), (u.1.1, .inl (u.2.2.1, 6, .inr (.inr (.inr (.inr (hn_fl 6 u.2.1.1))))))] ++ (List.range 6).map (fun k => (u.2.1.1 k, .inr (3, [.int 0, .int 0, .int 0, .int 0, .int 0, .int 0, .int 0]))) ++ [(u.1.2, .inl (u.2.2.2.1, 6, .inr (.inr (.inr (.inr (hn_fl 6 u.2.1.2))))))]) ++ (List.range 6).map (fun k => (u.2.1.2 k, .inl (u.2.2.2.2, 100, .inl (fun _ => 0))))
def hn_TM (u : hn_UM) : List (ClassId × FieldType) := [(u.2.2.1, .object RX3), (u.2.2.2.1, .array .int), (u.2.2.2.2, .int)]
set_option maxHeartbeats 4000000 in
set_option maxRecDepth 100000 in
theorem hn_X4 (l : Launch) (D : va_G) (h0 : Nat) : hn_K l D yX4_init (hh_wm yX4_init cX4_init 2 none) { frames := 2, cells := 14, slots := 654, locals := 32 } [.ref h0] [(h0, .inr (4, [.null, .null, .int 0]))] 14 654 (fun _ : hn_UM => True) (hn_WM h0) hn_TM := by
  refine hn_of (by decide) rfl (Nat.le_of_ble_eq_true rfl) ?_
  intro p e s m args below meth c ls A C0 hK hP hD hS hl
  obtain ⟨hx, hb, hr, hml, hown, hts, hlk, hA, hN, hin⟩ := id C0
  have hl : lv_has ls 2 [(0, .ref h0)] := hl
  refine lv_aload_n hx hb dX4_init_0 rfl (lv_at hl 0 rfl) ?_
  refine hn_obj C0 hm_70 hm_2 hm_3 hl.1 dX4_init_1 (Nat.le_of_ble_eq_true rfl) (Nat.le_of_ble_eq_true rfl) ?_
  refine lv_aload_n hx hb dX4_init_4 rfl (lv_at hl 0 rfl) ?_
  refine lv_bipush (v := 6) hx hb dX4_init_5 (by decide) ?_
  refine va_newq (C := RX3) (N' := 6) hx hb hown (hts _ hm_71) hN.1 hK hP hD hS hA (by decide) rfl (by decide) (by decide) (by decide) dX4_init_7 (fun qa cM H hKM hP hD hS => ?_)
  have hP : va_P D hh_cl [(h0, .inr (4, [.null, .null, .int 0])), (qa, .inl (cM, 6, .inr (.inr (.inr (.inr (fun _ => none))))))] H := hP
  have hD : va_D A [(h0, .inr (4, [.null, .null, .int 0])), (qa, .inl (cM, 6, .inr (.inr (.inr (.inr (fun _ => none))))))] := hD
  refine W.widen (k := 1) (n := 6) (by omega) (by omega) ?_
  refine va_putF (D := D) (ci := 4) (v := .ref qa) (ty := .array (.object "Handoverhouse$Mast")) (C := RX4) (T := TX4) (N := 3) hx hb hts hh_uX4 tyX4 tyX4_ok nmX4 hown hK hP hD hS 0 rfl rfl 0 (by decide) (hts _ hm_72) (fun _ h9 => h9) rfl hin rfl (by decide +kernel) rfl rfl (Nat.le_of_ble_eq_true rfl) dX4_init_10 (fun H locs hP hD hS => ?_)
  have hP : va_P D hh_cl [(h0, .inr (4, [.ref qa, .null, .int 0])), (qa, .inl (cM, 6, .inr (.inr (.inr (.inr (fun _ => none))))))] H := hP
  have hD : va_D A [(h0, .inr (4, [.ref qa, .null, .int 0])), (qa, .inl (cM, 6, .inr (.inr (.inr (.inr (fun _ => none))))))] := hD
  refine lv_iconst (v := 0) hx hb dX4_init_13 (by decide) ?_
  refine lv_istore_n (lv' := [(1, .int 0), (0, .ref h0)]) hx hb dX4_init_14 rfl hl (by decide) rfl (fun ls hl => ?_)
  have hloop : ∀ (n i : Nat) (a : Nat → Nat) (H : Heap) (locs : List Loc) (ls : Array Slot), i ≤ 6 → 6 - i < n → va_P D hh_cl (hn_XM h0 qa cM i a) H → va_D A (hn_XM h0 qa cM i a) → va_S A s.heap H locs → lv_has ls 2 [(1, .int (nI i)), (0, .ref h0)] → W p l e ({ frames := 2, cells := 14, slots := 654, locals := 32 } : Room) s m args below meth c H locs (1 + i) (6 + 7 * i) (MQ below (va_Qv (fun _ : hn_UM => True) (fun u t => hn_B D A (hn_WM h0 u) (hn_TM u) t) A) args s 14 654 A) (F0 m 15 ls []) := by
    intro n
    induction n with
    | zero => intro i a H locs ls h1 h2; omega
    | succ n ih =>
      intro i a H locs ls hi hn hP hD hS hl
      refine lv_iload_n hx hb dX4_init_15 rfl (lv_at hl 0 rfl) ?_
      refine lv_bipush (v := 6) hx hb dX4_init_16 (by decide) ?_
      refine lv_icmp_ge (tgt := 40) hx hb dX4_init_18 (by decide) (fun c_18 => ?_) (fun c_18 => ?_)
      · have hi8 : 6 ≤ i := (nI_leI (a := 6) (b := i) (by omega) (by omega)).mp c_18
        have he : i = 6 := by omega
        subst he
        clear ih
        refine lv_aload_n hx hb dX4_init_40 rfl (lv_at hl 1 rfl) ?_
        refine lv_bipush (v := 6) hx hb dX4_init_41 (by decide) ?_
        refine lv_bipush (v := 100) hx hb dX4_init_43 (by decide) ?_
        obtain ⟨cy, hKy, hcy⟩ := hn_int (hts _ hm_75) hK
        have hP0 : va_P D hh_cl (hn_XM h0 qa cM 6 a ++ va_pl [] (fun _ => .inl (cy, 100, .inl (fun _ => 0)))) H := by rw [show va_pl [] (fun _ => .inl (cy, 100, .inl (fun _ => 0))) = [] from rfl, List.append_nil]; exact hP
        have hD0 : va_D A (hn_XM h0 qa cM 6 a ++ va_pl [] (fun _ => .inl (cy, 100, .inl (fun _ => 0)))) := by rw [show va_pl [] (fun _ => .inl (cy, 100, .inl (fun _ => 0))) = [] from rfl, List.append_nil]; exact hD
        refine va_mna (ty := .int) (N' := 6) (K' := 100) (z := (100, .inl (fun _ => 0))) hx hb hown (by rw [show "[" ++ (FieldType.array .int).toString = "[[I" from by decide]; exact hts _ hm_74) hN.2.2.2.1 (hts _ hm_75) hcy hK hP0 hD0 hS hA (by decide) (by decide) rfl rfl (by decide) (by decide) (by decide) rfl rfl (by decide) (by decide) (fun c9 => by show ({ cls := c9, slots := Array.replicate 100 (.int 0), vm := .none } : Cell) = _; rw [arrV_new]; rfl) dX4_init_45 (fun qb rr cII H hinj hnl hKII hP hD hS => ?_)
        have hrw : (hn_XM h0 qa cM 6 a ++ [(qb, (.inl (cII, 6, .inr (.inr (.inr (.inr (fun i => if i < 6 then some (rr i) else none))))) : va_E))]) ++ va_pl ([] ++ (List.range 6).map rr) (vr_up (fun _ => .inl (cy, 100, .inl (fun _ => 0))) ((List.range 6).map rr) (.inl (cy, (100, .inl (fun _ => 0))))) = (hn_XM h0 qa cM 6 a ++ [(qb, .inl (cII, 6, .inr (.inr (.inr (.inr (hn_fl 6 rr))))))]) ++ (List.range 6).map (fun k => (rr k, .inl (cy, 100, .inl (fun _ => 0)))) := by
          congr 1
          unfold va_pl
          rw [List.nil_append, List.map_map]
          apply List.map_congr_left
          intro k hk
          show (rr k, vr_up _ _ _ (rr k)) = _
          rw [vr_up_in (List.mem_map_of_mem hk)]
        rw [hrw] at hP hD
        refine va_putF (D := D) (ci := 4) (v := .ref qb) (ty := .array (.array .int)) (C := RX4) (T := TX4) (N := 3) (fs := [.ref qa, .null, .int 0]) hx hb hts hh_uX4 tyX4 tyX4_ok nmX4 hown hK hP hD hS 0 rfl rfl 1 (by decide) (hts _ hm_76) (fun _ h9 => h9) rfl hin rfl (by decide +kernel) rfl rfl (Nat.le_of_ble_eq_true rfl) dX4_init_49 (fun H locs hP hD hS => ?_)
        exact hn_vret (u := ((qa, qb), (a, rr), (cM, cII, cy))) C0 hP hD (va_K.app hKM (va_K.app hKII hKy)) hS dX4_init_52 trivial
      · have hlt : i < 6 := Nat.not_le.mp (fun z => c_18 ((nI_leI (a := 6) (b := i) (by omega) (by omega)).mpr z))
        refine lv_aload_n hx hb dX4_init_21 rfl (lv_at hl 1 rfl) ?_
        refine va_get (D := D) (ci := 4) (v := .ref qa) (fs := [.ref qa, .null, .int 0]) (C := RX4) (T := TX4) (N := 3) hx hb hts hh_uX4 hown hK hP 0 rfl rfl 0 (by decide) (hts _ hm_72) (fun _ h9 => h9) rfl dX4_init_22 ?_
        refine lv_iload_n hx hb dX4_init_25 rfl (lv_at hl 0 rfl) ?_
        refine va_new (ci := 3) (fs := [.int 0, .int 0, .int 0, .int 0, .int 0, .int 0, .int 0]) (C := RX3) (T := TX3) (N := 7) hx hb hts hh_uX3 tyX3 tyX3_ok hown (hts _ hm_71) (hts _ hm_73) (hts _ hm_63) hK hP hD hS hA rfl (fun j hj => by rcases (show j = 0 ∨ j = 1 ∨ j = 2 ∨ j = 3 ∨ j = 4 ∨ j = 5 ∨ j = 6 by omega) with rfl | rfl | rfl | rfl | rfl | rfl | rfl <;> rfl) (by show 1 + i + 1 ≤ 14; omega) (by show 6 + 7 * i + 7 ≤ 654; omega) dX4_init_26 (fun q H hP hD hS => ?_)
        refine lv_dup hx hb dX4_init_29 rfl ?_
        refine hn_cNL C0 (As := []) (rest := [.ref q, .int (nI i), .ref qa]) (n := 0) (hn_X3 l D q) hK hP hD hS hm_53 hm_63 hN.2.2.2.2.1 hm_77 rfl (by decide +kernel) ⟨rfl, rfl⟩ ⟨Nat.le_of_ble_eq_true rfl, Nat.le_of_ble_eq_true rfl⟩ ⟨by show 1 + i + 1 + 0 ≤ 14; omega, by show 6 + 7 * i + 7 + 0 ≤ 654; omega⟩ rfl hl.1 rfl (Nat.le_of_ble_eq_true rfl) dX4_init_30 (fun u H locs hw hP hD hK9 hS => ?_)
        refine va_astq (D := D) (r := (RX3, TX3, 7)) (f := hn_fl i a) (vs := [.int 0, .int 0, .int 0, .int 0, .int 0, .int 0, .int 0]) hx hb hKM hP hD hS 1 0 (hn_XM h0 qa cM i a).length 3 rfl rfl (by simp) rfl (vp_in_nI hlt (by decide)) dX4_init_33 (fun H locs hP hD hS => ?_)
        rw [nI_clamp (by omega)] at hP hD
        rw [hn_XM_s] at hP hD
        refine lv_iinc (v := nI (i + 1)) (lv' := [(1, .int (nI (i + 1))), (0, .ref h0)]) hx hb dX4_init_34 hl (k := 0) rfl (nI_1 i) (by decide) rfl (fun ls hl => ?_)
        refine lv_goto (tgt := 15) hx hb dX4_init_37 (by decide) ?_
        refine W.widen (k := 1 + (i + 1)) (n := 6 + 7 * (i + 1)) (by omega) (by omega) ?_
        exact ih (i + 1) _ _ _ _ (by omega) (by omega) hP hD hS hl
  have hP : va_P D hh_cl (hn_XM h0 qa cM 0 id) H := by unfold hn_XM; rw [← hn_fl_0]; exact hP
  have hD : va_D A (hn_XM h0 qa cM 0 id) := by unfold hn_XM; rw [← hn_fl_0]; exact hD
  exact hloop 7 0 id _ _ _ (by omega) (by omega) hP hD hS hl
