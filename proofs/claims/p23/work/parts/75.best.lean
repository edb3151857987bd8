/-! the reference on a road with two masts (frequencies 0 and 2): rows of qualities, the best place for 30 and 1 (wip/gen/mkt3.py) -/
/-- the row of rows of an array of arrays: its component's class -/
def hr_A2 (U : State) (c1 : ClassId) : Prop := ∃ (kA : Class) (comp : ClassId), U.vm.classes[c1]? = some kA ∧ kA.kind = .array comp (.array .int) ∧ U.vm.findClass (FieldType.array .int).toString = some comp
theorem hr_intK {D : va_G} {s : State} {c2 cA : ClassId} (h1 : va_K D hr_cl [(c2, .int)] s) (h2 : va_K D hr_cl [(cA, .int)] s) : cA = c2 := by
  have a1 := hn_RA (h1.2 0 (c2, .int) rfl).2
  have a2 := hn_RA (h2.2 0 (cA, .int) rfl).2
  rw [a1] at a2
  exact (Option.some.inj a2).symm
theorem hr_int {D : va_G} {args : Array Value} {s : State} (h : (Cond.arrayClass .int).before args s = true) (hK : va_K D hr_cl [] s) : ∃ c : ClassId, va_K D hr_cl [(c, .int)] s := by
  obtain ⟨c, k, comp, h1, h2, h3⟩ := Cond.arrayClass_spec h
  refine ⟨c, ⟨hK.1, fun k9 q hk => ?_⟩⟩
  have hz : k9 < 1 := (List.getElem?_eq_some_iff.mp hk).1
  have h0 : k9 = 0 := by omega
  subst h0
  cases hk
  exact ⟨fun N z => ⟨(fun q hq => by cases hq), k, h2, comp, h3⟩, h1⟩
theorem hr_K2 {D : va_G} {s : State} {c1 c2 : ClassId} {t1 t2 : FieldType} (h1 : va_K D hr_cl [(c1, t1)] s) (h2 : va_K D hr_cl [(c2, t2)] s) : va_K D hr_cl [(c1, t1), (c2, t2)] s := by
  refine ⟨h1.1, fun k q hk => ?_⟩
  match k, hk with
  | 0, hk => exact h1.2 0 q hk
  | 1, hk => exact h2.2 0 q hk
  | k + 2, hk => simp at hk
section HRB
variable {p : Program} {l : Launch} {e : Env} {R : Room} {s : State} {m : MethodId} {args : Array Value} {below : List Frame} {meth : Method} {c : Code} {H : Heap} {locs : List Loc} {cells slots : Nat} {Q : State → Prop}
variable {cc : ByteArray} {pc nL : Nat} {ls : Array Slot} {rest st0 : List Value} {D : va_G} {z : Nat} {A : Nat → Prop} {ret : Option FieldType} {own nm : String} {Y Y' : va_W}
theorem hs_newA (C0 : hr_C p s m args meth c D z cc nL ret own nm A) (hp : hr_H D A s.heap Y H locs) {index : Nat} (hw : Cond.classLink own index (FieldType.array .int).toString ∈ hr_wa) {i : Int32} {n : Nat} (h0 : ¬ i < 0) (hN : i.toNatClampNeg = n) (hn : n ≤ 100) (hcells : cells + 1 ≤ R.cells) (hslots : slots + n ≤ R.slots) (hdg : decode cc pc = .ok (.anewarray index, 3))
    (kk : ∀ (q : Nat) (cA : ClassId) (H1 : Heap), va_K D hr_cl [(cA, .array .int)] s → hr_A2 s cA → H.size + 1 ≤ H1.size → hr_H D A s.heap (Y ++ [(q, .inl (cA, n, .inr (.inr (.inr (.inr (fun _ => none))))))]) H1 locs → W p l e R s m args below meth c H1 locs (cells + 1) (slots + n) Q (F0 m (pc + 3) ls (.ref q :: rest))) : W p l e R s m args below meth c H locs cells slots Q (F0 m pc ls (.int i :: rest)) := by
  obtain ⟨hx, hb, hr, hml, hown, hts, hK, hlk, hA, hN9, -⟩ := C0
  obtain ⟨hP, hD, hS⟩ := hp
  subst hN
  refine W.anewA (t := .int) hx hb hown (hts _ hw) (by exact hN9.1.2.2.2.2.2.1) rfl hdg rfl h0 (by omega) hcells hslots fun cA kA comp f1 f2 f3 f4 => ?_
  generalize hH1 : H.push ({ cls := cA, slots := Array.replicate i.toNatClampNeg .null, vm := .none } : Cell) = H1
  have z1 : H1.size = H.size + 1 := by rw [← hH1, Array.size_push]
  have e1 : H1[H.size]? = some (arrV cA i.toNatClampNeg (fun _ => .null)) := by rw [← hH1, Array.getElem?_push_size, ← arrV_new]
  have o1 : ∀ q : Nat, q < H.size → H1[q]? = H[q]? := fun q hq => by rw [← hH1, Array.getElem?_push, if_neg (Nat.ne_of_lt hq)]
  have hAr : ArrOfT s cA (.array .int) := fun N z => ⟨(fun k h => by cases h), kA, f2, comp, f3⟩
  have hk : ∀ (k : Nat) (x : Nat × va_E), Y[k]? = some x → H1[x.1]? = H[x.1]? := fun k x hx => o1 x.1 ((hP k x hx).lt)
  refine kk H.size cA H1 ⟨hK.1, fun k x hx => ?_⟩ ⟨kA, comp, f2, f3, f4⟩ (by omega) ⟨(hP.kept hk).app (fun k x hx => ?_), hD.push hP rfl (hA _ hS.1), ⟨Nat.le_trans hS.1 (by omega), fun x h1 h2 => (o1 x (Nat.lt_of_lt_of_le h1 hS.1)).trans (hS.2.1 x h1 h2), hS.2.2⟩⟩
  · have hz : k < 1 := (List.getElem?_eq_some_iff.mp hx).1
    have h0 : k = 0 := by omega
    subst h0
    cases hx
    exact ⟨hAr, f1⟩
  · have hz : k < 1 := (List.getElem?_eq_some_iff.mp hx).1
    have h0 : k = 0 := by omega
    subst h0
    cases hx
    show H1[H.size]? = some (vp_cell _ _)
    rw [e1, vp_cell_q]
    rfl
theorem hs_aastI (C0 : hr_C p s m args meth c D z cc nL ret own nm A) {c1 c2 : ClassId} (hA2 : hr_A2 s c1) (hK2 : va_K D hr_cl [(c2, .int)] s) (hp : hr_H D A s.heap Y H locs) {q0 qk a v n n2 k' : Nat} {g : Nat → Int32} {f : Nat → Option Nat} (ha : Y[q0]? = some (a, .inl (c1, n, .inr (.inr (.inr (.inr f)))))) (hv : Y[qk]? = some (v, .inl (c2, n2, .inl g))) {i : Int32} (hin : vp_in i n) (hk : i.toNatClampNeg = k') (hY : Y.set q0 (a, .inl (c1, n, .inr (.inr (.inr (.inr (va_up f k' (some v))))))) = Y') (hdg : decode cc pc = .ok (.aastore, 1))
    (kk : ∀ (H1 : Heap) (locs : List Loc), H.size + 0 ≤ H1.size → hr_H D A s.heap Y' H1 locs → W p l e R s m args below meth c H1 locs cells slots Q (F0 m (pc + 1) ls rest)) : W p l e R s m args below meth c H locs cells slots Q (F0 m pc ls (.ref v :: .int i :: .ref a :: rest)) := by
  obtain ⟨hx, hb, hr, hml, hown, hts, hK, hlk, hA, -, -⟩ := C0
  obtain ⟨hP, hD, hS⟩ := hp
  subst hk
  subst hY
  have hlt : i.toNatClampNeg < n := Nat.not_le.mp fun q => hin (Or.inr q)
  have h0 : ¬ i < 0 := fun q => hin (Or.inl q)
  obtain ⟨kA, comp, k1, k2, k3⟩ := hA2
  have hc2 := hn_RA (hK2.2 0 (c2, .int) rfl).2
  have hcomp : comp = c2 := Option.some.inj (k3.symm.trans hc2)
  subst hcomp
  obtain ⟨-, k9, hk9, -⟩ := (hK2.2 0 (comp, .int) rfl).1 0 (fun _ => .null)
  refine W.aast hx hb (hP q0 _ ha) (fun q h => by cases h) (fun h => by cases h) k1 k2 rfl hk9 ⟨h0, by show _ < (arrV _ _ _).slots.size; rw [arrV_size]; exact hlt⟩ (hP qk _ hv) (fun q h => by cases h) hk9 (va_asg _ _) rfl rfl hdg fun H1 e z oq => ?_
  refine kk H1 _ (by omega) ⟨hP.set hD ha ?_ oq, hD.set ha, hS.put z oq (hD.2 q0 _ ha)⟩
  show H1[a]? = some (vp_cell _ _)
  rw [e]
  rw [vp_cell_q, vp_cell_q, arrV_store]
  congr 2
  funext q
  by_cases hq : q = i.toNatClampNeg
  · subst hq
    simp [updV, va_up, va_rf]
  · simp [updV, va_up, hq]
theorem hr_aalA (C0 : hr_C p s m args meth c D z cc nL ret own nm A) {tys : List (ClassId × FieldType)} {c1 : ClassId} (hK1 : va_K D hr_cl tys s) (t0 : Nat) (ht : tys[t0]? = some (c1, .array .int)) (hp : hr_H D A s.heap Y H locs) {q0 a n k' r : Nat} {f : Nat → Option Nat} (ha : Y[q0]? = some (a, .inl (c1, n, .inr (.inr (.inr (.inr f)))))) {i : Int32} (hin : vp_in i n) (hk : i.toNatClampNeg = k') (hf : f k' = some r) (hdg : decode cc pc = .ok (.aaload, 1))
    (kk : W p l e R s m args below meth c H locs cells slots Q (F0 m (pc + 1) ls (.ref r :: rest))) : W p l e R s m args below meth c H locs cells slots Q (F0 m pc ls (.int i :: .ref a :: rest)) := by
  obtain ⟨hx, hb, -, hml, hown, hts, hK, hlk, hA, -, -⟩ := C0
  subst hk
  have hlt : i.toNatClampNeg < n := Nat.not_le.mp fun q => hin (Or.inr q)
  refine W.aald (v := va_rf (f i.toNatClampNeg)) (ty := .array .int) hx hb (hp.1 q0 _ ha) ((hK1.2 t0 _ ht).1 n (fun i => va_rf (f i))) rfl (fun q => by cases q) (by show ¬ (i < 0 ∨ (arrV _ _ _).slots.size ≤ _); rw [arrV_size]; exact hin) (by show (arrV _ _ _).slots[_]? = _; rw [arrV_read _ _ hlt]) rfl rfl hdg ?_
  rw [hf]
  exact kk
end HRB
def hs_gd (g : Nat → Nat → Int32) (n : Nat) (f : Nat → Int32) : Nat → Nat → Int32 := fun k => if k = n then f else g k
/-- n rows of three places each, in a row -/
def hs_R (q : Nat) (c1 c2 : ClassId) (n : Nat) (ad : Nat → Nat) (g : Nat → Nat → Int32) : va_W := (q, .inl (c1, 100, .inr (.inr (.inr (.inr (hn_fl n ad)))))) :: (List.range n).map (fun k => ((ad k, .inl (c2, 3, .inl (g k))) : Nat × va_E))
theorem hs_R_s {a : Nat → Nat} {z : Nat} {cO : ClassId} {pp : Nat → Int32} {th : Int32} {q q' : Nat} {c1 c2 : ClassId} {n : Nat} {ad : Nat → Nat} {g : Nat → Nat → Int32} {f : Nat → Int32} : (hs_Y a z cO pp th ++ (hs_R q c1 c2 n ad g ++ ([(q', .inl (c2, 3, .inl f))] : va_W))).set 9 (q, .inl (c1, 100, .inr (.inr (.inr (.inr (va_up (hn_fl n ad) n (some q'))))))) = hs_Y a z cO pp th ++ hs_R q c1 c2 (n + 1) (hn_ad ad n q') (hs_gd g n f) := by
  rw [hn_fl_s]
  unfold hs_R
  rw [hn_map_s (fun k => ((ad k, .inl (c2, 3, .inl (g k))) : Nat × va_E)) (fun k => ((hn_ad ad n q' k, .inl (c2, 3, .inl (hs_gd g n f k))) : Nat × va_E)) n (q', .inl (c2, 3, .inl f)) (fun k hk => by simp [hn_ad, hs_gd, Nat.ne_of_lt hk]) (by simp [hn_ad, hs_gd])]
  rfl
theorem hs_R_len {q : Nat} {c1 c2 : ClassId} {n : Nat} {ad : Nat → Nat} {g : Nat → Nat → Int32} : (hs_R q c1 c2 n ad g).length = n + 1 := by simp [hs_R]
theorem hs_R_at {a : Nat → Nat} {z : Nat} {cO : ClassId} {pp : Nat → Int32} {th : Int32} {q : Nat} {c1 c2 : ClassId} {n : Nat} {ad : Nat → Nat} {g : Nat → Nat → Int32} {x : Nat × va_E} : (hs_Y a z cO pp th ++ (hs_R q c1 c2 n ad g ++ [x]))[9 + (n + 1)]? = some x := hr_at (a := hs_Y a z cO pp th) (k := n + 1) (by rw [List.getElem?_append_right (by simp [hs_R])]; simp [hs_R])
theorem hs_R_set {a : Nat → Nat} {z : Nat} {cO : ClassId} {pp : Nat → Int32} {th : Int32} {q : Nat} {c1 c2 : ClassId} {n : Nat} {ad : Nat → Nat} {g : Nat → Nat → Int32} {x y : Nat × va_E} : (hs_Y a z cO pp th ++ (hs_R q c1 c2 n ad g ++ [x])).set (9 + (n + 1)) y = hs_Y a z cO pp th ++ (hs_R q c1 c2 n ad g ++ [y]) := by
  have h8 : (hs_Y a z cO pp th).length = 9 := rfl
  rw [List.set_append_right _ _ (by rw [h8]; omega), h8, Nat.add_sub_cancel_left, List.set_append_right _ _ (by rw [hs_R_len]; omega), hs_R_len, Nat.sub_self]
  rfl
theorem hs_R_row {q : Nat} {c1 c2 : ClassId} {n i : Nat} {ad : Nat → Nat} {g : Nat → Nat → Int32} (h : i < n) : (hs_R q c1 c2 n ad g)[i + 1]? = some (ad i, .inl (c2, 3, .inl (g i))) := by
  unfold hs_R
  rw [List.getElem?_cons_succ, List.getElem?_map, List.getElem?_range h]
  rfl
theorem hs_K3 {D : va_G} {s : State} {c0 c1 c2 : ClassId} {t0 t1 t2 : FieldType} (h0 : va_K D hr_cl [(c0, t0)] s) (h1 : va_K D hr_cl [(c1, t1)] s) (h2 : va_K D hr_cl [(c2, t2)] s) : va_K D hr_cl [(c0, t0), (c1, t1), (c2, t2)] s := by
  refine ⟨h1.1, fun k q hk => ?_⟩
  match k, hk with
  | 0, hk => exact h0.2 0 q hk
  | 1, hk => exact h1.2 0 q hk
  | 2, hk => exact h2.2 0 q hk
  | k + 3, hk => simp at hk
set_option maxHeartbeats 4000000 in
set_option maxRecDepth 100000 in
/-- isCovered -/
theorem hs_isCovered (l : Launch) (D : va_G) (a : Nat → Nat) (z : Nat) (cO : ClassId) (pp : Nat → Int32) (th : Int32) (X : va_W) (r9 kx : Nat) (cI : ClassId) (f9 : Nat → Int32) (hX9 : X[kx]? = some (r9, .inl (cI, 3, .inl f9))) (p0 : Int32) : hs_Ki l D z [(cO, .object "java/lang/Object"), (cI, .int)] yX12_isCovered (hr_wm yX12_isCovered cX12_isCovered 8 (some .boolean)) { frames := 3, cells := 0, slots := 0, locals := 64 } [.ref (a 0), .ref r9, .int p0, .int 1] (hs_Y a z cO pp th ++ X) 0 0 0 (fun (_ : Int32) (_ : Unit) => True) (fun _ => hs_Y a z cO pp th ++ X) := by
  refine hs_Ki_of (by decide) (Nat.le_of_ble_eq_true rfl) ?_
  intro p e s m args below meth c ls A hAe C0 hKT hp hl
  obtain ⟨hx, hb, hr9, hml, hown, hts, hK, hlk, hA, hN, hnm9⟩ := id C0
  have hl : lv_has ls 8 [(0, .ref (a 0)), (1, .ref r9), (2, .int p0), (3, .int 1)] := hl
  refine lv_aload_n hx hb dX12_isCovered_0 rfl (lv_at hl 0 rfl) ?_
  refine hr_get C0 hp (q0 := 0) (C := RX12) (T := TX12) (N := 4) (ci := 2) rfl rfl hr_uX12 1 (by decide) hw_126 (fun _ h9 => h9) rfl dX12_isCovered_1 ?_
  refine hr_get C0 hp (q0 := 1) (C := RX11) (T := TX11) (N := 5) (ci := 1) rfl rfl hr_uX11 0 (by decide) hw_136 (fun _ h9 => h9) rfl dX12_isCovered_4 ?_
  refine hs_cVi C0 (hKT.sub [0] rfl) hp (q0 := 2) (ci := 0) (Cn := RJx4a65c) (T := TJx4a65c) (N := 3) (rest := []) (n := 0) (X) (hs_size_2 l D a z cO pp th) rfl rfl rfl (hr_gV hw_144 hw_107 hw_108 hw_20 hw_109) ⟨rfl, rfl⟩ (by decide +kernel) ⟨Nat.le_of_ble_eq_true rfl, Nat.le_of_ble_eq_true rfl⟩ ⟨Nat.le_of_ble_eq_true rfl, Nat.le_of_ble_eq_true rfl⟩ hl.1 rfl rfl (Nat.le_of_ble_eq_true rfl) dX12_isCovered_7 (fun q_7 u_7 H locs hv_7 hz9 hp => ?_)
  subst hv_7
  have hp : hr_H D A s.heap (hs_Y a z cO pp th ++ (X)) H _ := hp
  refine lv_istore (lv' := [(4, .int 2), (0, .ref (a 0)), (1, .ref r9), (2, .int p0), (3, .int 1)]) hx hb dX12_isCovered_10 hl (by decide) rfl (fun ls hl => ?_)
  refine lv_iload_n hx hb dX12_isCovered_12 rfl (lv_at hl 3 rfl) ?_
  refine lv_aload_n hx hb dX12_isCovered_13 rfl (lv_at hl 2 rfl) ?_
  refine lv_iload hx hb dX12_isCovered_14 (lv_at hl 0 rfl) ?_
  refine hr_ial C0 (hKT.sub [1] rfl) hp (q0 := 9 + kx) (n := 3) (f := f9) (k' := 2) (hr_at (a := hs_Y a z cO pp th) hX9) (by unfold vp_in; decide) (by decide) dX12_isCovered_16 ?_
  refine lv_isub hx hb dX12_isCovered_17 ?_
  refine lv_iconst (v := 5) hx hb dX12_isCovered_18 (by decide) ?_
  refine lv_icmp_lt (tgt := 24) hx hb dX12_isCovered_19 (by decide) (fun c1 => ?_) (fun c1 => ?_)
  · refine lv_iconst (v := 0) hx hb dX12_isCovered_24 (by decide) ?_
    refine lv_istore (lv' := [(5, .int 0), (4, .int 2), (0, .ref (a 0)), (1, .ref r9), (2, .int p0), (3, .int 1)]) hx hb dX12_isCovered_25 hl (by decide) rfl (fun ls hl => ?_)
    refine lv_iload hx hb dX12_isCovered_27 (lv_at hl 0 rfl) ?_
    refine lv_iload hx hb dX12_isCovered_29 (lv_at hl 1 rfl) ?_
    refine lv_icmp_ge (tgt := 100) hx hb dX12_isCovered_31 (by decide) (fun c9 => absurd c9 (by decide)) (fun _ => ?_)
    refine lv_aload_n hx hb dX12_isCovered_34 rfl (lv_at hl 2 rfl) ?_
    refine hr_get C0 hp (q0 := 0) (C := RX12) (T := TX12) (N := 4) (ci := 2) rfl rfl hr_uX12 1 (by decide) hw_126 (fun _ h9 => h9) rfl dX12_isCovered_35 ?_
    refine hr_get C0 hp (q0 := 1) (C := RX11) (T := TX11) (N := 5) (ci := 1) rfl rfl hr_uX11 0 (by decide) hw_136 (fun _ h9 => h9) rfl dX12_isCovered_38 ?_
    refine lv_iload hx hb dX12_isCovered_41 (lv_at hl 0 rfl) ?_
    refine hs_cVr C0 (hKT.sub [0] rfl) hp (q0 := 2) (ci := 0) (Cn := RJx4a65c) (T := TJx4a65c) (N := 3) (rest := []) (n := 1) (X) (hs_get_0 l D a z cO pp th) rfl rfl rfl (hr_gV hw_190 hw_49 hw_50 hw_20 hw_51) ⟨rfl, rfl⟩ (by decide +kernel) ⟨Nat.le_of_ble_eq_true rfl, Nat.le_of_ble_eq_true rfl⟩ ⟨Nat.le_of_ble_eq_true rfl, Nat.le_of_ble_eq_true rfl⟩ hl.1 rfl rfl (Nat.le_of_ble_eq_true rfl) dX12_isCovered_43 (fun u_43 q_43 H locs hv_43 hk_43 hz9 hp => ?_)
    subst hv_43
    have hp : hr_H D A s.heap (hs_Y a z cO pp th ++ (X)) H _ := hp
    refine hs_cast C0 hp (q0 := 7) (ci := 3) (Cn := RX9) (T := TX9) (N := 9) rfl rfl hw_176 dX12_isCovered_46 ?_
    refine lv_astore (lv' := [(6, .ref (a 7)), (5, .int 0), (4, .int 2), (0, .ref (a 0)), (1, .ref r9), (2, .int p0), (3, .int 1)]) hx hb dX12_isCovered_49 hl (by decide) rfl (fun ls hl => ?_)
    refine lv_aload hx hb dX12_isCovered_51 (lv_at hl 0 rfl) ?_
    refine hr_get C0 hp (q0 := 7) (C := RX9) (T := TX9) (N := 9) (ci := 3) rfl rfl hr_uX9 6 (by decide) hw_187 (fun _ h9 => h9) rfl dX12_isCovered_53 ?_
    refine lv_if_eq (tgt := 78) hx hb dX12_isCovered_56 (by decide) (fun c9 => absurd c9 (by decide)) (fun _ => ?_)
    refine lv_aload hx hb dX12_isCovered_59 (lv_at hl 0 rfl) ?_
    refine hr_get C0 hp (q0 := 7) (C := RX9) (T := TX9) (N := 9) (ci := 3) rfl rfl hr_uX9 2 (by decide) hw_183 (fun _ h9 => h9) rfl dX12_isCovered_61 ?_
    refine lv_iload_n hx hb dX12_isCovered_64 rfl (lv_at hl 6 rfl) ?_
    refine lv_icmp_ne (tgt := 78) hx hb dX12_isCovered_65 (by decide) (fun _ => ?_) (fun c9 => absurd c9 (by decide))
    refine lv_iconst (v := 0) hx hb dX12_isCovered_78 (by decide) ?_
    refine lv_istore (lv' := [(7, .int 0), (6, .ref (a 7)), (5, .int 0), (4, .int 2), (0, .ref (a 0)), (1, .ref r9), (2, .int p0), (3, .int 1)]) hx hb dX12_isCovered_79 hl (by decide) rfl (fun ls hl => ?_)
    refine lv_aload_n hx hb dX12_isCovered_81 rfl (lv_at hl 5 rfl) ?_
    refine lv_iload hx hb dX12_isCovered_82 (lv_at hl 2 rfl) ?_
    refine hr_ial C0 (hKT.sub [1] rfl) hp (q0 := 9 + kx) (n := 3) (f := f9) (k' := 0) (hr_at (a := hs_Y a z cO pp th) hX9) (by unfold vp_in; decide) (by decide) dX12_isCovered_84 ?_
    refine lv_iload hx hb dX12_isCovered_85 (lv_at hl 0 rfl) ?_
    refine lv_isub hx hb dX12_isCovered_87 ?_
    refine lv_iconst (v := 5) hx hb dX12_isCovered_88 (by decide) ?_
    refine lv_icmp_lt (tgt := 94) hx hb dX12_isCovered_89 (by decide) (fun c2 => ?_) (fun c2 => ?_)
    · refine lv_iinc (v := 1) (lv' := [(5, .int 1), (7, .int 0), (6, .ref (a 7)), (4, .int 2), (0, .ref (a 0)), (1, .ref r9), (2, .int p0), (3, .int 1)]) hx hb dX12_isCovered_94 hl (k := 2) rfl (by decide) (by decide) rfl (fun ls hl => ?_)
      refine lv_goto (tgt := 27) hx hb dX12_isCovered_97 (by decide) ?_
      refine lv_iload hx hb dX12_isCovered_27 (lv_at hl 0 rfl) ?_
      refine lv_iload hx hb dX12_isCovered_29 (lv_at hl 3 rfl) ?_
      refine lv_icmp_ge (tgt := 100) hx hb dX12_isCovered_31 (by decide) (fun c9 => absurd c9 (by decide)) (fun _ => ?_)
      refine lv_aload_n hx hb dX12_isCovered_34 rfl (lv_at hl 4 rfl) ?_
      refine hr_get C0 hp (q0 := 0) (C := RX12) (T := TX12) (N := 4) (ci := 2) rfl rfl hr_uX12 1 (by decide) hw_126 (fun _ h9 => h9) rfl dX12_isCovered_35 ?_
      refine hr_get C0 hp (q0 := 1) (C := RX11) (T := TX11) (N := 5) (ci := 1) rfl rfl hr_uX11 0 (by decide) hw_136 (fun _ h9 => h9) rfl dX12_isCovered_38 ?_
      refine lv_iload hx hb dX12_isCovered_41 (lv_at hl 0 rfl) ?_
      refine hs_cVr C0 (hKT.sub [0] rfl) hp (q0 := 2) (ci := 0) (Cn := RJx4a65c) (T := TJx4a65c) (N := 3) (rest := []) (n := 1) (X) (hs_get_1 l D a z cO pp th) rfl rfl rfl (hr_gV hw_190 hw_49 hw_50 hw_20 hw_51) ⟨rfl, rfl⟩ (by decide +kernel) ⟨Nat.le_of_ble_eq_true rfl, Nat.le_of_ble_eq_true rfl⟩ ⟨Nat.le_of_ble_eq_true rfl, Nat.le_of_ble_eq_true rfl⟩ hl.1 rfl rfl (Nat.le_of_ble_eq_true rfl) dX12_isCovered_43 (fun u_43 q_43 H locs hv_43 hk_43 hz9 hp => ?_)
      subst hv_43
      have hp : hr_H D A s.heap (hs_Y a z cO pp th ++ (X)) H _ := hp
      refine hs_cast C0 hp (q0 := 8) (ci := 3) (Cn := RX9) (T := TX9) (N := 9) rfl rfl hw_176 dX12_isCovered_46 ?_
      refine lv_astore (lv' := [(6, .ref (a 8)), (5, .int 1), (7, .int 0), (4, .int 2), (0, .ref (a 0)), (1, .ref r9), (2, .int p0), (3, .int 1)]) hx hb dX12_isCovered_49 hl (by decide) rfl (fun ls hl => ?_)
      refine lv_aload hx hb dX12_isCovered_51 (lv_at hl 0 rfl) ?_
      refine hr_get C0 hp (q0 := 8) (C := RX9) (T := TX9) (N := 9) (ci := 3) rfl rfl hr_uX9 6 (by decide) hw_187 (fun _ h9 => h9) rfl dX12_isCovered_53 ?_
      refine lv_if_eq (tgt := 78) hx hb dX12_isCovered_56 (by decide) (fun c9 => absurd c9 (by decide)) (fun _ => ?_)
      refine lv_aload hx hb dX12_isCovered_59 (lv_at hl 0 rfl) ?_
      refine hr_get C0 hp (q0 := 8) (C := RX9) (T := TX9) (N := 9) (ci := 3) rfl rfl hr_uX9 2 (by decide) hw_183 (fun _ h9 => h9) rfl dX12_isCovered_61 ?_
      refine lv_iload_n hx hb dX12_isCovered_64 rfl (lv_at hl 7 rfl) ?_
      refine lv_icmp_ne (tgt := 78) hx hb dX12_isCovered_65 (by decide) (fun _ => ?_) (fun c9 => absurd c9 (by decide))
      refine lv_iconst (v := 0) hx hb dX12_isCovered_78 (by decide) ?_
      refine lv_istore (lv' := [(7, .int 0), (6, .ref (a 8)), (5, .int 1), (4, .int 2), (0, .ref (a 0)), (1, .ref r9), (2, .int p0), (3, .int 1)]) hx hb dX12_isCovered_79 hl (by decide) rfl (fun ls hl => ?_)
      refine lv_aload_n hx hb dX12_isCovered_81 rfl (lv_at hl 5 rfl) ?_
      refine lv_iload hx hb dX12_isCovered_82 (lv_at hl 2 rfl) ?_
      refine hr_ial C0 (hKT.sub [1] rfl) hp (q0 := 9 + kx) (n := 3) (f := f9) (k' := 1) (hr_at (a := hs_Y a z cO pp th) hX9) (by unfold vp_in; decide) (by decide) dX12_isCovered_84 ?_
      refine lv_iload hx hb dX12_isCovered_85 (lv_at hl 0 rfl) ?_
      refine lv_isub hx hb dX12_isCovered_87 ?_
      refine lv_iconst (v := 5) hx hb dX12_isCovered_88 (by decide) ?_
      refine lv_icmp_lt (tgt := 94) hx hb dX12_isCovered_89 (by decide) (fun c3 => ?_) (fun c3 => ?_)
      · refine lv_iinc (v := 2) (lv' := [(5, .int 2), (7, .int 0), (6, .ref (a 8)), (4, .int 2), (0, .ref (a 0)), (1, .ref r9), (2, .int p0), (3, .int 1)]) hx hb dX12_isCovered_94 hl (k := 2) rfl (by decide) (by decide) rfl (fun ls hl => ?_)
        refine lv_goto (tgt := 27) hx hb dX12_isCovered_97 (by decide) ?_
        refine lv_iload hx hb dX12_isCovered_27 (lv_at hl 0 rfl) ?_
        refine lv_iload hx hb dX12_isCovered_29 (lv_at hl 3 rfl) ?_
        refine lv_icmp_ge (tgt := 100) hx hb dX12_isCovered_31 (by decide) (fun _ => ?_) (fun c9 => absurd c9 (by decide))
        refine lv_iconst (v := 0) hx hb dX12_isCovered_100 (by decide) ?_
        exact hs_zret () C0 hp hp.2.2.1 rfl (by decide) ⟨Nat.le_of_ble_eq_true rfl, Nat.le_of_ble_eq_true rfl⟩ dX12_isCovered_101 trivial
      · refine lv_iconst (v := 1) hx hb dX12_isCovered_92 (by decide) ?_
        exact hs_zret () C0 hp hp.2.2.1 rfl (by decide) ⟨Nat.le_of_ble_eq_true rfl, Nat.le_of_ble_eq_true rfl⟩ dX12_isCovered_93 trivial
    · refine lv_iconst (v := 1) hx hb dX12_isCovered_92 (by decide) ?_
      exact hs_zret () C0 hp hp.2.2.1 rfl (by decide) ⟨Nat.le_of_ble_eq_true rfl, Nat.le_of_ble_eq_true rfl⟩ dX12_isCovered_93 trivial
  · refine lv_iconst (v := 1) hx hb dX12_isCovered_22 (by decide) ?_
    exact hs_zret () C0 hp hp.2.2.1 rfl (by decide) ⟨Nat.le_of_ble_eq_true rfl, Nat.le_of_ble_eq_true rfl⟩ dX12_isCovered_23 trivial
set_option maxHeartbeats 4000000 in
set_option maxRecDepth 100000 in
/-- rowsFor -/
theorem hs_rowsFor (l : Launch) (D : va_G) (a : Nat → Nat) (z : Nat) (cO : ClassId) (pp : Nat → Int32) (th : Int32) : hs_Kr l D z (hs_t cO) yX12_rowsFor (hr_wm yX12_rowsFor cX12_rowsFor 7 (some (.array (.array .int)))) { frames := 4, cells := 301, slots := 1200, locals := 90 } [.ref (a 0), .int 1] (hs_Y a z cO pp th) 301 301 1200 (fun (_ : (Nat → Nat) × (Nat → Nat → Int32) × ClassId × ClassId) (_ : Nat) => True) (fun u q9 => hs_Y a z cO pp th ++ hs_R q9 u.2.2.1 u.2.2.2 100 u.1 u.2.1) (fun u => [(cO, .object "java/lang/Object"), (u.2.2.1, .array .int), (u.2.2.2, .int)]) := by
  refine hs_Kr_of (by decide) (Nat.le_of_ble_eq_true rfl) ?_
  intro p e s m args below meth c ls A hAe C0 hKT hp hl
  obtain ⟨hx, hb, hr9, hml, hown, hts, hK, hlk, hA, hN, hnm9⟩ := id C0
  have hl : lv_has ls 7 [(0, .ref (a 0)), (1, .int 1)] := hl
  refine lv_bipush (v := 100) hx hb dX12_rowsFor_0 (by decide) ?_
  refine hs_newA C0 hp hw_218 (n := 100) (by decide) (by decide) (by decide) (Nat.le_of_ble_eq_true rfl) (Nat.le_of_ble_eq_true rfl) dX12_rowsFor_2 (fun q9 c1 H hK1 hA2 hz9 hp => ?_)
  obtain ⟨c2, hK2⟩ := hr_int (hts _ hw_180) hK
  have hp : hr_H D A s.heap (hs_Y a z cO pp th ++ hs_R q9 c1 c2 0 (fun _ => 0) (fun _ _ => 0)) H [] := by
    rw [hn_fl_0 (fun _ => 0)] at hp
    exact hp
  refine lv_astore_n (lv' := [(2, .ref q9), (0, .ref (a 0)), (1, .int 1)]) hx hb dX12_rowsFor_5 rfl hl (by decide) rfl (fun ls hl => ?_)
  refine lv_iconst (v := 0) hx hb dX12_rowsFor_6 (by decide) ?_
  refine lv_istore_n (lv' := [(3, .int 0), (2, .ref q9), (0, .ref (a 0)), (1, .int 1)]) hx hb dX12_rowsFor_7 rfl hl (by decide) rfl (fun ls hl => ?_)
  have hL : ∀ (n i : Nat) (ad : Nat → Nat) (gg : Nat → Nat → Int32) (c2 : ClassId) (H : Heap) (locs : List Loc) (ls : Array Slot), i ≤ 100 → 100 - i < n → s.heap.size + (1 + 3 * i) ≤ H.size → va_K D hr_cl [(c2, .int)] s → hr_H D A s.heap (hs_Y a z cO pp th ++ hs_R q9 c1 c2 i ad gg) H locs → lv_has ls 7 [(3, .int (nI i)), (2, .ref q9), (0, .ref (a 0)), (1, .int 1)] → W p l e ({ frames := 4, cells := 301, slots := 1200, locals := 90 } : Room) s m args below meth c H locs (1 + 3 * i) (100 + 11 * i) (MQ below (va_Qr (fun _ => True) (fun u a9 t => (fun (_ : (Nat → Nat) × (Nat → Nat → Int32) × ClassId × ClassId) (_ : Nat) => True) u a9 ∧ hs_B D A ((fun u q9 => hs_Y a z cO pp th ++ hs_R q9 u.2.2.1 u.2.2.2 100 u.1 u.2.1) u a9) (s.heap.size + 301) t ∧ va_K D hr_cl ((fun u => [(cO, .object "java/lang/Object"), (u.2.2.1, .array .int), (u.2.2.2, .int)]) u) t) A) args s 301 1200 A) (F0 m 8 ls []) := by
    intro n
    induction n with
    | zero => intro i ad gg c2 H locs ls h1 h2; omega
    | succ n ih =>
    intro i ad gg c2 H locs ls hi hn hz hK2 hp hl
    refine lv_iload_n hx hb dX12_rowsFor_8 rfl (lv_at hl 0 rfl) ?_
    refine lv_bipush (v := 100) hx hb dX12_rowsFor_9 (by decide) ?_
    refine lv_icmp_ge (tgt := 142) hx hb dX12_rowsFor_11 (by decide) (fun c9 => ?_) (fun c9 => ?_)
    · have e9 : i = 100 := by
        have := (nI_leI (a := 100) (b := i) (by decide) (by omega)).mp c9
        omega
      subst e9
      refine lv_aload_n hx hb dX12_rowsFor_142 rfl (lv_at hl 1 rfl) ?_
      exact hs_aret (ad, gg, c1, c2) C0 hp (by omega) rfl (Or.inr ⟨_, rfl⟩) ⟨Nat.le_of_ble_eq_true rfl, Nat.le_of_ble_eq_true rfl⟩ dX12_rowsFor_143 trivial (hs_K3 hKT hK1 hK2)
    · have hlt : i < 100 := Nat.not_le.mp (fun q => c9 ((nI_leI (a := 100) (b := i) (by decide) (by omega)).mpr q))
      refine lv_aload_n hx hb dX12_rowsFor_14 rfl (lv_at hl 2 rfl) ?_
      refine hr_get C0 hp (q0 := 0) (C := RX12) (T := TX12) (N := 4) (ci := 2) rfl rfl hr_uX12 1 (by decide) hw_126 (fun _ h9 => h9) rfl dX12_rowsFor_15 ?_
      refine hr_get C0 hp (q0 := 1) (C := RX11) (T := TX11) (N := 5) (ci := 1) rfl rfl hr_uX11 0 (by decide) hw_136 (fun _ h9 => h9) rfl dX12_rowsFor_18 ?_
      refine hs_cVi C0 hKT hp (q0 := 2) (ci := 0) (Cn := RJx4a65c) (T := TJx4a65c) (N := 3) (rest := []) (n := 0) (hs_R q9 c1 c2 i ad gg) (hs_size_2 l D a z cO pp th) rfl rfl rfl (hr_gV hw_144 hw_107 hw_108 hw_20 hw_109) ⟨rfl, rfl⟩ (by decide +kernel) ⟨Nat.le_of_ble_eq_true rfl, Nat.le_of_ble_eq_true rfl⟩ ⟨by show 1 + 3 * i + 0 ≤ 301; omega, by show 100 + 11 * i + 0 ≤ 1200; omega⟩ hl.1 rfl rfl (Nat.le_of_ble_eq_true rfl) dX12_rowsFor_21 (fun q_21 u_21 H locs hv_21 hz9 hp => ?_)
      have hz := hs_zz hz hz9
      subst hv_21
      have hp : hr_H D A s.heap (hs_Y a z cO pp th ++ (hs_R q9 c1 c2 i ad gg)) H _ := hp
      refine lv_iconst (v := 1) hx hb dX12_rowsFor_24 (by decide) ?_
      refine lv_iadd hx hb dX12_rowsFor_25 ?_
      rw [show (2 : Int32) + 1 = 3 from by decide]
      refine hs_newI C0 hp hw_180 (n := 3) (by decide) (by decide) (by decide) (by show 1 + 3 * i + 1 ≤ 301; omega) (by show 100 + 11 * i + 3 ≤ 1200; omega) dX12_rowsFor_26 (fun q7 cA H hKA hz9 hp => ?_)
      have hz := hs_zz hz hz9
      have eA := hr_intK hK2 hKA
      subst eA
      rw [List.append_assoc] at hp
      have hp : hr_H D A s.heap (hs_Y a z cO pp th ++ ((hs_R q9 c1 cA i ad gg ++ [(q7, .inl (cA, 3, .inl (fun _ => 0)))]))) H _ := hp
      refine lv_astore (lv' := [(4, .ref q7), (3, .int (nI i)), (2, .ref q9), (0, .ref (a 0)), (1, .int 1)]) hx hb dX12_rowsFor_28 hl (by decide) rfl (fun ls hl => ?_)
      refine lv_iconst (v := 0) hx hb dX12_rowsFor_30 (by decide) ?_
      refine lv_istore (lv' := [(5, .int 0), (4, .ref q7), (3, .int (nI i)), (2, .ref q9), (0, .ref (a 0)), (1, .int 1)]) hx hb dX12_rowsFor_31 hl (by decide) rfl (fun ls hl => ?_)
      refine lv_iload hx hb dX12_rowsFor_33 (lv_at hl 0 rfl) ?_
      refine lv_aload_n hx hb dX12_rowsFor_35 rfl (lv_at hl 4 rfl) ?_
      refine hr_get C0 hp (q0 := 0) (C := RX12) (T := TX12) (N := 4) (ci := 2) rfl rfl hr_uX12 1 (by decide) hw_126 (fun _ h9 => h9) rfl dX12_rowsFor_36 ?_
      refine hr_get C0 hp (q0 := 1) (C := RX11) (T := TX11) (N := 5) (ci := 1) rfl rfl hr_uX11 0 (by decide) hw_136 (fun _ h9 => h9) rfl dX12_rowsFor_39 ?_
      refine hs_cVi C0 hKT hp (q0 := 2) (ci := 0) (Cn := RJx4a65c) (T := TJx4a65c) (N := 3) (rest := [.int 0]) (n := 0) ((hs_R q9 c1 cA i ad gg ++ [(q7, .inl (cA, 3, .inl (fun _ => 0)))])) (hs_size_2 l D a z cO pp th) rfl rfl rfl (hr_gV hw_144 hw_107 hw_108 hw_20 hw_109) ⟨rfl, rfl⟩ (by decide +kernel) ⟨Nat.le_of_ble_eq_true rfl, Nat.le_of_ble_eq_true rfl⟩ ⟨by show 1 + 3 * i + 1 + 0 ≤ 301; omega, by show 100 + 11 * i + 3 + 0 ≤ 1200; omega⟩ hl.1 rfl rfl (Nat.le_of_ble_eq_true rfl) dX12_rowsFor_42 (fun q_42 u_42 H locs hv_42 hz9 hp => ?_)
      have hz := hs_zz hz hz9
      subst hv_42
      have hp : hr_H D A s.heap (hs_Y a z cO pp th ++ ((hs_R q9 c1 cA i ad gg ++ [(q7, .inl (cA, 3, .inl (fun _ => 0)))]))) H _ := hp
      refine lv_icmp_ge (tgt := 131) hx hb dX12_rowsFor_45 (by decide) (fun c9 => absurd c9 (by decide)) (fun _ => ?_)
      refine lv_aload_n hx hb dX12_rowsFor_48 rfl (lv_at hl 4 rfl) ?_
      refine hr_get C0 hp (q0 := 0) (C := RX12) (T := TX12) (N := 4) (ci := 2) rfl rfl hr_uX12 1 (by decide) hw_126 (fun _ h9 => h9) rfl dX12_rowsFor_49 ?_
      refine hr_get C0 hp (q0 := 1) (C := RX11) (T := TX11) (N := 5) (ci := 1) rfl rfl hr_uX11 0 (by decide) hw_136 (fun _ h9 => h9) rfl dX12_rowsFor_52 ?_
      refine lv_iload hx hb dX12_rowsFor_55 (lv_at hl 0 rfl) ?_
      refine hs_cVr C0 hKT hp (q0 := 2) (ci := 0) (Cn := RJx4a65c) (T := TJx4a65c) (N := 3) (rest := []) (n := 1) ((hs_R q9 c1 cA i ad gg ++ [(q7, .inl (cA, 3, .inl (fun _ => 0)))])) (hs_get_0 l D a z cO pp th) rfl rfl rfl (hr_gV hw_190 hw_49 hw_50 hw_20 hw_51) ⟨rfl, rfl⟩ (by decide +kernel) ⟨Nat.le_of_ble_eq_true rfl, Nat.le_of_ble_eq_true rfl⟩ ⟨by show 1 + 3 * i + 1 + 0 ≤ 301; omega, by show 100 + 11 * i + 3 + 0 ≤ 1200; omega⟩ hl.1 rfl rfl (Nat.le_of_ble_eq_true rfl) dX12_rowsFor_57 (fun u_57 q_57 H locs hv_57 hk_57 hz9 hp => ?_)
      have hz := hs_zz hz hz9
      subst hv_57
      have hp : hr_H D A s.heap (hs_Y a z cO pp th ++ ((hs_R q9 c1 cA i ad gg ++ [(q7, .inl (cA, 3, .inl (fun _ => 0)))]))) H _ := hp
      refine hs_cast C0 hp (q0 := 7) (ci := 3) (Cn := RX9) (T := TX9) (N := 9) rfl rfl hw_176 dX12_rowsFor_60 ?_
      refine lv_astore (lv' := [(6, .ref (a 7)), (5, .int 0), (4, .ref q7), (3, .int (nI i)), (2, .ref q9), (0, .ref (a 0)), (1, .int 1)]) hx hb dX12_rowsFor_63 hl (by decide) rfl (fun ls hl => ?_)
      refine lv_aload hx hb dX12_rowsFor_65 (lv_at hl 2 rfl) ?_
      refine lv_iload hx hb dX12_rowsFor_67 (lv_at hl 1 rfl) ?_
      refine lv_aload_n hx hb dX12_rowsFor_69 rfl (lv_at hl 5 rfl) ?_
      refine hr_get C0 hp (q0 := 0) (C := RX12) (T := TX12) (N := 4) (ci := 2) rfl rfl hr_uX12 1 (by decide) hw_126 (fun _ h9 => h9) rfl dX12_rowsFor_70 ?_
      refine lv_iload hx hb dX12_rowsFor_73 (lv_at hl 1 rfl) ?_
      refine lv_iload_n hx hb dX12_rowsFor_75 rfl (lv_at hl 3 rfl) ?_
      refine hs_cVi C0 hKT hp (q0 := 1) (ci := 1) (Cn := RX11) (T := TX11) (N := 5) (rest := [.int 0, .ref q7]) (n := 2) ((hs_R q9 c1 cA i ad gg ++ [(q7, .inl (cA, 3, .inl (fun _ => 0)))])) (hs_quality_0 l D a z cO pp th (nI i)) rfl rfl rfl (hr_gV hw_220 hw_101 hw_102 hw_103 hw_40) ⟨rfl, rfl⟩ (by decide +kernel) ⟨Nat.le_of_ble_eq_true rfl, Nat.le_of_ble_eq_true rfl⟩ ⟨by show 1 + 3 * i + 1 + 1 ≤ 301; omega, by show 100 + 11 * i + 3 + 4 ≤ 1200; omega⟩ hl.1 rfl rfl (Nat.le_of_ble_eq_true rfl) dX12_rowsFor_76 (fun q_76 u_76 H locs hv_76 hz9 hp => ?_)
      have hz := hs_zz hz hz9
      have hp : hr_H D A s.heap (hs_Y a z cO pp th ++ ((hs_R q9 c1 cA i ad gg ++ [(q7, .inl (cA, 3, .inl (fun _ => 0)))]))) H _ := hp
      refine hs_iast C0 hKA hp (q0 := 9 + (i + 1)) (n := 3) (f := (fun _ => 0)) (k' := 0) (Y' := hs_Y a z cO pp th ++ (hs_R q9 c1 cA i ad gg ++ [(q7, .inl (cA, 3, .inl (upd (fun _ => 0) 0 q_76)))])) hs_R_at (by unfold vp_in; decide) (by decide) hs_R_set dX12_rowsFor_79 (fun H locs hz9 hp => ?_)
      have hz := hs_zz hz hz9
      generalize upd (fun _ => 0) 0 q_76 = f0 at hp
      refine lv_aload hx hb dX12_rowsFor_80 (lv_at hl 0 rfl) ?_
      refine hr_get C0 hp (q0 := 7) (C := RX9) (T := TX9) (N := 9) (ci := 3) rfl rfl hr_uX9 6 (by decide) hw_187 (fun _ h9 => h9) rfl dX12_rowsFor_82 ?_
      refine lv_if_eq (tgt := 125) hx hb dX12_rowsFor_85 (by decide) (fun c9 => absurd c9 (by decide)) (fun _ => ?_)
      refine lv_aload hx hb dX12_rowsFor_88 (lv_at hl 0 rfl) ?_
      refine hr_get C0 hp (q0 := 7) (C := RX9) (T := TX9) (N := 9) (ci := 3) rfl rfl hr_uX9 2 (by decide) hw_183 (fun _ h9 => h9) rfl dX12_rowsFor_90 ?_
      refine lv_iload_n hx hb dX12_rowsFor_93 rfl (lv_at hl 6 rfl) ?_
      refine lv_icmp_ne (tgt := 125) hx hb dX12_rowsFor_94 (by decide) (fun _ => ?_) (fun c9 => absurd c9 (by decide))
      refine lv_iinc (v := 1) (lv' := [(5, .int 1), (6, .ref (a 7)), (4, .ref q7), (3, .int (nI i)), (2, .ref q9), (0, .ref (a 0)), (1, .int 1)]) hx hb dX12_rowsFor_125 hl (k := 1) rfl (by decide) (by decide) rfl (fun ls hl => ?_)
      refine lv_goto (tgt := 33) hx hb dX12_rowsFor_128 (by decide) ?_
      refine lv_iload hx hb dX12_rowsFor_33 (lv_at hl 0 rfl) ?_
      refine lv_aload_n hx hb dX12_rowsFor_35 rfl (lv_at hl 5 rfl) ?_
      refine hr_get C0 hp (q0 := 0) (C := RX12) (T := TX12) (N := 4) (ci := 2) rfl rfl hr_uX12 1 (by decide) hw_126 (fun _ h9 => h9) rfl dX12_rowsFor_36 ?_
      refine hr_get C0 hp (q0 := 1) (C := RX11) (T := TX11) (N := 5) (ci := 1) rfl rfl hr_uX11 0 (by decide) hw_136 (fun _ h9 => h9) rfl dX12_rowsFor_39 ?_
      refine hs_cVi C0 hKT hp (q0 := 2) (ci := 0) (Cn := RJx4a65c) (T := TJx4a65c) (N := 3) (rest := [.int 1]) (n := 0) ((hs_R q9 c1 cA i ad gg ++ [(q7, .inl (cA, 3, .inl f0))])) (hs_size_2 l D a z cO pp th) rfl rfl rfl (hr_gV hw_144 hw_107 hw_108 hw_20 hw_109) ⟨rfl, rfl⟩ (by decide +kernel) ⟨Nat.le_of_ble_eq_true rfl, Nat.le_of_ble_eq_true rfl⟩ ⟨by show 1 + 3 * i + 1 + 1 + 0 ≤ 301; omega, by show 100 + 11 * i + 3 + 4 + 0 ≤ 1200; omega⟩ hl.1 rfl rfl (Nat.le_of_ble_eq_true rfl) dX12_rowsFor_42 (fun q_42 u_42 H locs hv_42 hz9 hp => ?_)
      have hz := hs_zz hz hz9
      subst hv_42
      have hp : hr_H D A s.heap (hs_Y a z cO pp th ++ ((hs_R q9 c1 cA i ad gg ++ [(q7, .inl (cA, 3, .inl f0))]))) H _ := hp
      refine lv_icmp_ge (tgt := 131) hx hb dX12_rowsFor_45 (by decide) (fun c9 => absurd c9 (by decide)) (fun _ => ?_)
      refine lv_aload_n hx hb dX12_rowsFor_48 rfl (lv_at hl 5 rfl) ?_
      refine hr_get C0 hp (q0 := 0) (C := RX12) (T := TX12) (N := 4) (ci := 2) rfl rfl hr_uX12 1 (by decide) hw_126 (fun _ h9 => h9) rfl dX12_rowsFor_49 ?_
      refine hr_get C0 hp (q0 := 1) (C := RX11) (T := TX11) (N := 5) (ci := 1) rfl rfl hr_uX11 0 (by decide) hw_136 (fun _ h9 => h9) rfl dX12_rowsFor_52 ?_
      refine lv_iload hx hb dX12_rowsFor_55 (lv_at hl 0 rfl) ?_
      refine hs_cVr C0 hKT hp (q0 := 2) (ci := 0) (Cn := RJx4a65c) (T := TJx4a65c) (N := 3) (rest := []) (n := 1) ((hs_R q9 c1 cA i ad gg ++ [(q7, .inl (cA, 3, .inl f0))])) (hs_get_1 l D a z cO pp th) rfl rfl rfl (hr_gV hw_190 hw_49 hw_50 hw_20 hw_51) ⟨rfl, rfl⟩ (by decide +kernel) ⟨Nat.le_of_ble_eq_true rfl, Nat.le_of_ble_eq_true rfl⟩ ⟨by show 1 + 3 * i + 1 + 1 + 0 ≤ 301; omega, by show 100 + 11 * i + 3 + 4 + 0 ≤ 1200; omega⟩ hl.1 rfl rfl (Nat.le_of_ble_eq_true rfl) dX12_rowsFor_57 (fun u_57 q_57 H locs hv_57 hk_57 hz9 hp => ?_)
      have hz := hs_zz hz hz9
      subst hv_57
      have hp : hr_H D A s.heap (hs_Y a z cO pp th ++ ((hs_R q9 c1 cA i ad gg ++ [(q7, .inl (cA, 3, .inl f0))]))) H _ := hp
      refine hs_cast C0 hp (q0 := 8) (ci := 3) (Cn := RX9) (T := TX9) (N := 9) rfl rfl hw_176 dX12_rowsFor_60 ?_
      refine lv_astore (lv' := [(6, .ref (a 8)), (5, .int 1), (4, .ref q7), (3, .int (nI i)), (2, .ref q9), (0, .ref (a 0)), (1, .int 1)]) hx hb dX12_rowsFor_63 hl (by decide) rfl (fun ls hl => ?_)
      refine lv_aload hx hb dX12_rowsFor_65 (lv_at hl 2 rfl) ?_
      refine lv_iload hx hb dX12_rowsFor_67 (lv_at hl 1 rfl) ?_
      refine lv_aload_n hx hb dX12_rowsFor_69 rfl (lv_at hl 5 rfl) ?_
      refine hr_get C0 hp (q0 := 0) (C := RX12) (T := TX12) (N := 4) (ci := 2) rfl rfl hr_uX12 1 (by decide) hw_126 (fun _ h9 => h9) rfl dX12_rowsFor_70 ?_
      refine lv_iload hx hb dX12_rowsFor_73 (lv_at hl 1 rfl) ?_
      refine lv_iload_n hx hb dX12_rowsFor_75 rfl (lv_at hl 3 rfl) ?_
      refine hs_cVi C0 hKT hp (q0 := 1) (ci := 1) (Cn := RX11) (T := TX11) (N := 5) (rest := [.int 1, .ref q7]) (n := 2) ((hs_R q9 c1 cA i ad gg ++ [(q7, .inl (cA, 3, .inl f0))])) (hs_quality_1 l D a z cO pp th (nI i)) rfl rfl rfl (hr_gV hw_220 hw_101 hw_102 hw_103 hw_40) ⟨rfl, rfl⟩ (by decide +kernel) ⟨Nat.le_of_ble_eq_true rfl, Nat.le_of_ble_eq_true rfl⟩ ⟨by show 1 + 3 * i + 1 + 1 + 1 ≤ 301; omega, by show 100 + 11 * i + 3 + 4 + 4 ≤ 1200; omega⟩ hl.1 rfl rfl (Nat.le_of_ble_eq_true rfl) dX12_rowsFor_76 (fun q_76 u_76 H locs hv_76 hz9 hp => ?_)
      have hz := hs_zz hz hz9
      have hp : hr_H D A s.heap (hs_Y a z cO pp th ++ ((hs_R q9 c1 cA i ad gg ++ [(q7, .inl (cA, 3, .inl f0))]))) H _ := hp
      refine hs_iast C0 hKA hp (q0 := 9 + (i + 1)) (n := 3) (f := f0) (k' := 1) (Y' := hs_Y a z cO pp th ++ (hs_R q9 c1 cA i ad gg ++ [(q7, .inl (cA, 3, .inl (upd f0 1 q_76)))])) hs_R_at (by unfold vp_in; decide) (by decide) hs_R_set dX12_rowsFor_79 (fun H locs hz9 hp => ?_)
      have hz := hs_zz hz hz9
      generalize upd f0 1 q_76 = f1 at hp
      refine lv_aload hx hb dX12_rowsFor_80 (lv_at hl 0 rfl) ?_
      refine hr_get C0 hp (q0 := 8) (C := RX9) (T := TX9) (N := 9) (ci := 3) rfl rfl hr_uX9 6 (by decide) hw_187 (fun _ h9 => h9) rfl dX12_rowsFor_82 ?_
      refine lv_if_eq (tgt := 125) hx hb dX12_rowsFor_85 (by decide) (fun c9 => absurd c9 (by decide)) (fun _ => ?_)
      refine lv_aload hx hb dX12_rowsFor_88 (lv_at hl 0 rfl) ?_
      refine hr_get C0 hp (q0 := 8) (C := RX9) (T := TX9) (N := 9) (ci := 3) rfl rfl hr_uX9 2 (by decide) hw_183 (fun _ h9 => h9) rfl dX12_rowsFor_90 ?_
      refine lv_iload_n hx hb dX12_rowsFor_93 rfl (lv_at hl 6 rfl) ?_
      refine lv_icmp_ne (tgt := 125) hx hb dX12_rowsFor_94 (by decide) (fun _ => ?_) (fun c9 => absurd c9 (by decide))
      refine lv_iinc (v := 2) (lv' := [(5, .int 2), (6, .ref (a 8)), (4, .ref q7), (3, .int (nI i)), (2, .ref q9), (0, .ref (a 0)), (1, .int 1)]) hx hb dX12_rowsFor_125 hl (k := 1) rfl (by decide) (by decide) rfl (fun ls hl => ?_)
      refine lv_goto (tgt := 33) hx hb dX12_rowsFor_128 (by decide) ?_
      refine lv_iload hx hb dX12_rowsFor_33 (lv_at hl 0 rfl) ?_
      refine lv_aload_n hx hb dX12_rowsFor_35 rfl (lv_at hl 5 rfl) ?_
      refine hr_get C0 hp (q0 := 0) (C := RX12) (T := TX12) (N := 4) (ci := 2) rfl rfl hr_uX12 1 (by decide) hw_126 (fun _ h9 => h9) rfl dX12_rowsFor_36 ?_
      refine hr_get C0 hp (q0 := 1) (C := RX11) (T := TX11) (N := 5) (ci := 1) rfl rfl hr_uX11 0 (by decide) hw_136 (fun _ h9 => h9) rfl dX12_rowsFor_39 ?_
      refine hs_cVi C0 hKT hp (q0 := 2) (ci := 0) (Cn := RJx4a65c) (T := TJx4a65c) (N := 3) (rest := [.int 2]) (n := 0) ((hs_R q9 c1 cA i ad gg ++ [(q7, .inl (cA, 3, .inl f1))])) (hs_size_2 l D a z cO pp th) rfl rfl rfl (hr_gV hw_144 hw_107 hw_108 hw_20 hw_109) ⟨rfl, rfl⟩ (by decide +kernel) ⟨Nat.le_of_ble_eq_true rfl, Nat.le_of_ble_eq_true rfl⟩ ⟨by show 1 + 3 * i + 1 + 1 + 1 + 0 ≤ 301; omega, by show 100 + 11 * i + 3 + 4 + 4 + 0 ≤ 1200; omega⟩ hl.1 rfl rfl (Nat.le_of_ble_eq_true rfl) dX12_rowsFor_42 (fun q_42 u_42 H locs hv_42 hz9 hp => ?_)
      have hz := hs_zz hz hz9
      subst hv_42
      have hp : hr_H D A s.heap (hs_Y a z cO pp th ++ ((hs_R q9 c1 cA i ad gg ++ [(q7, .inl (cA, 3, .inl f1))]))) H _ := hp
      refine lv_icmp_ge (tgt := 131) hx hb dX12_rowsFor_45 (by decide) (fun _ => ?_) (fun c9 => absurd c9 (by decide))
      refine lv_aload_n hx hb dX12_rowsFor_131 rfl (lv_at hl 4 rfl) ?_
      refine lv_iload_n hx hb dX12_rowsFor_132 rfl (lv_at hl 3 rfl) ?_
      refine lv_aload hx hb dX12_rowsFor_133 (lv_at hl 2 rfl) ?_
      refine hs_aastI C0 hA2 hKA hp (q0 := 9) (qk := 9 + (i + 1)) (n := 100) (f := hn_fl i ad) (k' := i) (Y' := hs_Y a z cO pp th ++ hs_R q9 c1 cA (i + 1) (hn_ad ad i q7) (hs_gd gg i f1)) rfl hs_R_at (vp_in_nI hlt (by decide)) (nI_clamp (by omega)) hs_R_s dX12_rowsFor_135 (fun H locs hz9 hp => ?_)
      have hz := hs_zz hz hz9
      refine lv_iinc (v := (nI (i + 1))) (lv' := [(3, .int (nI (i + 1))), (5, .int 2), (6, .ref (a 8)), (4, .ref q7), (2, .ref q9), (0, .ref (a 0)), (1, .int 1)]) hx hb dX12_rowsFor_136 hl (k := 3) rfl (nI_1 i) (by decide) rfl (fun ls hl => ?_)
      refine lv_goto (tgt := 8) hx hb dX12_rowsFor_139 (by decide) ?_
      refine W.widen (k := 1 + 3 * (i + 1)) (n := 100 + 11 * (i + 1)) (by show 1 + 3 * i + 1 + 1 + 1 ≤ _; omega) (by show 100 + 11 * i + 3 + 4 + 4 ≤ _; omega) ?_
      exact ih (i + 1) (hn_ad ad i q7) (hs_gd gg i f1) cA _ _ _ (by omega) (by omega) (by omega) hKA hp (lv_sub hl [0, 4, 5, 6] rfl)
  exact hL 101 0 (fun _ => 0) (fun _ _ => 0) c2 _ _ _ (by decide) (by decide) (by omega) hK2 hp (lv_sub hl [0, 1, 2, 3] rfl)
set_option maxHeartbeats 4000000 in
set_option maxRecDepth 100000 in
/-- bestFor -/
theorem hs_bestFor (l : Launch) (D : va_G) (a : Nat → Nat) (z : Nat) (cO : ClassId) (pp : Nat → Int32) (th : Int32) : hs_Ki l D z (hs_t cO) yX12_bestFor (hr_wm yX12_bestFor cX12_bestFor 9 (some .int)) { frames := 5, cells := 301, slots := 1200, locals := 116 } [.ref (a 0), .int 30, .int 1] (hs_Y a z cO pp th) 301 301 1200 (fun (_ : Int32) (_ : Unit) => True) (fun _ => hs_Y a z cO pp th) := by
  refine hs_Ki_of (by decide) (Nat.le_of_ble_eq_true rfl) ?_
  intro p e s m args below meth c ls A hAe C0 hKT hp hl
  obtain ⟨hx, hb, hr9, hml, hown, hts, hK, hlk, hA, hN, hnm9⟩ := id C0
  have hl : lv_has ls 9 [(0, .ref (a 0)), (1, .int 30), (2, .int 1)] := hl
  refine lv_aload_n hx hb dX12_bestFor_0 rfl (lv_at hl 0 rfl) ?_
  refine hr_get C0 hp (q0 := 0) (C := RX12) (T := TX12) (N := 4) (ci := 2) rfl rfl hr_uX12 1 (by decide) hw_126 (fun _ h9 => h9) rfl dX12_bestFor_1 ?_
  refine hr_get C0 hp (q0 := 1) (C := RX11) (T := TX11) (N := 5) (ci := 1) rfl rfl hr_uX11 0 (by decide) hw_136 (fun _ h9 => h9) rfl dX12_bestFor_4 ?_
  refine hs_cVi C0 hKT hp (q0 := 2) (ci := 0) (Cn := RJx4a65c) (T := TJx4a65c) (N := 3) (rest := []) (n := 0) [] (hs_size_2 l D a z cO pp th) rfl rfl rfl (hr_gV hw_144 hw_107 hw_108 hw_20 hw_109) ⟨rfl, rfl⟩ (by decide +kernel) ⟨Nat.le_of_ble_eq_true rfl, Nat.le_of_ble_eq_true rfl⟩ ⟨Nat.le_of_ble_eq_true rfl, Nat.le_of_ble_eq_true rfl⟩ hl.1 rfl rfl (Nat.le_of_ble_eq_true rfl) dX12_bestFor_7 (fun q_7 u_7 H locs hv_7 hz9 hp => ?_)
  subst hv_7
  have hp : hr_H D A s.heap (hs_Y a z cO pp th) H _ := hp
  refine lv_bipush (v := 6) hx hb dX12_bestFor_10 (by decide) ?_
  refine lv_icmp_ne (tgt := 17) hx hb dX12_bestFor_12 (by decide) (fun _ => ?_) (fun c9 => absurd c9 (by decide))
  refine lv_aload_n hx hb dX12_bestFor_17 rfl (lv_at hl 0 rfl) ?_
  refine lv_iload_n hx hb dX12_bestFor_18 rfl (lv_at hl 2 rfl) ?_
  have hz := hp.2.2.1
  refine hs_cVr C0 hKT hp (q0 := 0) (ci := 2) (Cn := RX12) (T := TX12) (N := 4) (rest := []) (n := 1) [] (hs_rowsFor l D a z cO pp th) rfl rfl rfl (hr_gV hw_225 hw_226 hw_227 hw_119 hw_217) ⟨rfl, rfl⟩ (by decide +kernel) ⟨Nat.le_of_ble_eq_true rfl, Nat.le_of_ble_eq_true rfl⟩ ⟨Nat.le_of_ble_eq_true rfl, Nat.le_of_ble_eq_true rfl⟩ hl.1 rfl rfl (Nat.le_of_ble_eq_true rfl) dX12_bestFor_19 (fun u_19 q_19 H locs hv_19 hk_19 hz9 hp => ?_)
  have hz := hs_zz hz hz9
  have hp : hr_H D A s.heap (hs_Y a z cO pp th ++ (hs_R q_19 u_19.2.2.1 u_19.2.2.2 100 u_19.1 u_19.2.1)) H _ := hp
  refine W.widen (k := 301) (n := 1200) (by decide) (by decide) ?_
  refine lv_astore_n (lv' := [(3, .ref q_19), (0, .ref (a 0)), (1, .int 30), (2, .int 1)]) hx hb dX12_bestFor_22 rfl hl (by decide) rfl (fun ls hl => ?_)
  refine lv_iconst (v := (-1)) hx hb dX12_bestFor_23 (by decide) ?_
  refine lv_istore (lv' := [(4, .int (-1)), (3, .ref q_19), (0, .ref (a 0)), (1, .int 30), (2, .int 1)]) hx hb dX12_bestFor_24 hl (by decide) rfl (fun ls hl => ?_)
  refine lv_iconst (v := (-1)) hx hb dX12_bestFor_26 (by decide) ?_
  refine lv_istore (lv' := [(5, .int (-1)), (4, .int (-1)), (3, .ref q_19), (0, .ref (a 0)), (1, .int 30), (2, .int 1)]) hx hb dX12_bestFor_27 hl (by decide) rfl (fun ls hl => ?_)
  refine lv_iconst (v := 0) hx hb dX12_bestFor_29 (by decide) ?_
  refine lv_istore (lv' := [(6, .int 0), (5, .int (-1)), (4, .int (-1)), (3, .ref q_19), (0, .ref (a 0)), (1, .int 30), (2, .int 1)]) hx hb dX12_bestFor_30 hl (by decide) rfl (fun ls hl => ?_)
  have hI : ∀ (j : Nat) (m9 b9 : Int32), j ≤ 100 → (∀ (k9 : Int32) (H : Heap) (locs : List Loc) (ls : Array Slot), s.heap.size + 301 ≤ H.size → hr_H D A s.heap (hs_Y a z cO pp th ++ hs_R q_19 u_19.2.2.1 u_19.2.2.2 100 u_19.1 u_19.2.1) H locs → lv_has ls 9 [(7, .int k9), (6, .int (nI j)), (5, .int m9), (4, .int b9), (3, .ref q_19), (0, .ref (a 0)), (1, .int 30), (2, .int 1)] → W p l e ({ frames := 5, cells := 301, slots := 1200, locals := 116 } : Room) s m args below meth c H locs 301 1200 (MQ below (va_Qi (fun (_ : Int32) (_ : Unit) => True) (fun u t => hs_B D A ((fun _ => hs_Y a z cO pp th) u) (s.heap.size + 301) t) A) args s 301 1200 A) (F0 m 85 ls [])) → ∀ (n i : Nat) (k9 : Int32) (H : Heap) (locs : List Loc) (ls : Array Slot), i ≤ 100 → 100 - i < n → s.heap.size + 301 ≤ H.size → hr_H D A s.heap (hs_Y a z cO pp th ++ hs_R q_19 u_19.2.2.1 u_19.2.2.2 100 u_19.1 u_19.2.1) H locs → lv_has ls 9 [(8, .int (nI i)), (7, .int k9), (6, .int (nI j)), (5, .int m9), (4, .int b9), (3, .ref q_19), (0, .ref (a 0)), (1, .int 30), (2, .int 1)] → W p l e ({ frames := 5, cells := 301, slots := 1200, locals := 116 } : Room) s m args below meth c H locs 301 1200 (MQ below (va_Qi (fun (_ : Int32) (_ : Unit) => True) (fun u t => hs_B D A ((fun _ => hs_Y a z cO pp th) u) (s.heap.size + 301) t) A) args s 301 1200 A) (F0 m 45 ls []) := by
    intro j m9 b9 hj kk n
    induction n with
    | zero => intro i k9 H locs ls h1 h2; omega
    | succ n ih =>
    intro i k9 H locs ls hi hn hz hp hl
    refine lv_iload hx hb dX12_bestFor_45 (lv_at hl 0 rfl) ?_
    refine lv_bipush (v := 100) hx hb dX12_bestFor_47 (by decide) ?_
    refine lv_icmp_ge (tgt := 85) hx hb dX12_bestFor_49 (by decide) (fun c9 => ?_) (fun c9 => ?_)
    · exact kk k9 _ _ _ hz hp (lv_sub hl [1, 2, 3, 4, 5, 6, 7, 8] rfl)
    · have hlt : i < 100 := Nat.not_le.mp (fun q => c9 ((nI_leI (a := 100) (b := i) (by decide) (by omega)).mpr q))
      refine lv_iload hx hb dX12_bestFor_52 (lv_at hl 1 rfl) ?_
      refine lv_aload_n hx hb dX12_bestFor_54 rfl (lv_at hl 6 rfl) ?_
      refine lv_aload_n hx hb dX12_bestFor_55 rfl (lv_at hl 5 rfl) ?_
      refine lv_iload hx hb dX12_bestFor_56 (lv_at hl 0 rfl) ?_
      refine hr_aalA C0 hk_19 1 rfl hp (q0 := 9) (n := 100) (f := hn_fl 100 u_19.1) (k' := i) (r := u_19.1 i) rfl (vp_in_nI hlt (by decide)) (nI_clamp (by omega)) (if_pos hlt) dX12_bestFor_58 ?_
      refine lv_iload_n hx hb dX12_bestFor_59 rfl (lv_at hl 7 rfl) ?_
      refine lv_iload hx hb dX12_bestFor_60 (lv_at hl 2 rfl) ?_
      refine lv_iload hx hb dX12_bestFor_62 (lv_at hl 0 rfl) ?_
      refine lv_isub hx hb dX12_bestFor_64 ?_
      refine va_mabs hx hb (hml.trans hl.1.symm) hown (hts _ hw_224) (hts _ hw_13) (hts _ hw_14) (hts _ hw_15) (Nat.le_of_ble_eq_true rfl) (Nat.le_of_ble_eq_true rfl) (Nat.le_of_ble_eq_true rfl) (Nat.le_of_ble_eq_true rfl) dX12_bestFor_65 ?_
      rw [show (if 0 ≤ ((nI j) - (nI i)) then ((nI j) - (nI i)) else 0 - ((nI j) - (nI i))) = hr_abs ((nI j) - (nI i)) from rfl]
      refine lv_isub hx hb dX12_bestFor_68 ?_
      refine lv_iload_n hx hb dX12_bestFor_69 rfl (lv_at hl 8 rfl) ?_
      refine hs_cVi C0 (hk_19.sub [0, 2] rfl) hp (q0 := 0) (ci := 2) (Cn := RX12) (T := TX12) (N := 4) (rest := [.int k9]) (n := 3) [] (hs_isCovered l D a z cO pp th (hs_R q_19 u_19.2.2.1 u_19.2.2.2 100 u_19.1 u_19.2.1) (u_19.1 i) (i + 1) u_19.2.2.2 (u_19.2.1 i) (hs_R_row hlt) (30 - (hr_abs ((nI j) - (nI i))))) (List.append_nil _).symm rfl rfl (hr_gV hw_228 hw_229 hw_230 hw_119 hw_222) ⟨rfl, rfl⟩ (by decide +kernel) ⟨Nat.le_of_ble_eq_true rfl, Nat.le_of_ble_eq_true rfl⟩ ⟨Nat.le_of_ble_eq_true rfl, Nat.le_of_ble_eq_true rfl⟩ hl.1 rfl rfl (Nat.le_of_ble_eq_true rfl) dX12_bestFor_70 (fun q_70 u_70 H locs hv_70 hz9 hp => ?_)
      have hz := hs_zz hz hz9
      rw [List.append_nil] at hp
      have hp : hr_H D A s.heap (hs_Y a z cO pp th ++ (hs_R q_19 u_19.2.2.1 u_19.2.2.2 100 u_19.1 u_19.2.1)) H _ := hp
      refine hs_cSi C0 hKT hp (rest := [.int k9]) (n := 1) [] (hs_X12_one l D z _ (hs_Y a z cO pp th ++ (hs_R q_19 u_19.2.2.1 u_19.2.2.2 100 u_19.1 u_19.2.1)) q_70) (List.append_nil _).symm (hr_gS hw_197 hw_118 hw_119 hw_120) ⟨rfl, rfl⟩ (by decide +kernel) ⟨Nat.le_of_ble_eq_true rfl, Nat.le_of_ble_eq_true rfl⟩ ⟨Nat.le_of_ble_eq_true rfl, Nat.le_of_ble_eq_true rfl⟩ hl.1 rfl rfl (Nat.le_of_ble_eq_true rfl) dX12_bestFor_73 (fun q_73 u_73 H locs hv_73 hz9 hp => ?_)
      have hz := hs_zz hz hz9
      subst hv_73
      rw [List.append_nil] at hp
      have hp : hr_H D A s.heap (hs_Y a z cO pp th ++ (hs_R q_19 u_19.2.2.1 u_19.2.2.2 100 u_19.1 u_19.2.1)) H _ := hp
      refine lv_iadd hx hb dX12_bestFor_76 ?_
      refine lv_istore (lv' := [(7, .int (k9 + (hr_one q_70))), (8, .int (nI i)), (6, .int (nI j)), (5, .int m9), (4, .int b9), (3, .ref q_19), (0, .ref (a 0)), (1, .int 30), (2, .int 1)]) hx hb dX12_bestFor_77 hl (by decide) rfl (fun ls hl => ?_)
      refine lv_iinc (v := (nI (i + 1))) (lv' := [(8, .int (nI (i + 1))), (7, .int (k9 + (hr_one q_70))), (6, .int (nI j)), (5, .int m9), (4, .int b9), (3, .ref q_19), (0, .ref (a 0)), (1, .int 30), (2, .int 1)]) hx hb dX12_bestFor_79 hl (k := 1) rfl (nI_1 i) (by decide) rfl (fun ls hl => ?_)
      refine lv_goto (tgt := 45) hx hb dX12_bestFor_82 (by decide) ?_
      exact ih (i + 1) _ _ _ _ (by omega) (by omega) (by omega) hp (lv_sub hl [0, 1, 2, 3, 4, 5, 6, 7, 8] rfl)
  have hO : ∀ (n j : Nat) (m9 b9 : Int32) (H : Heap) (locs : List Loc) (ls : Array Slot), j ≤ 100 → 100 - j < n → s.heap.size + 301 ≤ H.size → hr_H D A s.heap (hs_Y a z cO pp th ++ hs_R q_19 u_19.2.2.1 u_19.2.2.2 100 u_19.1 u_19.2.1) H locs → lv_has ls 9 [(6, .int (nI j)), (5, .int m9), (4, .int b9), (3, .ref q_19), (0, .ref (a 0)), (1, .int 30), (2, .int 1)] → W p l e ({ frames := 5, cells := 301, slots := 1200, locals := 116 } : Room) s m args below meth c H locs 301 1200 (MQ below (va_Qi (fun (_ : Int32) (_ : Unit) => True) (fun u t => hs_B D A ((fun _ => hs_Y a z cO pp th) u) (s.heap.size + 301) t) A) args s 301 1200 A) (F0 m 32 ls []) := by
    intro n
    induction n with
    | zero => intro j m9 b9 H locs ls h1 h2; omega
    | succ n ih =>
    intro j m9 b9 H locs ls hi hn hz hp hl
    refine lv_iload hx hb dX12_bestFor_32 (lv_at hl 0 rfl) ?_
    refine lv_bipush (v := 100) hx hb dX12_bestFor_34 (by decide) ?_
    refine lv_icmp_ge (tgt := 109) hx hb dX12_bestFor_36 (by decide) (fun c9 => ?_) (fun c9 => ?_)
    · refine lv_iload hx hb dX12_bestFor_109 (lv_at hl 2 rfl) ?_
      have hp := hr_drop (Y := hs_Y a z cO pp th) (X := hs_R q_19 u_19.2.2.1 u_19.2.2.2 100 u_19.1 u_19.2.1) hp
      exact hs_iret () C0 hp (by omega) rfl ⟨Nat.le_of_ble_eq_true rfl, Nat.le_of_ble_eq_true rfl⟩ dX12_bestFor_111 trivial
    · have hlt : j < 100 := Nat.not_le.mp (fun q => c9 ((nI_leI (a := 100) (b := j) (by decide) (by omega)).mpr q))
      refine lv_iconst (v := 0) hx hb dX12_bestFor_39 (by decide) ?_
      refine lv_istore (lv' := [(7, .int 0), (6, .int (nI j)), (5, .int m9), (4, .int b9), (3, .ref q_19), (0, .ref (a 0)), (1, .int 30), (2, .int 1)]) hx hb dX12_bestFor_40 hl (by decide) rfl (fun ls hl => ?_)
      refine lv_iconst (v := 0) hx hb dX12_bestFor_42 (by decide) ?_
      refine lv_istore (lv' := [(8, .int 0), (7, .int 0), (6, .int (nI j)), (5, .int m9), (4, .int b9), (3, .ref q_19), (0, .ref (a 0)), (1, .int 30), (2, .int 1)]) hx hb dX12_bestFor_43 hl (by decide) rfl (fun ls hl => ?_)
      refine hI j m9 b9 (by omega) ?_ 101 0 0 _ _ _ (by decide) (by decide) (by omega) hp (lv_sub hl [0, 1, 2, 3, 4, 5, 6, 7, 8] rfl)
      intro k9 H locs ls hz hp hl
      refine lv_iload hx hb dX12_bestFor_85 (lv_at hl 0 rfl) ?_
      refine lv_iload hx hb dX12_bestFor_87 (lv_at hl 2 rfl) ?_
      refine lv_icmp_gt (tgt := 95) hx hb dX12_bestFor_89 (by decide) (fun c1 => ?_) (fun c1 => ?_)
      · refine lv_iload hx hb dX12_bestFor_95 (lv_at hl 0 rfl) ?_
        refine lv_istore (lv' := [(5, .int k9), (7, .int k9), (6, .int (nI j)), (4, .int b9), (3, .ref q_19), (0, .ref (a 0)), (1, .int 30), (2, .int 1)]) hx hb dX12_bestFor_97 hl (by decide) rfl (fun ls hl => ?_)
        refine lv_iload hx hb dX12_bestFor_99 (lv_at hl 2 rfl) ?_
        refine lv_istore (lv' := [(4, .int (nI j)), (5, .int k9), (7, .int k9), (6, .int (nI j)), (3, .ref q_19), (0, .ref (a 0)), (1, .int 30), (2, .int 1)]) hx hb dX12_bestFor_101 hl (by decide) rfl (fun ls hl => ?_)
        refine lv_iinc (v := (nI (j + 1))) (lv' := [(6, .int (nI (j + 1))), (4, .int (nI j)), (5, .int k9), (7, .int k9), (3, .ref q_19), (0, .ref (a 0)), (1, .int 30), (2, .int 1)]) hx hb dX12_bestFor_103 hl (k := 3) rfl (nI_1 j) (by decide) rfl (fun ls hl => ?_)
        refine lv_goto (tgt := 32) hx hb dX12_bestFor_106 (by decide) ?_
        exact ih (j + 1) _ _ _ _ _ (by omega) (by omega) (by omega) hp (lv_sub hl [0, 2, 1, 4, 5, 6, 7] rfl)
      · refine lv_goto (tgt := 103) hx hb dX12_bestFor_92 (by decide) ?_
        refine lv_iinc (v := (nI (j + 1))) (lv' := [(6, .int (nI (j + 1))), (7, .int k9), (5, .int m9), (4, .int b9), (3, .ref q_19), (0, .ref (a 0)), (1, .int 30), (2, .int 1)]) hx hb dX12_bestFor_103 hl (k := 1) rfl (nI_1 j) (by decide) rfl (fun ls hl => ?_)
        refine lv_goto (tgt := 32) hx hb dX12_bestFor_106 (by decide) ?_
        exact ih (j + 1) _ _ _ _ _ (by omega) (by omega) (by omega) hp (lv_sub hl [0, 2, 3, 4, 5, 6, 7] rfl)
  exact hO 101 0 _ _ _ _ _ (by decide) (by decide) (by omega) hp (lv_sub hl [0, 1, 2, 3, 4, 5, 6] rfl)
