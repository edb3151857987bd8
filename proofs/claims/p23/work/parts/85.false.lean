/-! THE LAW: its start; the statement of whole is false (wip/gen/mkz85.py; rows that begin with lw_ and whole_start began as kit/laws/SKELETON) -/
section HZ9
variable {p : Program} {l : Launch} {e : Env} {s : State} {m : MethodId} {args : Array Value} {below : List Frame} {meth : Method} {c : Code} {H : Heap} {locs : List Loc} {cells slots : Nat} {Q : State → Prop}
variable {pc : Nat} {ls : Array Slot} {rest st0 : List Value} {D1 D2 : va_G} {K : Nat → ClassId} {ad a : Nat → Nat} {A : Nat → Prop} {z o b L : Nat} {xs : Nat → Int32} {cJ : ClassId} {W1 Y : va_W} {R : Room}
theorem hz_l31 {args : Array Value} {s : State} {t : Term} {v : Value} {q : Addr} {cell : Cell} (hv : (Term.length t).eval args s none [] s = some v) (ht : t.eval args s none [] s = some (.ref q)) (hat : s.arrayAt? q = some cell) : cell.slots.size < 2 ^ 31 := by
  simp only [Term.eval, ht, hat, Option.bind_eq_bind, Option.bind_some] at hv
  by_cases hlt : cell.slots.size < 2147483648
  · exact hlt
  · simp [hlt] at hv
theorem hz_Zof {args : Array Value} {s : State} {A : Nat → Prop} (hl : (Cond.laysStatic RJx4a65c hr_eN hr_eD).before args s = true) (hini : (Cond.initialized RJx4a65c).before args s = true) (harr : (Cond.arrayOf (.static RJx4a65c hr_eN hr_eD) (.object "java/lang/Object")).before args s = true) (hlen : (Cond.eq (.length (.static RJx4a65c hr_eN hr_eD)) (.int 0)).before args s = true) (hA : ∀ a : Nat, a < s.heap.size → ¬ A a) : ∃ z : Nat, hr_Z z A s s.heap := by
  have hv := va_eqt hlen
  obtain ⟨t, cell, ht, hat, he⟩ := Term.length_spec hv
  have hsz := hz_l31 hv ht hat
  obtain ⟨hcell, hkn, -, -⟩ := State.arrayAt?_spec hat
  obtain ⟨hof, -⟩ := Cond.arrayOf_spec harr ht hcell
  refine ⟨t, va_Zof hl hini ht hA, cell, hcell, hof, hkn, ?_, hA t (Array.getElem?_eq_some_iff.mp hcell).1⟩
  have h0 : Int32.ofNat cell.slots.size = 0 := (Value.int.inj he).symm
  have h1 := congrArg Int32.toInt h0
  rw [Int32.toInt_ofNat_small hsz] at h1
  have z0 : (0 : Int32).toInt = 0 := rfl
  rw [z0] at h1
  omega
theorem hz_new {fs : List Value} (hx : p.tables.exec = Jvm.exec) (hb : c.code = cL_law) (hown : s.vm.findClass RL = some m.cls) (hts : ∀ w ∈ lw_tbl, w.before args s = true) (hK2 : va_K D2 hr_cl [] s) (hP : va_P D1 hh_cl W1 H) (hD : va_D A W1) (hS : va_S A s.heap H locs) (hA : ∀ q, s.heap.size ≤ q → A q) (hfs : ∀ j, j < 4 → defaultValue (tyX12 j) = vp_V fs j) (hcells : cells + 1 ≤ R.cells) (hslots : slots + 4 ≤ R.slots)
    (kk : ∀ (q : Nat) (H1 : Heap), va_P D1 hh_cl W1 H1 → va_P D2 hr_cl [(q, .inr (2, fs))] H1 → va_D A (W1 ++ [(q, .inr (2, fs))]) → va_S A s.heap H1 locs → W p l e R s m args below meth c H1 locs (cells + 1) (slots + 4) Q (F0 m 11 ls (.ref q :: rest))) : W p l e R s m args below meth c H locs cells slots Q (F0 m 8 ls rest) := by
  have hc : hr_cl[2]? = some (RX12, TX12, 4) := rfl
  have hKn := hK2.1 2 _ hc
  refine W.newcK hx hb hown (hts _ (hz_tbl _ hz_23)) (hts (.instantiable RX12 4) (by decide +kernel)) (hts _ (hz_tbl _ hz_20)) rfl dL_law_8 hcells hslots hKn.2.1 rfl fun H1 kC hkC e1 z1 o1 => ?_
  have hk : ∀ (k : Nat) (x : Nat × va_E), W1[k]? = some x → H1[x.1]? = H[x.1]? := fun k x hx => o1 x.1 ((hP k x hx).lt)
  refine kk H.size H1 (hP.kept hk) (fun k x hx => ?_) (hD.push hP rfl (hA _ hS.1)) ⟨Nat.le_trans hS.1 (by omega), fun x h1 h2 => (o1 x (Nat.lt_of_lt_of_le h1 hS.1)).trans (hS.2.1 x h1 h2), hS.2.2⟩
  have hz : k < 1 := (List.getElem?_eq_some_iff.mp hx).1
  rw [show k = 0 by omega] at hx
  cases hx
  exact ⟨_, hc, (u_born tyX12 hts hr_tX12 hKn hkC e1 tyX12_ok).to hfs⟩
theorem hz_ini {b0 : Nat} (hx : p.tables.exec = Jvm.exec) (hb : c.code = cL_law) (hml : c.maxLocals = 9) (hown : s.vm.findClass RL = some m.cls) (hts : ∀ w ∈ lw_tbl, w.before args s = true) (hK2 : va_K D2 hr_cl [] s) (hP : va_P D1 hh_cl W1 H) (hP2 : va_P D2 hr_cl [(b0, .inr (2, [.int 0, .null, .int 0, .int 0]))] H) (hD : va_D A (W1 ++ [(b0, .inr (2, [.int 0, .null, .int 0, .int 0]))])) (hS : va_S A s.heap H locs) (hA : ∀ q, s.heap.size ≤ q → A q) (hN : hr_N z A s s.heap) (hR : 6 ≤ R.frames ∧ 200 ≤ R.locals) (hf : cells + 5 ≤ R.cells ∧ slots + 17 ≤ R.slots) (hsz : ls.size = 9) (hst : (rest.map fun v => v.category).sum ≤ 8)
    (kk : ∀ (a : Nat → Nat) (H1 : Heap) (locs1 : List Loc), a 0 = b0 → va_P D1 hh_cl W1 H1 → va_P D2 hr_cl (hr_Y a z 0 0) H1 → va_D A (W1 ++ hr_Y a z 0 0) → va_S A s.heap H1 locs1 → W p l e R s m args below meth c H1 locs1 (cells + 5) (slots + 17) Q (F0 m 15 ls rest)) : W p l e R s m args below meth c H locs cells slots Q (F0 m 12 ls (.ref b0 :: rest)) := by
  have hp : hr_H D2 A s.heap ([(b0, .inr (2, [.int 0, .null, .int 0, .int 0]))] ++ []) H locs := ⟨hP2, hr_Dr hD, hS⟩
  have hF := hr_free hp hA
  have gg : GoodIn lw_tbl (hr_wm yX12_init cX12_init 1 none) := fun w hw => by
    rcases List.mem_cons.mp hw with rfl | hw
    · exact ⟨hr_tbl _ hw_122, (hr_good _ hw_122).2⟩
    · exact ⟨hr_tbl _ hw, (hr_good _ hw).2⟩
  refine va_callv (va_runI (As := []) (rest := rest) ⟨hx, hb, hml, hown, hts⟩ (hr_X12_init l D2 z b0 H.size) (cwI 0 hts gg rfl rfl rfl (hts _ (hz_tbl _ hz_20)) (hts _ (hz_tbl _ hz_2)) (hts _ (hz_tbl _ hz_3)) rfl (by decide +kernel) ⟨hR.1, Nat.le_trans (Nat.le_of_ble_eq_true rfl) hR.2⟩) ⟨hr_blind, fun U hU hW => ⟨rfl, congrArg Array.size hU, by rw [hU]; exact hP2, va_K.moved hW.alike hK2, (hr_Dr hD).weaken (fun _ _ _ _ => trivial), hr_sub hp hA hN hU hW⟩⟩ rfl rfl hsz rfl (lv_room hst) dL_law_12 hf) hS (fun q _ h => hF q h) hF (fun u t H1 locs1 ht hvm hw hB hz1 hk1 hS1 => ?_)
  obtain ⟨hP3, hD3⟩ := hB
  rw [ht] at hP3
  have hx1 : ∀ (k : Nat) (q : Nat × va_E), W1[k]? = some q → q.1 < H.size ∧ ¬ va_A [(b0, .inr (2, [.int 0, .null, .int 0, .int 0]))] H.size q.1 := fun k q hk => by
    have hlt := (hP k q hk).lt
    refine ⟨hlt, fun h => ?_⟩
    rcases h with ⟨k2, e2, h2⟩ | h2
    · exact hr_Dx hD hk h2 rfl
    · omega
  refine kk u H1 locs1 hw (hP.kept (fun k q hk => hk1 q.1 (hx1 k q hk).1 (hx1 k q hk).2)) hP3 (va_D.app (hr_Dl hD) (hD3.weaken (fun k q _ h => hF _ h)) (fun i j p q hi hj e => ?_)) hS1
  have h := hD3.2 j q hj
  rw [← e] at h
  exact (hx1 i p hi).2 h
theorem hz_newl (hx : p.tables.exec = Jvm.exec) (hb : c.code = cL_law) (hts : ∀ w ∈ lw_tbl, w.before args s = true) (hK1 : va_K D1 hh_cl [] s) (hK2 : va_K D2 hr_cl [] s) (hP : va_P D1 hh_cl W1 H) (hP2 : va_P D2 hr_cl Y H) (hD : va_D A (W1 ++ Y)) (hS : va_S A s.heap H locs) (hA : ∀ q, s.heap.size ≤ q → A q) (hcells : cells + 1 ≤ R.cells) (hslots : slots + 1 ≤ R.slots)
    (kk : ∀ (q : Nat) (cA : ClassId) (H1 : Heap), va_K D1 hh_cl [(cA, .long)] s → va_K D2 hr_cl [(cA, .long)] s → va_P D1 hh_cl W1 H1 → va_P D2 hr_cl (Y ++ hq_R q cA (fun _ => 0)) H1 → va_D A (W1 ++ (Y ++ hq_R q cA (fun _ => 0))) → va_S A s.heap H1 locs → W p l e R s m args below meth c H1 locs (cells + 1) (slots + 1) Q (F0 m 19 ls (.ref q :: rest))) : W p l e R s m args below meth c H locs cells slots Q (F0 m 17 ls (.int 1 :: rest)) := by
  refine va_newaK hx hb (atype := .long) (hts _ (hz_tbl _ hz_24)) rfl dL_law_17 rfl (by decide) (show (1 : Int32).toNatClampNeg = 1 from rfl) (by decide) hcells hslots rfl fun H1 cA e1 z1 o1 hAr hNm => ?_
  have ty : ∀ (D : va_G) (cl : List vw_C), va_K D cl [] s → va_K D cl [(cA, .long)] s := fun D cl h => ⟨h.1, fun k x hx => by
    have hz : k < 1 := (List.getElem?_eq_some_iff.mp hx).1
    rw [show k = 0 by omega] at hx
    cases hx
    exact ⟨hAr, hNm⟩⟩
  have hlt1 : ∀ (k : Nat) (x : Nat × va_E), W1[k]? = some x → x.1 < H.size := fun k x hx => (hP k x hx).lt
  have hlt2 : ∀ (k : Nat) (x : Nat × va_E), Y[k]? = some x → x.1 < H.size := fun k x hx => (hP2 k x hx).lt
  have hD3 : va_D A ((W1 ++ Y) ++ hq_R H.size cA (fun _ => 0)) := va_D.app hD ⟨fun i j p q hi hj e => by
    have h1 : i < 1 := (List.getElem?_eq_some_iff.mp hi).1
    have h2 : j < 1 := (List.getElem?_eq_some_iff.mp hj).1
    omega, fun k q hk => by
    have h1 : k < 1 := (List.getElem?_eq_some_iff.mp hk).1
    rw [show k = 0 by omega] at hk
    cases hk
    exact hA _ hS.1⟩ (fun i j p q hi hj e => by
    have h1 : j < 1 := (List.getElem?_eq_some_iff.mp hj).1
    rw [show j = 0 by omega] at hj
    cases hj
    have h2 : p.1 < H.size := by
      rcases List.mem_append.mp (List.mem_of_getElem? hi) with h | h
      · obtain ⟨i9, hi9⟩ := List.getElem?_of_mem h
        exact hlt1 i9 p hi9
      · obtain ⟨i9, hi9⟩ := List.getElem?_of_mem h
        exact hlt2 i9 p hi9
    have h3 : p.1 = H.size := e
    omega)
  rw [List.append_assoc] at hD3
  refine kk H.size cA H1 (ty D1 hh_cl hK1) (ty D2 hr_cl hK2) (hP.kept (fun k x hx => o1 x.1 (hlt1 k x hx))) (va_P.app (hP2.kept (fun k x hx => o1 x.1 (hlt2 k x hx))) (fun k x hx => ?_)) hD3 ⟨Nat.le_trans hS.1 (by omega), fun x h1 h2 => (o1 x (Nat.lt_of_lt_of_le h1 hS.1)).trans (hS.2.1 x h1 h2), hS.2.2⟩
  have hz : k < 1 := (List.getElem?_eq_some_iff.mp hx).1
  rw [show k = 0 by omega] at hx
  cases hx
  show H1[H.size]? = some (arrV cA 1 (fun _ => .long 0))
  exact e1
end HZ9
def R_law : String := "HandoverhouseLaw"
def hz_S : List Int32 := [0, 0, 60, 0, 1, 0, 0, 0, 0, 60, 2, 1, 0, 0] ++ (List.range 1148).map (fun j => if j % 7 = 0 then 22 else 0)
theorem hz_S_len : hz_S.length = 1162 := by simp [hz_S]
theorem hz_S_m : ∀ k : Nat, k < 14 → hz_S.getD k 0 = hz_h k := by
  intro k hk
  have : k = 0 ∨ k = 1 ∨ k = 2 ∨ k = 3 ∨ k = 4 ∨ k = 5 ∨ k = 6 ∨ k = 7 ∨ k = 8 ∨ k = 9 ∨ k = 10 ∨ k = 11 ∨ k = 12 ∨ k = 13 := by omega
  rcases this with rfl | rfl | rfl | rfl | rfl | rfl | rfl | rfl | rfl | rfl | rfl | rfl | rfl | rfl <;> rfl
theorem hz_S_d : ∀ j : Nat, 2 ≤ j → j < 166 → hz_S.getD (7 * j) 0 = 22 := by
  intro j h1 h2
  have e : hz_S[7 * j]? = some 22 := by
    unfold hz_S
    rw [List.getElem?_append_right (by show 14 ≤ _; omega)]
    rw [List.getElem?_map, List.getElem?_range (by show 7 * j - 14 < 1148; omega)]
    show some (if (7 * j - 14) % 7 = 0 then (22 : Int32) else 0) = some 22
    rw [if_pos (by omega)]
  rw [List.getD_eq_getElem?_getD, e]
  rfl
/-- the start: the script hz_S; what the Statement gives -/
def lw_P (b : Addr) (args : Array Value) (s : State) : Prop := args = #[.ref b] ∧ s.IntsAt b hz_S ∧ (Jvm.Cond.and given_1 narrow_1).before args s = true
def lw_At (p : Program) (s : State) (m : MethodId) (meth : Method) (c : Code) (b L : Nat) (xs : Nat → Int32) : Prop :=
  p.tables.exec = Jvm.exec ∧ c.code = code ∧ meth.sig.returnType = ret ∧ c.maxLocals = 9 ∧ s.vm.findClass R_law = some m.cls ∧ (∀ w ∈ lw_tbl, w.before #[Value.ref b] s = true) ∧ va_X b L xs s s.heap ∧ b < s.heap.size ∧ meth.locks = false ∧ (Jvm.Cond.and given_1 narrow_1).before #[Value.ref b] s = true
theorem hl_g_init : GoodIn lw_tbl (hh_wm yX7_init cX7_init 1 none) := fun w hw => by
  rcases List.mem_cons.mp hw with rfl | hw
  · exact ⟨hh_tbl _ hm_306, (hh_good _ hm_306).2⟩
  · exact ⟨hh_tbl _ hw, (hh_good _ hw).2⟩
set_option maxHeartbeats 4000000 in
set_option maxRecDepth 100000 in
theorem whole_start {p : Program} {e : Env} {s : State} {m : MethodId} {below : List Frame} {meth : Method} {c : Code} (l : Launch) {b : Nat} {xs : Nat → Int32} (hxm : ∀ k : Nat, k < 14 → xs k = hz_h k) (hxs : ∀ j : Nat, 2 ≤ j → j < 166 → xs (7 * j) = 22) (C0 : lw_At p s m meth c b 1162 xs) : W p l e hz_room s m #[Value.ref b] below meth c s.heap [] 0 0 (MQ below hz_Q #[Value.ref b] s 803144 3260102 (fun q : Nat => s.heap.size ≤ q)) (entryFrame m ([Value.ref b] : List Value).toArray 9) := by
  obtain ⟨hx, hb, hr, hml, hown, hts, hX, hbl, hlocks, hgv⟩ := id C0
  have hs := flat_of_before _ hgv
  have hA : ∀ q : Nat, s.heap.size ≤ q → (fun q : Nat => s.heap.size ≤ q) q := fun _ h => h
  have hA0 : ∀ q : Nat, q < s.heap.size → ¬ (fun q : Nat => s.heap.size ≤ q) q := fun _ h => Nat.not_le.mpr h
  have hbA : ¬ (fun q : Nat => s.heap.size ≤ q) b := Nat.not_le.mpr hbl
  obtain ⟨c0, iS0, hKn0⟩ := u_known (C := RX0) (T := TX0) (N := 7) (n := 7) hts hh_tX0 (hts (.instantiable RX0 7) (by decide +kernel))
  obtain ⟨c1, iS1, hKn1⟩ := u_known (C := RX1) (T := TX1) (N := 13) (n := 13) hts hh_tX1 (hts (.instantiable RX1 13) (by decide +kernel))
  obtain ⟨c2, iS2, hKn2⟩ := u_known (C := RX2) (T := TX2) (N := 6) (n := 6) hts hh_tX2 (hts (.instantiable RX2 6) (by decide +kernel))
  obtain ⟨c3, iS3, hKn3⟩ := u_known (C := RX3) (T := TX3) (N := 7) (n := 7) hts hh_tX3 (hts (.instantiable RX3 7) (by decide +kernel))
  obtain ⟨c4, iS4, hKn4⟩ := u_known (C := RX4) (T := TX4) (N := 3) (n := 3) hts hh_tX4 (hts (.instantiable RX4 3) (by decide +kernel))
  obtain ⟨c5, iS5, hKn5⟩ := u_known (C := RX5) (T := TX5) (N := 10) (n := 10) hts hh_tX5 (hts (.instantiable RX5 10) (by decide +kernel))
  obtain ⟨c6, iS6, hKn6⟩ := u_known (C := RX6) (T := TX6) (N := 3) (n := 3) hts hh_tX6 (hts (.instantiable RX6 3) (by decide +kernel))
  obtain ⟨c7, iS7, hKn7⟩ := u_known (C := RX7) (T := TX7) (N := 4) (n := 4) hts hh_tX7 (hts (.instantiable RX7 4) (by decide +kernel))
  obtain ⟨d0, jS0, hRn0⟩ := u_known (C := RJx4a65c) (T := TJx4a65c) (N := 3) (n := 3) hts hr_tJx4a65c (hts (.instantiable RJx4a65c 3) (by decide +kernel))
  obtain ⟨d1, jS1, hRn1⟩ := u_known (C := RX11) (T := TX11) (N := 5) (n := 5) hts hr_tX11 (hts (.instantiable RX11 5) (by decide +kernel))
  obtain ⟨d2, jS2, hRn2⟩ := u_known (C := RX12) (T := TX12) (N := 4) (n := 4) hts hr_tX12 (hts (.instantiable RX12 4) (by decide +kernel))
  obtain ⟨d3, jS3, hRn3⟩ := u_known (C := RX9) (T := TX9) (N := 9) (n := 9) hts hr_tX9 (hts (.instantiable RX9 9) (by decide +kernel))
  obtain ⟨d4, jS4, hRn4⟩ := u_known (C := RX10) (T := TX10) (N := 12) (n := 12) hts hr_tX10 (hts (.instantiable RX10 12) (by decide +kernel))
  obtain ⟨d5, jS5, hRn5⟩ := u_known (C := RJx35411) (T := TJx35411) (N := 4) (n := 4) hts hr_tJx35411 (hts (.instantiable RJx35411 4) (by decide +kernel))
  obtain ⟨uC, uI, hKu⟩ : ∃ (dC : Nat → ClassId) (dI : Nat → Nat → Nat), ∀ (k : Nat) (q : vw_C), hh_cl[k]? = some q → u_Kn s q.1 q.2.1 q.2.2 (dC k) (dI k) := by
    refine ⟨fun k => match k with | 0 => c0 | 1 => c1 | 2 => c2 | 3 => c3 | 4 => c4 | 5 => c5 | 6 => c6 | _ => c7, fun k => match k with | 0 => iS0 | 1 => iS1 | 2 => iS2 | 3 => iS3 | 4 => iS4 | 5 => iS5 | 6 => iS6 | _ => iS7, ?_⟩
    intro k q hq
    match k, hq with
    | 0, hq => cases hq; exact hKn0
    | 1, hq => cases hq; exact hKn1
    | 2, hq => cases hq; exact hKn2
    | 3, hq => cases hq; exact hKn3
    | 4, hq => cases hq; exact hKn4
    | 5, hq => cases hq; exact hKn5
    | 6, hq => cases hq; exact hKn6
    | 7, hq => cases hq; exact hKn7
    | k + 8, hq => simp [hh_cl] at hq
  obtain ⟨wC, wI, hKw⟩ : ∃ (dC : Nat → ClassId) (dI : Nat → Nat → Nat), ∀ (k : Nat) (q : vw_C), hr_cl[k]? = some q → u_Kn s q.1 q.2.1 q.2.2 (dC k) (dI k) := by
    refine ⟨fun k => match k with | 0 => d0 | 1 => d1 | 2 => d2 | 3 => d3 | 4 => d4 | _ => d5, fun k => match k with | 0 => jS0 | 1 => jS1 | 2 => jS2 | 3 => jS3 | 4 => jS4 | _ => jS5, ?_⟩
    intro k q hq
    match k, hq with
    | 0, hq => cases hq; exact hRn0
    | 1, hq => cases hq; exact hRn1
    | 2, hq => cases hq; exact hRn2
    | 3, hq => cases hq; exact hRn3
    | 4, hq => cases hq; exact hRn4
    | 5, hq => cases hq; exact hRn5
    | k + 6, hq => simp [hr_cl] at hq
  have hN1 : hn_N s := ⟨(hts (.arrayOver (.object RX3)) (by decide +kernel)), (hts (.arrayOver (.object RX1)) (by decide +kernel)), (hts (.arrayOver (.object RX0)) (by decide +kernel)), (hts (.arrayOver (.array .int)) (by decide +kernel)), va_Nw.of rfl (hts (.methodLinkNest RX4 17 yX3_init RX7) (by decide +kernel)), va_Nw.of rfl (hts (.methodLinkNest RX5 28 yX1_init RX7) (by decide +kernel)), va_Nw.of rfl (hts (.methodLinkNest RX5 35 yX0_init RX7) (by decide +kernel)), va_Nw.of rfl (hts (.methodLinkNest RX0 11 yX2_init RX7) (by decide +kernel)), va_Nw.of rfl (hts (.methodLinkNest RX7 30 yX6_init RX7) (by decide +kernel))⟩
  obtain ⟨z, hZz⟩ := hz_Zof (A := fun q : Nat => s.heap.size ≤ q) (hts (.laysStatic RJx4a65c hr_eN hr_eD) (by decide +kernel)) (hts (.initialized RJx4a65c) (by decide +kernel)) (hs (.arrayOf (.static RJx4a65c hr_eN hr_eD) (.object "java/lang/Object")) (by decide +kernel)) (hs (.eq (.length (.static RJx4a65c hr_eN hr_eD)) (.int 0)) (by decide +kernel)) hA0
  have hVr : hr_V s := ⟨va_Nw.of rfl (hts (.methodLinkNest RX12 9 yX11_init RX12) (by decide +kernel)), va_Nw.of rfl (hts (.methodLinkNest RX11 125 yX12_one RX12) (by decide +kernel)), va_Nw.of rfl (hts (.fieldLinkNest RJx35411 28 RJx4a65c "size" "I" RJx4a65c) (by decide +kernel)), va_Fw.of (hts (.declares hr_hn) (by decide +kernel)) (hts (.interfaceMethod hr_hn.cls hr_hn.cls hr_hn.name hr_hn.desc) (by decide +kernel)) (hts (.publicMethod yJx35411_hasNext_aae02) (by decide +kernel)) (hts (.unhidden RJx35411 hr_hn.name hr_hn.desc) (by decide +kernel)) (hts (.castable RJx35411 hr_hn.cls) (by decide +kernel)), va_AO.of (hts (.arrayOver (.object "java/lang/Object")) (by decide +kernel)), (hts (.arrayOver (.array .int)) (by decide +kernel)), va_Nw.of rfl (hts (.castable RX9 "java/lang/Object") (by decide +kernel)), va_Nw.of rfl (hts (.castable RX10 "java/lang/Object") (by decide +kernel)), va_Fw.of (hts (.declares hr_nx) (by decide +kernel)) (hts (.interfaceMethod hr_nx.cls hr_nx.cls hr_nx.name hr_nx.desc) (by decide +kernel)) (hts (.publicMethod yJx35411_next_0502b) (by decide +kernel)) (hts (.unhidden RJx35411 hr_nx.name hr_nx.desc) (by decide +kernel)) (hts (.castable RJx35411 hr_nx.cls) (by decide +kernel))⟩
  have hNr : hr_N z (fun q : Nat => s.heap.size ≤ q) s s.heap := ⟨hVr, hZz⟩
  have hS : va_S (fun q : Nat => s.heap.size ≤ q) s.heap s.heap [] := va_S.rf
  have hK : va_K (uC, uI) hh_cl [] s := ⟨hKu, fun k q h => by simp at h⟩
  have hKr : va_K (wC, wI) hr_cl [] s := ⟨hKw, fun k q h => by simp at h⟩
  have hP : va_P (uC, uI) hh_cl [] s.heap := fun k q h => by simp at h
  have hD : va_D (fun q : Nat => s.heap.size ≤ q) [] := ⟨fun i j p q h => by simp at h, fun k q h => by simp at h⟩
  have hl := lv_entry ([.ref b]) (n := 9) (Nat.le_of_ble_eq_true rfl)
  rw [lg_entry_eq]
  generalize (lg_sl ([.ref b]) ++ List.replicate (9 - (lg_sl ([.ref b])).length) Slot.unset).toArray = ls at hl ⊢
  have hl : lv_has ls 9 [(0, .ref b)] := hl
  refine va_new (ci := 7) (fs := [.null, .null, .null, .null]) (C := RX7) (T := TX7) (N := 4) hx hb hts hh_tX7 tyX7 tyX7_ok hown (hts (.classLink RL 8 RX7) (by decide +kernel)) (hts (.instantiable RX7 4) (by decide +kernel)) (hts (.initialized RX7) (by decide +kernel)) hK hP hD hS hA rfl (fun j hj => by rcases (show j = 0 ∨ j = 1 ∨ j = 2 ∨ j = 3 by omega) with rfl | rfl | rfl | rfl <;> rfl) (Nat.le_of_ble_eq_true rfl) (Nat.le_of_ble_eq_true rfl) dL_law_0 (fun q0 H hP hD hS => ?_)
  have hP : va_P (uC, uI) hh_cl [(q0, .inr (7, [.null, .null, .null, .null]))] H := hP
  have hD : va_D (fun q : Nat => s.heap.size ≤ q) [(q0, .inr (7, [.null, .null, .null, .null]))] := hD
  have hz0 : s.heap.size ≤ H.size := hS.1
  refine W.widen (k := 1) (n := 4) (by decide) (by decide) ?_
  refine lv_dup hx hb dL_law_3 rfl ?_
  refine va_callv (va_runI (As := []) (rest := [.ref q0]) ⟨hx, hb, hml, hown, hts⟩ (hn_X7 l (uC, uI) q0 H.size) (cwI 0 hts hl_g_init rfl rfl rfl (hts (.initialized RX7) (by decide +kernel)) (hts (.methodLink RL 80 yX7_init) (by decide +kernel)) (hts (.instanceMethod yX7_init) (by decide +kernel)) rfl (by decide +kernel) ⟨Nat.le_of_ble_eq_true rfl, Nat.le_of_ble_eq_true rfl⟩) ⟨hn_blind, fun U hU hW => ⟨rfl, by rw [hU], by rw [hU]; exact hP, va_K.moved hW.alike hK, hN1.warm hW, hD.weaken (fun _ _ _ _ => trivial)⟩⟩ rfl rfl hl.1 rfl (lv_room (Nat.le_of_ble_eq_true rfl)) dL_law_4 ⟨Nat.le_of_ble_eq_true rfl, Nat.le_of_ble_eq_true rfl⟩) hS (fun q h1 h2 => ?_) (fun q h => ?_) (fun u t H1 locs1 ht hvm hw hB hz1 hk1 hS => ?_)
  · rcases h2 with ⟨k, e', he⟩ | h2
    · exact hD.2 k (q, e') he
    · exact Nat.le_trans hS.1 h2
  · rcases h with ⟨k, e', he⟩ | h
    · exact hD.2 k (q, e') he
    · exact Nat.le_trans hS.1 h
  obtain ⟨hP1, hK1, hD1⟩ := hB
  rw [ht] at hP1
  have hK1 := va_K.moved hvm.symm hK1
  have hD1 : va_D (fun q : Nat => s.heap.size ≤ q) (hn_WX q0 u) := hD1.weaken (fun k q _ h => by
    rcases h with ⟨k, e', he⟩ | h
    · exact hD.2 k (q.1, e') he
    · exact Nat.le_trans hz0 h)
  obtain ⟨K, ad, e0, hP2, hD2, hK2⟩ := hn_world hP1 hD1 hK1
  subst e0
  refine W.widen (k := 190) (n := 2192) (by decide) (by decide) ?_
  refine lv_astore_n (lv' := [(1, .ref (ad 0)), (0, .ref b)]) hx hb dL_law_7 rfl hl (by decide) rfl (fun ls hl => ?_)
  refine hz_new (D1 := (uC, uI)) (D2 := (wC, wI)) (fs := [.int 0, .null, .int 0, .int 0]) hx hb hown hts hKr hP2 hD2 hS hA (fun j hj => by rcases (show j = 0 ∨ j = 1 ∨ j = 2 ∨ j = 3 by omega) with rfl | rfl | rfl | rfl <;> rfl) (Nat.le_of_ble_eq_true rfl) (Nat.le_of_ble_eq_true rfl) (fun q1 H hP2 hR2 hD2 hS => ?_)
  refine lv_dup hx hb dL_law_11 rfl ?_
  refine hz_ini (D1 := (uC, uI)) (D2 := (wC, wI)) (z := z) hx hb hml hown hts hKr hP2 hR2 hD2 hS hA hNr ⟨Nat.le_of_ble_eq_true rfl, Nat.le_of_ble_eq_true rfl⟩ ⟨Nat.le_of_ble_eq_true rfl, Nat.le_of_ble_eq_true rfl⟩ hl.1 (Nat.le_of_ble_eq_true rfl) (fun a H locs ha hP3 hR3 hD3 hS => ?_)
  subst ha
  refine W.widen (k := 196) (n := 2213) (by decide) (by decide) ?_
  refine lv_astore_n (lv' := [(2, .ref (a 0)), (1, .ref (ad 0)), (0, .ref b)]) hx hb dL_law_15 rfl hl (by decide) rfl (fun ls hl => ?_)
  refine lv_iconst (v := 1) hx hb dL_law_16 (by decide) ?_
  refine hz_newl (D1 := (uC, uI)) (D2 := (wC, wI)) hx hb hts hK hKr hP3 hR3 hD3 hS hA (Nat.le_of_ble_eq_true rfl) (Nat.le_of_ble_eq_true rfl) (fun o cJ H hJ1 hJ2 hP4 hR4 hD4 hS => ?_)
  refine lv_astore_n (lv' := [(3, .ref o), (2, .ref (a 0)), (1, .ref (ad 0)), (0, .ref b)]) hx hb dL_law_19 rfl hl (by decide) rfl (fun ls hl => ?_)
  refine lv_iconst (v := 0) hx hb dL_law_20 (by decide) ?_
  refine lv_istore (lv' := [(4, .int 0), (3, .ref o), (2, .ref (a 0)), (1, .ref (ad 0)), (0, .ref b)]) hx hb dL_law_21 hl (by decide) rfl (fun ls hl => ?_)
  obtain ⟨compO, cO, kO, hcO1, -, hcO3, hcO4, hcO5⟩ := Cond.arrayOver_spec (hts (.arrayOver (.object "java/lang/Object")) (by decide +kernel))
  have hKO : va_K (wC, wI) hr_cl (hs_t cO) s := ⟨hKw, fun k q h => by
    have h1 : k < 1 := (List.getElem?_eq_some_iff.mp h).1
    rw [show k = 0 by omega] at h
    cases h
    exact ⟨fun N z => ⟨(fun k h => by cases h), kO, hcO3, compO, hcO4⟩, kO, compO, hcO3, hcO4, hcO1, hcO5⟩⟩
  have hD5 : va_D (fun q : Nat => s.heap.size ≤ q) ((hh_W K ad hn_v0 ++ hq_R o cJ (fun _ => 0)) ++ hr_Y a z 0 0) := va_D.swap (by rw [List.append_assoc]; exact hD4)
  exact hz_first ⟨hx, hb, hml, hown, hts, hK2, hJ1, hKO, hA, hNr, hX, hbl, hbA⟩ hr hlocks hxm hxs hn_T0 ⟨va_P.app hP4 (hq_P1 (n := 0) (hr_Pr hR4)), hr_Pl hR4, hD5, hS⟩ hl
set_option maxHeartbeats 4000000 in
theorem lw_walk (l : Launch) (b : Addr) : MetFree l x (headSpec (Jvm.Cond.code x code maxLocals ret :: tables_1) hz_room) (lw_P b) (fun _ _ _ _ _ => True) hz_Q := by
  refine MetFree.of_bodyS (code := code) (maxLocals := maxLocals) (ret := ret) (by decide) ?_ ?_
  · intro args s m h hn
    obtain ⟨meth, c, h1, h2, h3, h4, h5, h6, -, -⟩ := Cond.code_spec hn (atoms_spec (ws := Jvm.Cond.code x code maxLocals ret :: tables_1) h _ List.mem_cons_self)
    exact ⟨meth, c, h1, h2, h3, h4, h5, h6⟩
  · intro p e s m args below meth c s₁ B hml0 hP _
    obtain ⟨rfl, hx, hgv⟩ := hP
    obtain ⟨scr, harrAt, hlist, hof, hsmall⟩ := hx
    obtain ⟨hcb, hkn, -, -⟩ := State.arrayAt?_spec harrAt
    have hown : s.vm.findClass R_law = some m.cls := findClass_of_methodNamed B.named
    have hts0 : ∀ c ∈ (Jvm.Cond.code x code maxLocals ret :: tables_1), c.before #[Value.ref b] s = true := atoms_spec (ws := Jvm.Cond.code x code maxLocals ret :: tables_1) B.pre
    have hts : ∀ w ∈ lw_tbl, w.before #[Value.ref b] s = true := k2_hts_sels lw_privs (fun w hw => hts0 w (List.mem_cons_of_mem _ hw)) lw_privs_ok
    have hml : c.maxLocals = 9 := B.maxLocals_eq (hts0 _ List.mem_cons_self)
    have X₀ : Stand p l e hz_room s m #[Value.ref b] below meth c s₁ [] 0 0 := Stand.of_body B
    have hh0 : s₁.heap = s.heap := by rw [B.state]; rfl
    have hsz : scr.slots.size = hz_S.length := by rw [← Array.length_toList, hlist, List.length_map]
    have hval : ∀ j : Nat, j < hz_S.length → scr.slots[j]? = some (.int (hz_S.getD j 0)) := fun j hj => by
      rw [← Array.getElem?_toList, hlist]
      simp [hj]
    rw [hz_S_len] at hsz hval
    have hbl : b < s.heap.size := (Array.getElem?_eq_some_iff.mp hcb).1
    have hX : va_X b 1162 (fun j => hz_S.getD j 0) s s.heap := ⟨scr, hcb, hof, hkn, hsz, hval⟩
    have K : W p l e hz_room s m #[Value.ref b] below meth c s₁.heap [] 0 0 (MQ below hz_Q #[Value.ref b] s 803144 3260102 (fun q : Nat => s.heap.size ≤ q)) (entryFrame m ([Value.ref b] : List Value).toArray 9) := by
      rw [hh0]
      exact whole_start l hz_S_m hz_S_d ⟨B.exec, B.bytes, B.returns, hml, hown, hts, hX, hbl, B.notSynchronized, hgv⟩
    obtain ⟨t, a1, o, b1, b2, b3, -⟩ := K s₁ rfl X₀
    exact ⟨t, o, a1, b1, b2, b3⟩
/-- THE STATEMENT OF p23 IS FALSE: at every start that it allows, with the script hz_S (two masts, 164 checksums: 166 calls) and room for 803144 new cells where the Statement asks for 798207, the law ends either with 0 or behind at least 802944 new cells: never as Claimed_1_1 and Claimed_1_2 say -/
theorem whole_is_false {l : Launch} {p : Program} {e : Env} {s : State} {m : MethodId} {args : Array Value} {below : List Frame} {b : Addr} (hfl : l.flags = flags0)
    (hst : AtStart classFile x code maxLocals ret World_1 tables_1 room_1 Calls_1 rest_1 Pre_1 l p e s m args below)
    (hbig : (headSpec (Jvm.Cond.code x code maxLocals ret :: tables_1) hz_room).applies x e.platform s = true)
    (hargs : args = #[.ref b]) (hscript : s.IntsAt b hz_S) : ¬ (Claimed_1_1 ∧ Claimed_1_2) := by
  rintro ⟨c1, c2⟩
  obtain ⟨hL, hW, hadm, -, hcas, hclk, hf, hfit, hheap, happ, hcalls, hrest, hpre⟩ := hst
  obtain ⟨n1, o1, w1, -, e1, -, q1, -⟩ := c1 l hfl hL hW p e hadm hcas hclk s m args below hf hfit hheap happ ⟨hcalls, hrest, hpre⟩
  obtain ⟨n2, o2, w2, -, e2, q2, -⟩ := c2 l hfl hL hW p e hadm hcas hclk s m args below hf hfit hheap happ ⟨hcalls, hrest, hpre⟩
  obtain ⟨n3, o3, w3, -, e3, q3⟩ := lw_walk l b p e hadm hcas hclk s m args below hf ((Spec.applies_iff_loose hf).mp hbig).1 ⟨hargs, hscript, hpre⟩ trivial
  have same : ∀ {n n' : Nat} {o o' : Outcome}, (∀ k, k < n → Within (stepsAlone p.tables e k s) below) → Ended (stepsAlone p.tables e n s) below o → (∀ k, k < n' → Within (stepsAlone p.tables e k s) below) → Ended (stepsAlone p.tables e n' s) below o' → n = n' := by
    intro n n' o o' hw he hw' he'
    rcases Nat.lt_trichotomy n n' with h | h | h
    · exact absurd (hw' n h) he.not_within
    · exact h
    · exact absurd (hw n' h) he'.not_within
  have h13 := same w1 e1 w3 e3
  subst h13
  have h12 := same w1 e1 w2 e2
  subst h12
  have ho := e3.outcome_unique e2
  subst ho
  obtain ⟨r, rfl, hr | hr⟩ := q3
  · exact hr.elim
  · have h := q1.2.2.2.2.1
    have h9 : (stepsAlone p.tables e n1 s).heap.size ≤ s.heap.size + 798207 := h
    omega
