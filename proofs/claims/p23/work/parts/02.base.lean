/-! THE CLASS'S WORLD: 190 cells at fixed places of one list; all that changes in it is whole numbers: hh_M, by cell and field.
    0 Handoverhouse, 1 Masts, 2 Mast[], 3 int[][], 4 Survey, 5 6 7 its rows, 8..13 Mast, 14..19 rows of qualities; then two Roads of 85 cells each:
    +0 Road, +1 load, +2 carried, +3 Handset[], +4 Call[], +5.. Handset (8), +13.. Call (24), +37.. Leg (48) -/
abbrev hh_cl : List vw_C := [(RX0, TX0, 7), (RX1, TX1, 13), (RX2, TX2, 6), (RX3, TX3, 7), (RX4, TX4, 3), (RX5, TX5, 10), (RX6, TX6, 3), (RX7, TX7, 4)]
abbrev hh_M : Type := Nat → Nat → Int32
def hh_up (v : hh_M) (j k : Nat) (x : Int32) : hh_M := fun a b => if a = j ∧ b = k then x else v a b
def hh_mI (i : Nat) : Nat := 8 + i
def hh_bI (i : Nat) : Nat := 14 + i
def hh_rI (r : Nat) : Nat := 20 + 85 * r
def hh_lI (r : Nat) : Nat := 21 + 85 * r
def hh_kI (r : Nat) : Nat := 22 + 85 * r
def hh_HI (r : Nat) : Nat := 23 + 85 * r
def hh_CI (r : Nat) : Nat := 24 + 85 * r
def hh_hI (r i : Nat) : Nat := 25 + 85 * r + i
def hh_cI (r i : Nat) : Nat := 33 + 85 * r + i
def hh_gI (r i g : Nat) : Nat := 57 + 85 * r + 2 * i + g
/-- the kind of a cell -/
def hh_kd (j : Nat) : Nat := if j < 20 then (if j < 8 then j else if j < 14 then 8 else 9) else if (j - 20) % 85 < 5 then 10 + (j - 20) % 85 else if (j - 20) % 85 < 13 then 15 else if (j - 20) % 85 < 37 then 16 else 17
def hh_rd (j : Nat) : Nat := (j - 20) / 85
/-- what a cell holds -/
def hh_E (K : Nat → ClassId) (ad : Nat → Nat) (v : hh_M) (j : Nat) : va_E := match hh_kd j with
  | 0 => .inr (7, [.ref (ad 1), .ref (ad (hh_rI 0)), .ref (ad (hh_rI 1)), .ref (ad 4)])
  | 1 => .inr (4, [.ref (ad 2), .ref (ad 3), .int (v j 2)])
  | 2 => .inl (K 2, 6, .inr (.inr (.inr (.inr (fun i => some (ad (hh_mI i)))))))
  | 3 => .inl (K 1, 6, .inr (.inr (.inr (.inr (fun i => some (ad (hh_bI i)))))))
  | 4 => .inr (6, [.ref (ad 5), .ref (ad 6), .ref (ad 7)])
  | 8 => .inr (3, [.int (v j 0), .int (v j 1), .int (v j 2), .int (v j 3), .int (v j 4), .int (v j 5), .int (v j 6)])
  | 10 => .inr (5, [.ref (ad 1), .ref (ad (hh_lI (hh_rd j))), .ref (ad (hh_kI (hh_rd j))), .ref (ad (hh_HI (hh_rd j))), .ref (ad (hh_CI (hh_rd j))), .int (v j 5), .int (v j 6), .int (v j 7), .int (v j 8), .int (v j 9)])
  | 11 => .inl (K 0, 6, .inl (v j))
  | 12 => .inl (K 0, 6, .inl (v j))
  | 13 => .inl (K 3, 8, .inr (.inr (.inr (.inr (fun i => some (ad (hh_hI (hh_rd j) i)))))))
  | 14 => .inl (K 4, 24, .inr (.inr (.inr (.inr (fun i => some (ad (hh_cI (hh_rd j) i)))))))
  | 15 => .inr (1, [.int (v j 0), .int (v j 1), .int (v j 2), .int (v j 3), .int (v j 4), .int (v j 5), .int (v j 6), .int (v j 7), .int (v j 8), .int (v j 9), .int (v j 10), .int (v j 11), .int (v j 12)])
  | 16 => .inr (0, [.ref (ad (hh_gI (hh_rd j) ((j - 20) % 85 - 13) 0)), .ref (ad (hh_gI (hh_rd j) ((j - 20) % 85 - 13) 1)), .int (v j 2), .int (v j 3), .int (v j 4), .int (v j 5), .int (v j 6)])
  | 17 => .inr (2, [.int (v j 0), .int (v j 1), .int (v j 2), .int (v j 3), .int (v j 4), .int (v j 5)])
  | _ => .inl (K 0, 100, .inl (v j))
def hh_W (K : Nat → ClassId) (ad : Nat → Nat) (v : hh_M) : va_W := (List.range 190).map (fun j => (ad j, hh_E K ad v j))
def hh_ty (K : Nat → ClassId) : List (ClassId × FieldType) := [(K 0, .int), (K 1, .array .int), (K 2, .object RX3), (K 3, .object RX1), (K 4, .object RX0)]
theorem hh_W_at {K : Nat → ClassId} {ad : Nat → Nat} {v : hh_M} {j : Nat} (h : j < 190) : (hh_W K ad v)[j]? = some (ad j, hh_E K ad v j) := by
  unfold hh_W
  rw [List.getElem?_map, List.getElem?_range h]
  rfl
theorem hh_E_congr {K : Nat → ClassId} {ad : Nat → Nat} {v w : hh_M} {j : Nat} (h : v j = w j) : hh_E K ad v j = hh_E K ad w j := by
  unfold hh_E
  rw [h]
theorem hh_up_ne {v : hh_M} {j k i : Nat} {x : Int32} (h : i ≠ j) : hh_up v j k x i = v i := by
  funext b
  simp [hh_up, h]
theorem hh_up_self {v : hh_M} {j k : Nat} {x : Int32} : hh_up v j k x j = upd (v j) k x := by
  funext b
  simp [hh_up, upd]
theorem hh_W_set {K : Nat → ClassId} {ad : Nat → Nat} {v : hh_M} {j k : Nat} {x : Int32} (h : j < 190) : (hh_W K ad v).set j (ad j, hh_E K ad (hh_up v j k x) j) = hh_W K ad (hh_up v j k x) := by
  apply List.ext_getElem?
  intro i
  by_cases hi : i < 190
  · rw [hh_W_at hi]
    by_cases e : i = j
    · subst e
      rw [List.getElem?_set_self (by simpa [hh_W] using h)]
    · rw [List.getElem?_set_ne (Ne.symm e), hh_W_at hi, hh_E_congr (hh_up_ne e)]
  · have h1 : (hh_W K ad (hh_up v j k x))[i]? = none := List.getElem?_eq_none (by simp [hh_W]; omega)
    rw [h1]
    exact List.getElem?_eq_none (by simp [hh_W]; omega)
theorem hh_kd_m {i : Nat} (h : i < 6) : hh_kd (hh_mI i) = 8 := by unfold hh_kd hh_mI; rw [if_pos (by omega), if_neg (by omega), if_pos (by omega)]
theorem hh_kd_b {i : Nat} (h : i < 6) : hh_kd (hh_bI i) = 9 := by unfold hh_kd hh_bI; rw [if_pos (by omega), if_neg (by omega), if_neg (by omega)]
theorem hh_rd_o {r o : Nat} (h : o < 85) : hh_rd (20 + 85 * r + o) = r := by unfold hh_rd; omega
theorem hh_md_o {r o : Nat} (h : o < 85) : (20 + 85 * r + o - 20) % 85 = o := by omega
theorem hh_kd_o {r o : Nat} (h : o < 85) : hh_kd (20 + 85 * r + o) = if o < 5 then 10 + o else if o < 13 then 15 else if o < 37 then 16 else 17 := by
  unfold hh_kd
  rw [hh_md_o h, if_neg (by omega)]
theorem hh_kd_r (r : Nat) : hh_kd (hh_rI r) = 10 := hh_kd_o (o := 0) (by omega)
theorem hh_kd_l (r : Nat) : hh_kd (hh_lI r) = 11 := by have := hh_kd_o (r := r) (o := 1) (by omega); unfold hh_lI; rw [show 21 + 85 * r = 20 + 85 * r + 1 by omega]; exact this
theorem hh_kd_k (r : Nat) : hh_kd (hh_kI r) = 12 := by have := hh_kd_o (r := r) (o := 2) (by omega); unfold hh_kI; rw [show 22 + 85 * r = 20 + 85 * r + 2 by omega]; exact this
theorem hh_kd_H (r : Nat) : hh_kd (hh_HI r) = 13 := by have := hh_kd_o (r := r) (o := 3) (by omega); unfold hh_HI; rw [show 23 + 85 * r = 20 + 85 * r + 3 by omega]; exact this
theorem hh_kd_C (r : Nat) : hh_kd (hh_CI r) = 14 := by have := hh_kd_o (r := r) (o := 4) (by omega); unfold hh_CI; rw [show 24 + 85 * r = 20 + 85 * r + 4 by omega]; exact this
theorem hh_kd_h (r : Nat) {i : Nat} (h : i < 8) : hh_kd (hh_hI r i) = 15 := by have := hh_kd_o (r := r) (o := 5 + i) (by omega); unfold hh_hI; rw [show 25 + 85 * r + i = 20 + 85 * r + (5 + i) by omega, this, if_neg (by omega), if_pos (by omega)]
theorem hh_kd_c (r : Nat) {i : Nat} (h : i < 24) : hh_kd (hh_cI r i) = 16 := by have := hh_kd_o (r := r) (o := 13 + i) (by omega); unfold hh_cI; rw [show 33 + 85 * r + i = 20 + 85 * r + (13 + i) by omega, this, if_neg (by omega), if_neg (by omega), if_pos (by omega)]
theorem hh_kd_g (r : Nat) {i g : Nat} (h : i < 24) (hg : g < 2) : hh_kd (hh_gI r i g) = 17 := by have := hh_kd_o (r := r) (o := 37 + 2 * i + g) (by omega); unfold hh_gI; rw [show 57 + 85 * r + 2 * i + g = 20 + 85 * r + (37 + 2 * i + g) by omega, this, if_neg (by omega), if_neg (by omega), if_neg (by omega)]
theorem hh_rd_r (r : Nat) : hh_rd (hh_rI r) = r := hh_rd_o (o := 0) (by omega)
theorem hh_rd_H (r : Nat) : hh_rd (hh_HI r) = r := by have := hh_rd_o (r := r) (o := 3) (by omega); unfold hh_HI; rw [show 23 + 85 * r = 20 + 85 * r + 3 by omega]; exact this
theorem hh_rd_C (r : Nat) : hh_rd (hh_CI r) = r := by have := hh_rd_o (r := r) (o := 4) (by omega); unfold hh_CI; rw [show 24 + 85 * r = 20 + 85 * r + 4 by omega]; exact this
theorem hh_rd_h (r : Nat) {i : Nat} (h : i < 8) : hh_rd (hh_hI r i) = r := by unfold hh_rd hh_hI; omega
theorem hh_rd_c (r : Nat) {i : Nat} (h : i < 24) : hh_rd (hh_cI r i) = r := by unfold hh_rd hh_cI; omega
theorem hh_rd_g (r : Nat) {i g : Nat} (h : i < 24) (hg : g < 2) : hh_rd (hh_gI r i g) = r := by unfold hh_rd hh_gI; omega
theorem hh_ix_c (r : Nat) {i : Nat} (h : i < 24) : (hh_cI r i - 20) % 85 - 13 = i := by unfold hh_cI; omega
/-- the world at a moment: the cells stand, apart and in A; nothing old outside A was written -/
def hh_H (D : va_G) (K : Nat → ClassId) (ad : Nat → Nat) (A : Nat → Prop) (H0 : Heap) (v : hh_M) (H : Heap) (locs : List Loc) : Prop := va_P D hh_cl (hh_W K ad v) H ∧ va_D A (hh_W K ad v) ∧ va_S A H0 H locs
/-- what a walk of a method has at hand -/
def hh_C (p : Program) (s : State) (m : MethodId) (args : Array Value) (meth : Method) (c : Code) (D : va_G) (K : Nat → ClassId) (cc : ByteArray) (nL : Nat) (ret : Option FieldType) (own : String) (A : Nat → Prop) : Prop :=
  p.tables.exec = Jvm.exec ∧ c.code = cc ∧ meth.sig.returnType = ret ∧ c.maxLocals = nL ∧ s.vm.findClass own = some m.cls ∧ (∀ w ∈ hh_wa, w.before args s = true) ∧ va_K D hh_cl (hh_ty K) s ∧ meth.locks = false ∧ (∀ q, s.heap.size ≤ q → A q)
