/-! the counters of a new road, with its masts and handsets -/
section HPS
variable {T K : Nat} {u v w : hh_M} {n m : Nat}
theorem hm_I.L (h : hm_I T K v) (hL : ∀ j, 20 ≤ j → j < 105 → w j = v j) : hm_I T K w := by
  have cc : ∀ q, q < 24 → w (hh_cI 0 q) = v (hh_cI 0 q) := fun q hq => hL _ (by unfold hh_cI; omega) (by unfold hh_cI; omega)
  have hh : ∀ q, q < 8 → w (hh_hI 0 q) = v (hh_hI 0 q) := fun q hq => hL _ (by unfold hh_hI; omega) (by unfold hh_hI; omega)
  have rr : w (hh_rI 0) = v (hh_rI 0) := hL _ (by unfold hh_rI; omega) (by unfold hh_rI; omega)
  obtain ⟨a1, a2, a3, a4, a5, a6⟩ := h
  refine ⟨fun a b ha hb => ?_, ?_, fun q hq => ?_, fun q hq => ?_, ?_, ?_⟩
  · rw [hL (hh_gI 0 a b) (by unfold hh_gI; omega) (by unfold hh_gI; omega)]; exact a1 a b ha hb
  · rw [rr]; exact a2
  · rw [cc q hq]; exact a3 q hq
  · rw [hh q hq]; exact a4 q hq
  · rw [rr]; exact a5
  · rw [rr]; exact a6
theorem hm_I.A (h : hm_I T K v) (hL : hh_L 1 v w) : hm_I T K w := h.L (fun j _ h2 => hL j (by omega))
theorem hm_handset {op pl sp ba : Int32} (h : hm_I T K v) (h5 : (v (hh_rI 0) 5).toNatClampNeg < 8) : hm_I T K (hf_X7_handset v op pl sp ba).2 := by
  unfold hf_X7_handset
  refine hh_let_p (A := fun z : hh_M => hm_I T K z) (P := fun z : Int32 × hh_M => hm_I T K z.2) (h.up (by unfold hh_hI; omega)).1 (fun z1 h1 => ?_)
  refine hh_let_p (A := fun z : hh_M => hm_I T K z) (P := fun z : Int32 × hh_M => hm_I T K z.2) (h1.up (by unfold hh_hI; omega)).1 (fun z2 h2 => ?_)
  refine hh_let_p (A := fun z : hh_M => hm_I T K z) (P := fun z : Int32 × hh_M => hm_I T K z.2) (h2.up (by unfold hh_hI; omega)).1 (fun z3 h3 => ?_)
  refine hh_let_p (A := fun z : hh_M => hm_I T K z) (P := fun z : Int32 × hh_M => hm_I T K z.2) (h3.up (by unfold hh_hI; omega)).1 (fun z4 h4 => ?_)
  refine hh_let_p (A := fun z : hh_M => hm_I T K z) (P := fun z : Int32 × hh_M => hm_I T K z.2) (h4.up (by unfold hh_hI; omega)).1 (fun z5 h5 => ?_)
  exact hh_let_p (A := fun z : hh_M => hm_I T K z) (P := fun z : Int32 × hh_M => hm_I T K z.2) (h5.up (by unfold hh_rI; omega)).1 (fun z6 h6 => h6)
/-- nothing from cell 20 on is written -/
def hm_Z (v w : hh_M) : Prop := ∀ j, 20 ≤ j → w j = v j
theorem hm_Z.up {j k : Nat} {x : Int32} (h : hm_Z v w) (hj : j < 20) : hm_Z v (hh_up w j k x) := fun i hi => (hh_up_ne (by omega)).trans (h i hi)
theorem hm_measure {n : Nat} (hn : (v 1 2).toNatClampNeg ≤ 6) : hm_Z v (hf_X4_measure v) := by
  have h2 : ∀ i (z : hh_M), i < 6 → hm_Z v z → hm_Z v (hl_X4_measure_2 i z) := fun i z hi hz => by
    have hf := hh_fld_in (f := fun (i9 : Nat) (y : hh_M) => hl_X4_measure_12 i i9 y) (n := 100) (s := z) (I := fun _ y => hm_Z v y) hz (fun j y hj hy => by
      unfold hl_X4_measure_12
      refine hh_let_p (A := fun _ : Int32 => True) (P := fun y : hh_M => hm_Z v y) trivial (fun q _ => ?_)
      exact hh_let_p (A := fun y : hh_M => hm_Z v y) (P := fun y : hh_M => hm_Z v y) (hy.up (by unfold hh_bI; omega)) (fun y h => h))
    unfold hl_X4_measure_2
    exact hh_let_p (A := fun y : hh_M => hm_Z v y) (P := fun y : hh_M => hm_Z v y) hf (fun y h => h)
  have hf := hh_fld_in (f := fun (i9 : Nat) (y : hh_M) => hl_X4_measure_2 i9 y) (n := (v 1 2).toNatClampNeg) (s := v) (I := fun _ y => hm_Z v y) (fun _ _ => rfl) (fun i y hi hy => h2 i y (by omega) hy)
  unfold hf_X4_measure
  exact hh_let_p (A := fun y : hh_M => hm_Z v y) (P := fun y : hh_M => hm_Z v y) hf (fun y h => h)
theorem hm_mast {pl pw fr ch ar op : Int32} (h : hm_I T K v) (hM : v 1 2 = nI n) (hn : n < 6) : hm_I T K (hf_X7_mast v pl pw fr ch ar op).2 := by
  have e : (v 1 2).toNatClampNeg = n := by rw [hM]; exact nI_clamp (by omega)
  have mi : hh_mI (v 1 2).toNatClampNeg < 20 := by unfold hh_mI; omega
  have m1 : hh_mI (v 1 2).toNatClampNeg ≠ 1 := by unfold hh_mI; omega
  refine h.L (fun j hj _ => ?_)
  suffices hz : hm_Z v (hf_X7_mast v pl pw fr ch ar op).2 from hz j hj
  unfold hf_X7_mast
  refine hh_let_p (A := fun z : hh_M => hm_Z v z ∧ z 1 2 = v 1 2) (P := fun z : Int32 × hh_M => hm_Z v z.2) ⟨hm_Z.up (fun _ _ => rfl) mi, hh_upj (Ne.symm m1)⟩ (fun z1 h1 => ?_)
  refine hh_let_p (A := fun z : hh_M => hm_Z v z ∧ z 1 2 = v 1 2) (P := fun z : Int32 × hh_M => hm_Z v z.2) ⟨h1.1.up mi, (hh_upj (Ne.symm m1)).trans h1.2⟩ (fun z2 h2 => ?_)
  refine hh_let_p (A := fun z : hh_M => hm_Z v z ∧ z 1 2 = v 1 2) (P := fun z : Int32 × hh_M => hm_Z v z.2) ⟨h2.1.up mi, (hh_upj (Ne.symm m1)).trans h2.2⟩ (fun z3 h3 => ?_)
  refine hh_let_p (A := fun z : hh_M => hm_Z v z ∧ z 1 2 = v 1 2) (P := fun z : Int32 × hh_M => hm_Z v z.2) ⟨h3.1.up mi, (hh_upj (Ne.symm m1)).trans h3.2⟩ (fun z4 h4 => ?_)
  refine hh_let_p (A := fun z : hh_M => hm_Z v z ∧ z 1 2 = v 1 2) (P := fun z : Int32 × hh_M => hm_Z v z.2) ⟨h4.1.up mi, (hh_upj (Ne.symm m1)).trans h4.2⟩ (fun z5 h5 => ?_)
  refine hh_let_p (A := fun z : hh_M => hm_Z v z ∧ z 1 2 = v 1 2) (P := fun z : Int32 × hh_M => hm_Z v z.2) ⟨h5.1.up mi, (hh_upj (Ne.symm m1)).trans h5.2⟩ (fun z6 h6 => ?_)
  refine hh_let_p (A := fun z : hh_M => hm_Z v z ∧ z 1 2 = v 1 2) (P := fun z : Int32 × hh_M => hm_Z v z.2) ⟨h6.1.up mi, (hh_upj (Ne.symm m1)).trans h6.2⟩ (fun z7 h7 => ?_)
  refine hh_let_p (A := fun z : hh_M => hm_Z v z ∧ z 1 2 = v 1 2 + 1) (P := fun z : Int32 × hh_M => hm_Z v z.2) ⟨h7.1.up (by decide), by rw [hh_ups, h7.2]⟩ (fun z8 h8 => ?_)
  have e8 : (z8 1 2).toNatClampNeg ≤ 6 := by
    rw [h8.2, hM, nI_1, nI_clamp (by omega)]
    omega
  refine hh_let_p (A := fun z : hh_M => hm_Z z8 z) (P := fun z : Int32 × hh_M => hm_Z v z.2) (hm_measure (n := 0) e8) (fun z9 h9 => fun i hi => (h9 i hi).trans (h8.1 i hi))
theorem hm_I0 : hm_I 0 0 hn_v0 := by
  refine ⟨fun a b ha hb => ?_, ?_, fun q hq => ?_, fun q hq => ?_, ?_, ?_⟩
  · unfold hn_v0
    rw [hh_kd_g 0 ha hb]
    decide
  · rfl
  · unfold hn_v0
    rw [hh_kd_c 0 hq]
    decide
  · unfold hn_v0
    rw [hh_kd_h 0 hq]
    decide
  · decide
  · decide
/-- who has ended ends in no time -/
theorem hp_ended {ca se : Int32} (c : v (hh_cI 0 ca.toNatClampNeg) 6 ≠ 0) : hf_X7_endsIn v ca se = (0, v) := by
  unfold hf_X7_endsIn
  rw [if_neg c]
theorem hp_of6 {ca : Int32} : hf_X7_ofCall v ca 6 = v (hh_cI 0 ca.toNatClampNeg) 6 := by
  unfold hf_X7_ofCall
  refine (hh_let_eq rfl : _ = hf_X0_fact v 0 ca.toNatClampNeg 6).trans ?_
  unfold hf_X0_fact
  rw [if_neg (by decide), if_neg (by decide), if_neg (by decide), if_neg (by decide), if_neg (by decide), if_neg (by decide), if_pos rfl]
theorem hp_of0 {ha : Int32} : hf_X7_ofHandset v ha 0 = v (hh_hI 0 ha.toNatClampNeg) 1 := by
  unfold hf_X7_ofHandset
  refine (hh_let_eq rfl : _ = hf_X1_fact v 0 ha.toNatClampNeg 0).trans ?_
  unfold hf_X1_fact
  rw [if_pos rfl]
theorem hp_of3 {ha : Int32} : hf_X7_ofHandset v ha 3 = v (hh_hI 0 ha.toNatClampNeg) 5 := by
  unfold hf_X7_ofHandset
  refine (hh_let_eq rfl : _ = hf_X1_fact v 0 ha.toNatClampNeg 3).trans ?_
  unfold hf_X1_fact
  rw [if_neg (by decide), if_neg (by decide), if_neg (by decide), if_pos rfl]
end HPS
