/-- where two worlds may differ that asking has touched: what the trial copies, and the survey's rows -/
def hq_P9 (n c j k : Nat) : Prop := hh_Pn 1 n c j k ∨ (5 ≤ j ∧ j < 8)
theorem hq_letz {β : Type} {R : β → β → Prop} {Z : Nat → Nat → Prop} {a b : hh_M} {f g : hh_M → β} (h : hh_F Z a b) (k : ∀ x y, x = a → y = b → hh_F Z x y → R (f x) (g y)) : R (hh_let a f) (hh_let b g) := k a b rfl rfl h
set_option maxRecDepth 20000 in
theorem hq_copy {n c : Nat} {v w : hh_M} (h : hh_F (hq_P9 n c) v w) (hn : n ≤ 8) (hc : c ≤ 24) (e5 : (v (hh_rI 0) 5).toNatClampNeg = n) (e6 : (v (hh_rI 0) 6).toNatClampNeg = c) : hh_Q (hf_X5_copyFrom v 1 0) (hf_X5_copyFrom w 1 0) := by
  have lo : ∀ j k, 8 ≤ j → j < 105 → ¬ hq_P9 n c j k := fun j k h1 h2 z => by
    unfold hq_P9 hh_Pn at z
    omega
  unfold hf_X5_copyFrom
  refine hq_letz (R := hh_Q) (Z := fun j k => hq_P9 n c j k ∧ ¬((j = 106 ∨ j = 107) ∧ k < 6)) (hq_fld (Z := fun i j k => hq_P9 n c j k ∧ ¬((j = 106 ∨ j = 107) ∧ k < i)) (h.mo (fun j k z => ⟨z, fun q => by omega⟩)) (fun i a b hi hz => ?_)) (fun x y ex ey hx => ?_)
  · unfold hl_X5_copyFrom_2
    simp only [hh_let]
    have s1 : b (hh_lI 0) i = a (hh_lI 0) i := hz _ _ (fun z => lo _ _ (by unfold hh_lI; omega) (by unfold hh_lI; omega) z.1)
    have s2 : b (hh_kI 0) i = a (hh_kI 0) i := hz _ _ (fun z => lo _ _ (by unfold hh_kI; omega) (by unfold hh_kI; omega) z.1)
    have k1 : ∀ (u : hh_M) (x : Int32), hh_up u (hh_lI 1) i x (hh_kI 0) i = u (hh_kI 0) i := fun u x => hh_upj (by unfold hh_kI hh_lI; omega)
    refine (hq_cut (hq_cut hz s1) (by rw [k1, k1, s2])).mo (fun j k z => ⟨z.1.1.1, fun q => ?_⟩)
    have q1 := z.1.1.2
    have q2 := z.1.2
    have q3 := z.2
    unfold hh_lI at q2
    unfold hh_kI at q3
    omega
  have fx : ∀ j k, j < 105 → x j k = v j k := fun j k hj => by
    rw [ex]
    refine hq_fldF (P := fun j _ => 105 ≤ j) (fun i a hi => ?_) j k (by omega)
    unfold hl_X5_copyFrom_2
    simp only [hh_let]
    exact hh_F_up (hh_F_up hh_F_rf (by show 105 ≤ hh_lI 1; unfold hh_lI; omega)) (by show 105 ≤ hh_kI 1; unfold hh_kI; omega)
  have r5 : y (hh_rI 0) 5 = x (hh_rI 0) 5 := hx _ _ (fun z => lo _ _ (by unfold hh_rI; omega) (by unfold hh_rI; omega) z.1)
  have x5 : (x (hh_rI 0) 5).toNatClampNeg = n := by rw [fx _ _ (by unfold hh_rI; omega), e5]
  refine hq_letz (R := hh_Q) (hq_cut hx r5) (fun x2 y2 ex2 ey2 hx2 => ?_)
  have n5 : (x2 (hh_rI 1) 5).toNatClampNeg = n := by rw [ex2, hh_ups, x5]
  have m5 : (y2 (hh_rI 1) 5).toNatClampNeg = n := by rw [ey2, hh_ups, r5, x5]
  have fx2 : ∀ j k, j < 105 → x2 j k = v j k := fun j k hj => by rw [ex2, hh_upj (by unfold hh_rI; omega), fx j k hj]
  rw [n5, m5]
  refine hq_letz (R := hh_Q) (Z := fun j k => hq_P9 n c j k ∧ ¬((j = 106 ∨ j = 107) ∧ k < 6) ∧ ¬(j = 105 ∧ k = 5) ∧ ¬(110 ≤ j ∧ j < 110 + n ∧ k < 13)) (hq_fld (Z := fun i j k => hq_P9 n c j k ∧ ¬((j = 106 ∨ j = 107) ∧ k < 6) ∧ ¬(j = 105 ∧ k = 5) ∧ ¬(110 ≤ j ∧ j < 110 + i ∧ k < 13)) (hx2.mo (fun j k z => ⟨z.1.1, z.1.2, fun q => z.2 (by unfold hh_rI; omega), fun q => by omega⟩)) (fun i a b hi hz => ?_)) (fun x3 y3 ex3 ey3 hx3 => ?_)
  · unfold hl_X5_copyFrom_48
    simp only [hh_let]
    refine (hq_X1 hz (fun k hk z => lo _ _ (by unfold hh_hI; omega) (by unfold hh_hI; omega) z.1)).mo (fun j k z => ⟨z.1.1, z.1.2.1, z.1.2.2.1, fun q => ?_⟩)
    have q1 := z.1.2.2.2
    have q2 := z.2
    unfold hh_hI at q2
    omega
  have fx3 : ∀ j k, j < 105 → x3 j k = v j k := fun j k hj => by
    rw [ex3]
    refine (hq_fldF (P := fun j _ => 105 ≤ j) (fun i a hi => ?_) j k (by omega)).trans (fx2 j k hj)
    unfold hl_X5_copyFrom_48
    simp only [hh_let]
    intro j9 k9 h9
    have h9 : ¬ 105 ≤ j9 := h9
    rw [hq_e1, if_neg (fun z => by have := z.1; unfold hh_hI at this; omega)]
  have r6 : y3 (hh_rI 0) 6 = x3 (hh_rI 0) 6 := hx3 _ _ (fun z => lo _ _ (by unfold hh_rI; omega) (by unfold hh_rI; omega) z.1)
  have x6 : (x3 (hh_rI 0) 6).toNatClampNeg = c := by rw [fx3 _ _ (by unfold hh_rI; omega), e6]
  refine hq_letz (R := hh_Q) (hq_cut hx3 r6) (fun x4 y4 ex4 ey4 hx4 => ?_)
  have n6 : (x4 (hh_rI 1) 6).toNatClampNeg = c := by rw [ex4, hh_ups, x6]
  have m6 : (y4 (hh_rI 1) 6).toNatClampNeg = c := by rw [ey4, hh_ups, r6, x6]
  rw [n6, m6]
  refine hq_letz (R := hh_Q) (Z := fun j k => hq_P9 n c j k ∧ ¬((j = 106 ∨ j = 107) ∧ k < 6) ∧ ¬(j = 105 ∧ (k = 5 ∨ k = 6)) ∧ ¬(110 ≤ j ∧ j < 110 + n ∧ k < 13) ∧ ¬(118 ≤ j ∧ j < 118 + c ∧ 2 ≤ k ∧ k < 7) ∧ ¬(142 ≤ j ∧ j < 142 + 2 * c ∧ k < 6)) (hq_fld (Z := fun i j k => hq_P9 n c j k ∧ ¬((j = 106 ∨ j = 107) ∧ k < 6) ∧ ¬(j = 105 ∧ (k = 5 ∨ k = 6)) ∧ ¬(110 ≤ j ∧ j < 110 + n ∧ k < 13) ∧ ¬(118 ≤ j ∧ j < 118 + i ∧ 2 ≤ k ∧ k < 7) ∧ ¬(142 ≤ j ∧ j < 142 + 2 * i ∧ k < 6)) (hx4.mo (fun j k z => ⟨z.1.1, z.1.2.1, fun q => ?_, z.1.2.2.2, fun q => by omega, fun q => by omega⟩)) (fun i a b hi hz => ?_)) (fun x5' y5' ex5 ey5 hx5 => ?_)
  · have q1 := z.1.2.2.1
    have q2 := z.2
    unfold hh_rI at q2
    omega
  · unfold hl_X5_copyFrom_87
    simp only [hh_let]
    refine (hq_X0 (by omega) hz (fun g k hg hk z => lo _ _ (by unfold hh_gI; omega) (by unfold hh_gI; omega) z.1) (fun k hk z => lo _ _ (by unfold hh_cI; omega) (by unfold hh_cI; omega) z.1)).mo (fun j k z => ⟨z.1.1, z.1.2.1, z.1.2.2.1, z.1.2.2.2.1, fun q => ?_, fun q => ?_⟩)
    · have q1 := z.1.2.2.2.2.1
      have q2 := z.2.2
      unfold hh_cI at q2
      omega
    · have q1 := z.1.2.2.2.2.2
      have q2 := z.2.1
      unfold hh_gI at q2
      omega
  have s0 : ∀ k, y5' (hh_rI 0) k = x5' (hh_rI 0) k := fun k => hx5 _ _ (fun z => lo _ _ (by unfold hh_rI; omega) (by unfold hh_rI; omega) z.1)
  have ne : hh_rI 0 ≠ hh_rI 1 := by unfold hh_rI; omega
  simp only [hh_let, hh_upj ne]
  have hz := hq_cut (hq_cut (hq_cut hx5 (s0 7) (a := hh_rI 1) (b := 7)) (s0 8) (a := hh_rI 1) (b := 8)) (s0 9) (a := hh_rI 1) (b := 9)
  intro j hj
  funext k
  refine (hz j k (fun z => ?_)).symm
  obtain ⟨⟨⟨⟨z0, z1, z2, z3, z4, z5⟩, z6⟩, z7⟩, z8⟩ := z
  unfold hh_rI at z6 z7 z8
  unfold hq_P9 hh_Pn at z0
  omega
