/-! the four asks that try: the same answers whatever asking has left behind -/
section HQA
variable {v w : hh_M} {n c : Nat}
theorem hq_Q9 (h : hh_Q v w) : hh_F (hq_P9 n c) v w := fun j k hj => by
  rw [h j (by unfold hq_P9 at hj; omega)]
theorem hu_l31 (i : Nat) : hh_L 1 v (hl_X7_wouldBeOn_31 i v) := by
  unfold hl_X7_wouldBeOn_31
  exact hh_let_uL (P := fun x => hh_L 1 v x) (hu_X5_second (r := 1)) (fun _ h => h)
theorem hc_l31 (h : hh_Q v w) (i : Nat) : hh_Q (hl_X7_wouldBeOn_31 i v) (hl_X7_wouldBeOn_31 i w) := by
  unfold hl_X7_wouldBeOn_31
  exact hh_let_cm (R := hh_Q) (hc_X5_second h 1) (fun _ _ h => h)
theorem hu_wouldBeOn (ha se : Int32) : hh_L 1 v (hf_X7_wouldBeOn v ha se).2 := by
  unfold hf_X7_wouldBeOn
  refine hh_let_uL (P := fun z : Int32 × hh_M => hh_L 1 v z.2) (hu_X5_copyFrom (r := 1) (r2 := 0)) (fun x hx => ?_)
  exact hh_let_uL (P := fun z : Int32 × hh_M => hh_L 1 v z.2) (hh_L_fld hx (fun i w => hu_l31 i)) (fun _ h => h)
theorem hq_wouldBeOn (h : hh_F (hq_P9 n c) v w) (hn : n ≤ 8) (hc : c ≤ 24) (e5 : (v (hh_rI 0) 5).toNatClampNeg = n) (e6 : (v (hh_rI 0) 6).toNatClampNeg = c) (ha se : Int32) : (hf_X7_wouldBeOn v ha se).1 = (hf_X7_wouldBeOn w ha se).1 ∧ hh_F (hq_P9 n c) (hf_X7_wouldBeOn v ha se).2 (hf_X7_wouldBeOn w ha se).2 := by
  unfold hf_X7_wouldBeOn
  refine hh_let_cm (R := fun a b : Int32 × hh_M => a.1 = b.1 ∧ hh_F (hq_P9 n c) a.2 b.2) (hq_copy h hn hc e5 e6) (fun x y hxy => ?_)
  exact hh_let_cm (R := fun a b : Int32 × hh_M => a.1 = b.1 ∧ hh_F (hq_P9 n c) a.2 b.2) (hh_fld_cm hxy (fun i x y h => hc_l31 h i)) (fun x y h => ⟨congrFun (h.h 1 _) 5, hq_Q9 h⟩)
theorem hq_hr (ca : Int32) : ∀ (m i : Nat) (x y : hh_M), hh_Q x y → (hr_X7_endsIn_48 ca m i x).1 = (hr_X7_endsIn_48 ca m i y).1 ∧ hh_Q (hr_X7_endsIn_48 ca m i x).2 (hr_X7_endsIn_48 ca m i y).2 := by
  intro m
  induction m with
  | zero => intro i x y h; exact ⟨rfl, h⟩
  | succ m ih =>
    intro i x y h
    rw [hr_X7_endsIn_48_s, hr_X7_endsIn_48_s]
    refine hh_let_cm (R := fun a b : Int32 × hh_M => a.1 = b.1 ∧ hh_Q a.2 b.2) (hc_X5_second h 1) (fun x2 y2 h2 => ?_)
    exact hh_if_c (R := fun a b : Int32 × hh_M => a.1 = b.1 ∧ hh_Q a.2 b.2) (by rw [h2.c]) (fun _ => ih (i + 1) _ _ h2) (fun _ => ⟨rfl, h2⟩)
theorem hu_hr (ca : Int32) : ∀ (m i : Nat) (x : hh_M), hh_L 1 x (hr_X7_endsIn_48 ca m i x).2 := by
  intro m
  induction m with
  | zero => intro i x; exact hh_L_rf
  | succ m ih =>
    intro i x
    rw [hr_X7_endsIn_48_s]
    refine hh_let_uL (P := fun z : Int32 × hh_M => hh_L 1 x z.2) (hu_X5_second (r := 1)) (fun x2 h2 => ?_)
    exact iteInduction (motive := fun z : Int32 × hh_M => hh_L 1 x z.2) (fun _ => h2.tr (ih (i + 1) x2)) (fun _ => h2)
theorem hu_endsIn (ca se : Int32) : hh_L 1 v (hf_X7_endsIn v ca se).2 := by
  unfold hf_X7_endsIn
  refine iteInduction (motive := fun z : Int32 × hh_M => hh_L 1 v z.2) (fun _ => ?_) (fun _ => hh_L_rf)
  exact hh_let_uL (P := fun z : Int32 × hh_M => hh_L 1 v z.2) (hu_X5_copyFrom (r := 1) (r2 := 0)) (fun x hx => hx.tr (hu_hr ca _ _ _))
theorem hq_endsIn (h : hh_F (hq_P9 n c) v w) (hn : n ≤ 8) (hc : c ≤ 24) (e5 : (v (hh_rI 0) 5).toNatClampNeg = n) (e6 : (v (hh_rI 0) 6).toNatClampNeg = c) {ca : Int32} (hca : vp_in ca 24) (se : Int32) : (hf_X7_endsIn v ca se).1 = (hf_X7_endsIn w ca se).1 ∧ hh_F (hq_P9 n c) (hf_X7_endsIn v ca se).2 (hf_X7_endsIn w ca se).2 := by
  unfold hf_X7_endsIn
  refine hh_if_c (R := fun a b : Int32 × hh_M => a.1 = b.1 ∧ hh_F (hq_P9 n c) a.2 b.2) (by rw [(hq_B.of hn hc h).c (hh_lt hca)]) (fun _ => ?_) (fun _ => ⟨rfl, h⟩)
  refine hh_let_cm (R := fun a b : Int32 × hh_M => a.1 = b.1 ∧ hh_F (hq_P9 n c) a.2 b.2) (hq_copy h hn hc e5 e6) (fun x y hxy => ?_)
  have hq := hq_hr ca se.toNatClampNeg 1 x y hxy
  exact ⟨hq.1, hq_Q9 hq.2⟩
/-- the survey's rows at a place -/
def hq_R (v w : hh_M) (k : Nat) : Prop := v 5 k = w 5 k ∧ v 6 k = w 6 k ∧ v 7 k = w 7 k
theorem hq_noise (hB : hq_B v w) {i : Nat} (hi : i < 6) (pl : Int32) : hf_X3_noiseAt v i pl = hf_X3_noiseAt w i pl := by
  unfold hf_X3_noiseAt hf_X3_distanceTo
  rw [hB.m hi]
theorem hq_B_up (hB : hq_B v w) {j k : Nat} {x y : Int32} (hj : 5 ≤ j ∧ j < 8) : hq_B (hh_up v j k x) (hh_up w j k y) := fun i hi => by
  rw [hh_up_ne (by omega), hh_up_ne (by omega)]
  exact hB i hi
theorem hq_R_n {k p j : Nat} {x y : Int32} (h : hq_R v w k) (hk : k ≠ p) : hq_R (hh_up v j p x) (hh_up w j p y) k := by
  unfold hq_R at h ⊢
  simp only [hh_upx hk]
  exact h
theorem hq_R_s {p j : Nat} {x : Int32} (h : hq_R v w p) : hq_R (hh_up v j p x) (hh_up w j p x) p := by
  unfold hq_R at h ⊢
  unfold hh_up
  refine ⟨?_, ?_, ?_⟩ <;> split <;> first | rfl | exact h.1 | exact h.2.1 | exact h.2.2
theorem hq_takeMast (hB : hq_B v w) {nu fr pl : Int32} (hnu : vp_in nu 6) (hR : hq_R v w pl.toNatClampNeg) : hq_B (hf_X6_takeMast v 0 nu fr pl) (hf_X6_takeMast w 0 nu fr pl) ∧ hq_R (hf_X6_takeMast v 0 nu fr pl) (hf_X6_takeMast w 0 nu fr pl) pl.toNatClampNeg ∧ ∀ k, k ≠ pl.toNatClampNeg → hq_R v w k → hq_R (hf_X6_takeMast v 0 nu fr pl) (hf_X6_takeMast w 0 nu fr pl) k := by
  unfold hf_X6_takeMast
  rw [hB.m (hh_lt hnu), hq_quality hB hnu]
  simp only [hh_let]
  split
  · rw [hR.2.1]
    generalize (if w 6 pl.toNatClampNeg < hf_X5_qualityAt w 0 nu pl then hf_X5_qualityAt w 0 nu pl else w 6 pl.toNatClampNeg) = x
    have hB1 : hq_B (hh_up v 6 pl.toNatClampNeg x) (hh_up w 6 pl.toNatClampNeg x) := hq_B_up hB (by omega)
    have hR1 : hq_R (hh_up v 6 pl.toNatClampNeg x) (hh_up w 6 pl.toNatClampNeg x) pl.toNatClampNeg := hq_R_s hR
    rw [hq_noise hB1 (hh_lt hnu), hR1.2.2]
    exact ⟨hq_B_up hB1 (by omega), hq_R_s hR1, fun k hk hr => hq_R_n (hq_R_n hr hk) hk⟩
  · rw [hR.1]
    exact ⟨hq_B_up hB (by omega), hq_R_s hR, fun k hk hr => hq_R_n hr hk⟩
theorem hs_takeMast (nu fr pl : Int32) (j : Nat) (hj : j < 5 ∨ 8 ≤ j) : hf_X6_takeMast v 0 nu fr pl j = v j := by
  unfold hf_X6_takeMast
  simp only [hh_let]
  split <;> simp only [hh_up_ne (show j ≠ 5 by omega), hh_up_ne (show j ≠ 6 by omega), hh_up_ne (show j ≠ 7 by omega)]
end HQA
