section HML
variable {i j k g : Nat} {d e d' e' : Int} {u v w : hh_M} {x : Int32}
theorem hm_K.B1 (h : hm_K i 0 0 v w) (hB : hm_B i v) : hm_B i w := by
  unfold hm_B at hB
  exact h.B (by omega)
theorem hm_look (hG : hm_G v) (hB : hm_B i v) (hi : i < 24) (hg : g < 2) : hm_K i 1 0 v (hf_X5_lookAtLeg v 0 i g) := by
  have r1 : hm_K i 1 0 v v := hm_K.rf.mo (by decide) (by decide)
  unfold hf_X5_lookAtLeg
  refine iteInduction (motive := fun z : hh_M => hm_K i 1 0 v z) (fun _ => ?_) (fun _ => r1)
  refine hh_let_p (A := fun _ : Int32 => True) (P := fun z : hh_M => hm_K i 1 0 v z) trivial (fun q8 _ => ?_)
  refine iteInduction (motive := fun z : hh_M => hm_K i 1 0 v z) (fun _ => r1) (fun _ => ?_)
  refine hh_let_p (A := fun _ : Int32 => True) (P := fun z : hh_M => hm_K i 1 0 v z) trivial (fun x27 _ => ?_)
  refine hh_let_p (A := fun _ : Int32 => True) (P := fun z : hh_M => hm_K i 1 0 v z) trivial (fun q34 _ => ?_)
  refine hh_let_p (A := fun _ : Int32 => True) (P := fun z : hh_M => hm_K i 1 0 v z) trivial (fun q45 _ => ?_)
  refine hh_let_p (A := fun _ : Int32 => True) (P := fun z : hh_M => hm_K i 1 0 v z) trivial (fun q59 _ => ?_)
  refine hh_let_p (A := fun _ : Int32 => True) (P := fun z : hh_M => hm_K i 1 0 v z) trivial (fun j75 _ => ?_)
  refine hh_let_p (A := fun z : hh_M => hm_K i 0 0 v z) (P := fun z : hh_M => hm_K i 1 0 v z) (hm_K.rf.up (by unfold hm_P hh_gI; omega) (by unfold hh_gI; omega)) (fun v75 h75 => ?_)
  refine hh_let_p (A := fun _ : Int32 => True) (P := fun z : hh_M => hm_K i 1 0 v z) trivial (fun j104 _ => ?_)
  have s75 : hm_K i 1 0 v v75 := h75.mo (by decide) (by decide)
  have s148 : hm_K i 1 0 v (hh_let (hh_up v75 (hh_gI 0 i g) 3 ((v75 (hh_gI 0 i g) 3) + 1) : hh_M) (fun (v_148 : hh_M) => v_148)) := hh_let_p (A := fun z : hh_M => hm_K i 1 0 v z) (P := fun z : hh_M => hm_K i 1 0 v z) (s75.up (by unfold hm_P hh_gI; omega) (by unfold hh_gI; omega)) (fun z h => h)
  have s130 : hm_K i 1 0 v (hh_let (hf_X5_handOver v75 0 i g q34 : hh_M) (fun (v_130 : hh_M) => v_130)) := hh_let_p (A := fun z : hh_M => hm_K i 1 0 v z) (P := fun z : hh_M => hm_K i 1 0 v z) (h75.tr (hm_handOver (hG.K h75) (h75.B1 hB) hi hg q34)) (fun z h => h)
  refine hh_let_p (A := fun z : hh_M => hm_K i 1 0 v z) (P := fun z : hh_M => hm_K i 1 0 v z) ?_ (fun v151 h151 => ?_)
  · refine iteInduction (motive := fun z : hh_M => hm_K i 1 0 v z) (fun _ => iteInduction (motive := fun z : hh_M => hm_K i 1 0 v z) (fun _ => s148) (fun _ => s75)) (fun _ => ?_)
    refine iteInduction (motive := fun z : hh_M => hm_K i 1 0 v z) (fun _ => s130) (fun _ => ?_)
    exact iteInduction (motive := fun z : hh_M => hm_K i 1 0 v z) (fun _ => iteInduction (motive := fun z : hh_M => hm_K i 1 0 v z) (fun _ => s148) (fun _ => s75)) (fun _ => s130)
  refine hh_let_p (A := fun _ : Int32 => True) (P := fun z : hh_M => hm_K i 1 0 v z) trivial (fun q157 _ => ?_)
  refine hh_let_p (A := fun z : hh_M => hm_K i 1 0 v z) (P := fun z : hh_M => hm_K i 1 0 v z) ?_ (fun v168 h168 => ?_)
  · refine iteInduction (motive := fun z : hh_M => hm_K i 1 0 v z) (fun _ => h151) (fun _ => ?_)
    exact hh_let_p (A := fun z : hh_M => hm_K i 1 0 v z) (P := fun z : hh_M => hm_K i 1 0 v z) (h151.up (by unfold hm_P hh_gI; omega) (by unfold hh_gI; omega)) (fun z h => h)
  refine iteInduction (motive := fun z : hh_M => hm_K i 1 0 v z) (fun _ => h168) (fun _ => ?_)
  exact hh_let_p (A := fun z : hh_M => hm_K i 1 0 v z) (P := fun z : hh_M => hm_K i 1 0 v z) (h168.tr (hm_end (hG.K h168) hi 2)) (fun z h => h)
theorem hm_look_id (c : v (hh_cI 0 i) 6 ≠ 0) : hf_X5_lookAtLeg v 0 i g = v := by
  unfold hf_X5_lookAtLeg
  rw [if_neg c]
theorem hm_charge_id (c : v (hh_cI 0 i) 6 ≠ 0) : hf_X5_charge v 0 i = v := by
  unfold hf_X5_charge
  rw [if_neg c]
theorem hm_carry (_ : i < 24) : hm_K i 0 0 v (hf_X5_carry v 0 i g) := by
  unfold hf_X5_carry
  refine hh_let_p (A := fun _ : Int32 => True) (P := fun z : hh_M => hm_K i 0 0 v z) trivial (fun q _ => ?_)
  refine iteInduction (motive := fun z : hh_M => hm_K i 0 0 v z) (fun _ => hm_K.rf) (fun _ => ?_)
  exact hh_let_p (A := fun z : hh_M => hm_K i 0 0 v z) (P := fun z : hh_M => hm_K i 0 0 v z) (hm_K.rf.up (by unfold hm_P hh_kI; omega) (by unfold hh_kI; omega)) (fun z h => h)
theorem hm_price (h : Nat) : 0 ≤ (hf_X5_price v 0 i h).toInt ∧ (hf_X5_price v 0 i h).toInt ≤ 3 := by
  unfold hf_X5_price
  refine hh_let_p (A := fun _ : Int32 => True) (P := fun z : Int32 => 0 ≤ z.toInt ∧ z.toInt ≤ 3) trivial (fun q _ => ?_)
  refine iteInduction (motive := fun z : Int32 => 0 ≤ z.toInt ∧ z.toInt ≤ 3) (fun _ => by decide) (fun _ => ?_)
  exact iteInduction (motive := fun z : Int32 => 0 ≤ z.toInt ∧ z.toInt ≤ 3) (fun _ => by decide) (fun _ => by decide)
theorem hm_charge (hG : hm_G v) (hB : hm_B i v) (hi : i < 24) : hm_K i 0 3 v (hf_X5_charge v 0 i) := by
  have r1 : hm_K i 0 3 v v := hm_K.rf.mo (by decide) (by decide)
  unfold hf_X5_charge
  refine iteInduction (motive := fun z : hh_M => hm_K i 0 3 v z) (fun _ => ?_) (fun _ => r1)
  refine hh_let_p (A := fun _ : Int32 => True) (P := fun z : hh_M => hm_K i 0 3 v z) trivial (fun q11 _ => ?_)
  refine iteInduction (motive := fun z : hh_M => hm_K i 0 3 v z) (fun _ => r1) (fun _ => ?_)
  refine hh_let_p (A := fun z : Int32 => 0 ≤ z.toInt ∧ z.toInt ≤ 3) (P := fun z : hh_M => hm_K i 0 3 v z) (hm_price _) (fun q34 h34 => ?_)
  refine iteInduction (motive := fun z : hh_M => hm_K i 0 3 v z) (fun _ => ?_) (fun _ => ?_)
  · have hh := hG i 0 hi (by decide)
    refine hh_let_p (A := fun z : hh_M => hm_K i 0 0 v z) (P := fun z : hh_M => hm_K i 0 3 v z) (hm_K.rf.up (by unfold hm_P hh_hI; omega) (by unfold hh_hI; omega)) (fun v60 h60 => ?_)
    have k70 : hm_K i 0 3 v (hh_up v60 (hh_cI 0 i) 3 (v60 (hh_cI 0 i) 3 + q34)) := by
      have hB60 := h60.B1 hB
      obtain ⟨f1, a1, a2, a3, a4, a5, a6⟩ := h60
      have f3 : hh_up v60 (hh_cI 0 i) 3 (v60 (hh_cI 0 i) 3 + q34) (hh_cI 0 i) 3 = v60 (hh_cI 0 i) 3 + q34 := by simp [hh_up]
      have f4 : hh_up v60 (hh_cI 0 i) 3 (v60 (hh_cI 0 i) 3 + q34) (hh_cI 0 i) 4 = v60 (hh_cI 0 i) 4 := by simp [hh_up]
      have f5 : hh_up v60 (hh_cI 0 i) 3 (v60 (hh_cI 0 i) 3 + q34) (hh_cI 0 i) 5 = v60 (hh_cI 0 i) 5 := by simp [hh_up]
      have p3 : (v60 (hh_cI 0 i) 3 + q34).toInt = (v60 (hh_cI 0 i) 3).toInt + q34.toInt := by
        have := hB60.1
        exact hh_add (by omega)
      refine ⟨hh_F_up f1 (by unfold hm_P hh_cI; omega), ?_⟩
      rw [f3, f4, f5, p3]
      omega
    refine hh_let_p (A := fun z : hh_M => hm_K i 0 3 v z) (P := fun z : hh_M => hm_K i 0 3 v z) k70 (fun v70 h70 => ?_)
    refine hh_let_p (A := fun z : hh_M => hm_K i 0 3 v z) (P := fun z : hh_M => hm_K i 0 3 v z) (h70.up (by unfold hm_P hh_cI; omega) (by omega)) (fun v80 h80 => ?_)
    refine hh_let_p (A := fun z : hh_M => hm_K i 0 3 v z) (P := fun z : hh_M => hm_K i 0 3 v z) (h80.tr (hm_carry hi)) (fun v88 h88 => ?_)
    exact hh_let_p (A := fun z : hh_M => hm_K i 0 3 v z) (P := fun z : hh_M => hm_K i 0 3 v z) (h88.tr (hm_carry hi)) (fun z h => h)
  · exact hh_let_p (A := fun z : hh_M => hm_K i 0 3 v z) (P := fun z : hh_M => hm_K i 0 3 v z) ((hm_end hG hi 3).mo (by decide) (by decide)) (fun z h => h)
end HML
