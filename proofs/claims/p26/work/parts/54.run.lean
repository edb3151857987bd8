/-! what holds of the counters after T seconds and K calls, and that they never get less -/
def hm_I (T K : Nat) (v : hh_M) : Prop := hm_G v ∧ (v (hh_rI 0) 8).toInt = T ∧ (∀ q, q < 24 → (0 ≤ (v (hh_cI 0 q) 3).toInt ∧ (v (hh_cI 0 q) 3).toInt ≤ 3 * T) ∧ 0 ≤ (v (hh_cI 0 q) 5).toInt ∧ (v (hh_cI 0 q) 5).toInt ≤ (v (hh_cI 0 q) 4).toInt ∧ (v (hh_cI 0 q) 4).toInt ≤ 2 * T) ∧ (∀ q, q < 8 → (0 ≤ (v (hh_hI 0 q) 10).toInt ∧ (v (hh_hI 0 q) 10).toInt ≤ T) ∧ 0 ≤ (v (hh_hI 0 q) 12).toInt ∧ (v (hh_hI 0 q) 12).toInt ≤ K) ∧ (0 ≤ (v (hh_rI 0) 9).toInt ∧ (v (hh_rI 0) 9).toInt ≤ 18 * K) ∧ 0 ≤ (v (hh_rI 0) 7).toInt ∧ (v (hh_rI 0) 7).toInt ≤ K
def hm_M (v w : hh_M) : Prop := (v (hh_rI 0) 8).toInt ≤ (w (hh_rI 0) 8).toInt ∧ (v (hh_rI 0) 9).toInt ≤ (w (hh_rI 0) 9).toInt ∧ (v (hh_rI 0) 7).toInt ≤ (w (hh_rI 0) 7).toInt ∧ (∀ q, q < 24 → (v (hh_cI 0 q) 3).toInt ≤ (w (hh_cI 0 q) 3).toInt ∧ (v (hh_cI 0 q) 4).toInt ≤ (w (hh_cI 0 q) 4).toInt ∧ (v (hh_cI 0 q) 5).toInt ≤ (w (hh_cI 0 q) 5).toInt ∧ (v (hh_cI 0 q) 6 ≠ 0 → w (hh_cI 0 q) 6 = v (hh_cI 0 q) 6)) ∧ ∀ q, q < 8 → (v (hh_hI 0 q) 10).toInt ≤ (w (hh_hI 0 q) 10).toInt
section HMI
variable {T K : Nat} {u v w : hh_M}
theorem hm_M.rf : hm_M v v := ⟨Int.le_refl _, Int.le_refl _, Int.le_refl _, fun _ _ => ⟨Int.le_refl _, Int.le_refl _, Int.le_refl _, fun _ => rfl⟩, fun _ _ => Int.le_refl _⟩
theorem hm_M.tr (h : hm_M u v) (h2 : hm_M v w) : hm_M u w := by
  obtain ⟨a1, a2, a3, a4, a5⟩ := h
  obtain ⟨b1, b2, b3, b4, b5⟩ := h2
  refine ⟨by omega, by omega, by omega, fun q hq => ?_, fun q hq => Int.le_trans (a5 q hq) (b5 q hq)⟩
  obtain ⟨c1, c2, c3, c4⟩ := a4 q hq
  obtain ⟨d1, d2, d3, d4⟩ := b4 q hq
  exact ⟨by omega, by omega, by omega, fun c => (d4 (by rw [c4 c]; exact c)).trans (c4 c)⟩
theorem hm_I.mo {K' : Nat} (h : hm_I T K v) (hK : K ≤ K') : hm_I T K' v := by
  obtain ⟨a1, a2, a3, a4, a5, a6⟩ := h
  exact ⟨a1, a2, a3, fun q hq => ⟨(a4 q hq).1, (a4 q hq).2.1, by have := (a4 q hq).2.2; omega⟩, ⟨a5.1, by omega⟩, a6.1, by omega⟩
theorem hm_IS (h : hm_I T K v) (hT : T ≤ 1000) (hK : K ≤ 100) (hS : hm_S v w) : hm_I (T + 1) K w ∧ hm_M v w := by
  obtain ⟨a1, a2, a3, a4, a5, a6⟩ := h
  obtain ⟨s1, s2, s3, s4, s5⟩ := hS
  have one : (1 : Int32).toInt = 1 := rfl
  have n8 : (w (hh_rI 0) 8).toInt = T + 1 := by
    rw [s2]
    exact (hh_add (by rw [one]; omega)).trans (by rw [one]; omega)
  refine ⟨⟨s1, by omega, fun q hq => ?_, fun q hq => ?_, ?_, ?_⟩, ?_, ?_, ?_, fun q hq => ?_, fun q hq => (s5 q hq).1.1⟩
  · obtain ⟨c1, c2, c3, c4, c5, c6, c7⟩ := s4 q hq
    have := a3 q hq
    omega
  · have h1 := s5 q hq
    have h2 := a4 q hq
    refine ⟨by omega, ?_⟩
    rcases h1.2 with e | e
    · rw [e]; exact h2.2
    · rw [e]
      have z : (0 : Int32).toInt = 0 := rfl
      rw [z]
      omega
  · rw [s3 9 (by decide)]; exact a5
  · rw [s3 7 (by decide)]; exact a6
  · omega
  · rw [s3 9 (by decide)]; exact Int.le_refl _
  · rw [s3 7 (by decide)]; exact Int.le_refl _
  · obtain ⟨c1, c2, c3, c4, c5, c6, c7⟩ := s4 q hq
    exact ⟨c5, c1, c3, c7⟩
theorem hm_sec (h : hm_I T K v) (hT : T ≤ 1000) (hK : K ≤ 100) (hn : (v (hh_rI 0) 5).toNatClampNeg ≤ 8) (hc : (v (hh_rI 0) 6).toNatClampNeg ≤ 24) : hm_I (T + 1) K (hf_X5_second v 0) ∧ hm_M v (hf_X5_second v 0) ∧ (hf_X5_second v 0) (hh_rI 0) 5 = v (hh_rI 0) 5 ∧ (hf_X5_second v 0) (hh_rI 0) 6 = v (hh_rI 0) 6 := by
  have hS := hm_second h.1 (fun q hq => by have := h.2.2.1 q hq; unfold hm_BB; omega) (fun q hq => by have := h.2.2.2.1 q hq; omega) hn hc
  exact ⟨(hm_IS h hT hK hS).1, (hm_IS h hT hK hS).2, hS.2.2.1 5 (by decide), hS.2.2.1 6 (by decide)⟩
theorem hm_p18 {i : Nat} (h : hm_I T K v) (hT : T ≤ 1000) (hK : K ≤ 100) (hn : (v (hh_rI 0) 5).toNatClampNeg ≤ 8) (hc : (v (hh_rI 0) 6).toNatClampNeg ≤ 24) : hm_I (T + 1) K (hl_X7_pass_18 i v) ∧ hm_M v (hl_X7_pass_18 i v) ∧ (hl_X7_pass_18 i v) (hh_rI 0) 5 = v (hh_rI 0) 5 ∧ (hl_X7_pass_18 i v) (hh_rI 0) 6 = v (hh_rI 0) 6 := by
  unfold hl_X7_pass_18
  exact hh_let_p (A := fun z : hh_M => hm_I (T + 1) K z ∧ hm_M v z ∧ z (hh_rI 0) 5 = v (hh_rI 0) 5 ∧ z (hh_rI 0) 6 = v (hh_rI 0) 6) (P := fun z : hh_M => hm_I (T + 1) K z ∧ hm_M v z ∧ z (hh_rI 0) 5 = v (hh_rI 0) 5 ∧ z (hh_rI 0) 6 = v (hh_rI 0) 6) (hm_sec h hT hK hn hc) (fun z hz => hz)
theorem hm_pass {se : Int32} (h : hm_I T K v) (hT : T + se.toNatClampNeg ≤ 1000) (hK : K ≤ 100) (hn : (v (hh_rI 0) 5).toNatClampNeg ≤ 8) (hc : (v (hh_rI 0) 6).toNatClampNeg ≤ 24) : hm_I (T + se.toNatClampNeg) K (hf_X7_pass v se).2 ∧ hm_M v (hf_X7_pass v se).2 := by
  have hf := hh_fld_in (f := fun (i9 : Nat) (z : hh_M) => hl_X7_pass_18 i9 z) (n := se.toNatClampNeg) (s := v) (I := fun i z => hm_I (T + i) K z ∧ hm_M v z ∧ z (hh_rI 0) 5 = v (hh_rI 0) 5 ∧ z (hh_rI 0) 6 = v (hh_rI 0) 6) ⟨h, hm_M.rf, rfl, rfl⟩ (fun i z hi hz => by
    have k := hm_p18 (i := i) hz.1 (by omega) hK (by rw [hz.2.2.1]; exact hn) (by rw [hz.2.2.2]; exact hc)
    exact ⟨k.1, hz.2.1.tr k.2.1, k.2.2.1.trans hz.2.2.1, k.2.2.2.trans hz.2.2.2⟩)
  unfold hf_X7_pass
  refine hh_let_p (A := fun _ : Int32 => True) (P := fun z : Int32 × hh_M => hm_I (T + se.toNatClampNeg) K z.2 ∧ hm_M v z.2) trivial (fun q _ => ?_)
  refine hh_let_p (A := fun z : hh_M => hm_I (T + se.toNatClampNeg) K z ∧ hm_M v z) (P := fun z : Int32 × hh_M => hm_I (T + se.toNatClampNeg) K z.2 ∧ hm_M v z.2) ⟨hf.1, hf.2.1⟩ (fun w hw => ?_)
  exact hh_let_p (A := fun _ : Int32 => True) (P := fun z : Int32 × hh_M => hm_I (T + se.toNatClampNeg) K z.2 ∧ hm_M v z.2) trivial (fun q _ => hw)
/-- a write beside the counters -/
theorem hm_I.up {j k : Nat} {x : Int32} (h : hm_I T K v) (hk : (j = 20 ∧ k ≠ 7 ∧ k ≠ 8 ∧ k ≠ 9) ∨ (j = 21 ∨ j = 22) ∨ (25 ≤ j ∧ j < 33 ∧ k ≠ 10 ∧ k ≠ 12) ∨ (57 ≤ j ∧ k ≠ 0)) : hm_I T K (hh_up v j k x) ∧ hm_M v (hh_up v j k x) := by
  have e : ∀ a b, ¬ (a = j ∧ b = k) → hh_up v j k x a b = v a b := fun a b q => by unfold hh_up; rw [if_neg q]
  have r7 := e (hh_rI 0) 7 (by unfold hh_rI; omega)
  have r8 := e (hh_rI 0) 8 (by unfold hh_rI; omega)
  have r9 := e (hh_rI 0) 9 (by unfold hh_rI; omega)
  have cc : ∀ q k2, q < 24 → hh_up v j k x (hh_cI 0 q) k2 = v (hh_cI 0 q) k2 := fun q k2 hq => e _ _ (by unfold hh_cI; omega)
  have h10 : ∀ q, q < 8 → hh_up v j k x (hh_hI 0 q) 10 = v (hh_hI 0 q) 10 := fun q hq => e _ _ (by unfold hh_hI; omega)
  have h12 : ∀ q, q < 8 → hh_up v j k x (hh_hI 0 q) 12 = v (hh_hI 0 q) 12 := fun q hq => e _ _ (by unfold hh_hI; omega)
  obtain ⟨a1, a2, a3, a4, a5, a6⟩ := h
  refine ⟨⟨fun a b ha hb => ?_, ?_, fun q hq => ?_, fun q hq => ?_, ?_, ?_⟩, ?_, ?_, ?_, fun q hq => ?_, fun q hq => ?_⟩
  · rw [e _ _ (by unfold hh_gI; omega)]; exact a1 a b ha hb
  · rw [r8]; exact a2
  · rw [cc q 3 hq, cc q 4 hq, cc q 5 hq]; exact a3 q hq
  · rw [h10 q hq, h12 q hq]; exact a4 q hq
  · rw [r9]; exact a5
  · rw [r7]; exact a6
  · rw [r8]; exact Int.le_refl _
  · rw [r9]; exact Int.le_refl _
  · rw [r7]; exact Int.le_refl _
  · rw [cc q 3 hq, cc q 4 hq, cc q 5 hq, cc q 6 hq]; exact ⟨Int.le_refl _, Int.le_refl _, Int.le_refl _, fun _ => rfl⟩
  · rw [h10 q hq]; exact Int.le_refl _
theorem hm_speed {ha sp : Int32} (h : hm_I T K v) (hh : ha.toNatClampNeg < 8) : hm_I T K (hf_X7_speed v ha sp).2 ∧ hm_M v (hf_X7_speed v ha sp).2 := by
  unfold hf_X7_speed
  refine hh_let_p (A := fun _ : Int32 => True) (P := fun z : Int32 × hh_M => hm_I T K z.2 ∧ hm_M v z.2) trivial (fun q _ => ?_)
  exact hh_let_p (A := fun z : hh_M => hm_I T K z ∧ hm_M v z) (P := fun z : Int32 × hh_M => hm_I T K z.2 ∧ hm_M v z.2) (h.up (by unfold hh_hI; omega)) (fun z hz => hz)
theorem hm_text {fr to : Int32} (h : hm_I T K v) (hK : K ≤ 100) (hh : to.toNatClampNeg < 8) : hm_I T (K + 1) (hf_X7_text v fr to).2 ∧ hm_M v (hf_X7_text v fr to).2 := by
  have one : (1 : Int32).toInt = 1 := rfl
  unfold hf_X7_text
  refine hh_let_p (A := fun z : hh_M => z = hh_up v (hh_rI 0) 7 ((v (hh_rI 0) 7) + 1)) (P := fun z : Int32 × hh_M => hm_I T (K + 1) z.2 ∧ hm_M v z.2) rfl (fun v59 h59 => ?_)
  refine hh_let_p (A := fun z : hh_M => z = hh_up v59 (hh_hI 0 to.toNatClampNeg) 12 ((v59 (hh_hI 0 to.toNatClampNeg) 12) + 1)) (P := fun z : Int32 × hh_M => hm_I T (K + 1) z.2 ∧ hm_M v z.2) rfl (fun v77 h77 => ?_)
  show hm_I T (K + 1) v77 ∧ hm_M v v77
  have e : ∀ a b, ¬ (a = 20 ∧ b = 7) → ¬ (a = 25 + to.toNatClampNeg ∧ b = 12) → v77 a b = v a b := fun a b q1 q2 => by
    rw [h77, h59]
    unfold hh_up
    rw [if_neg (by unfold hh_hI; omega), if_neg (by unfold hh_rI; omega)]
  have t7 : v77 (hh_rI 0) 7 = v (hh_rI 0) 7 + 1 := by
    rw [h77, hh_upx (show 7 ≠ 12 by decide), h59, hh_ups]
  obtain ⟨a1, a2, a3, a4, a5, a6⟩ := h
  have w12 : v77 (hh_hI 0 to.toNatClampNeg) 12 = v (hh_hI 0 to.toNatClampNeg) 12 + 1 := by
    rw [h77, hh_ups, h59]
    unfold hh_up
    rw [if_neg (by unfold hh_hI hh_rI; omega)]
  have r8 := e (hh_rI 0) 8 (by unfold hh_rI; omega) (by unfold hh_rI; omega)
  have r9 := e (hh_rI 0) 9 (by unfold hh_rI; omega) (by unfold hh_rI; omega)
  have cc : ∀ q k2, q < 24 → v77 (hh_cI 0 q) k2 = v (hh_cI 0 q) k2 := fun q k2 hq => e _ _ (by unfold hh_cI; omega) (by unfold hh_cI; omega)
  have h10 : ∀ q, q < 8 → v77 (hh_hI 0 q) 10 = v (hh_hI 0 q) 10 := fun q hq => e _ _ (by unfold hh_hI; omega) (by omega)
  have p7 : (v (hh_rI 0) 7 + 1).toInt = (v (hh_rI 0) 7).toInt + 1 := (hh_add (by rw [one]; omega)).trans (by rw [one])
  refine ⟨⟨fun a b ha hb => ?_, ?_, fun q hq => ?_, fun q hq => ?_, ?_, ?_⟩, ?_, ?_, ?_, fun q hq => ?_, fun q hq => ?_⟩
  · rw [e _ _ (by unfold hh_gI; omega) (by unfold hh_gI; omega)]; exact a1 a b ha hb
  · rw [r8]; exact a2
  · rw [cc q 3 hq, cc q 4 hq, cc q 5 hq]; exact a3 q hq
  · rw [h10 q hq]
    have h4 := a4 q hq
    refine ⟨h4.1, ?_⟩
    by_cases c : q = to.toNatClampNeg
    · rw [c, w12]
      rw [c] at h4
      have p12 : (v (hh_hI 0 to.toNatClampNeg) 12 + 1).toInt = (v (hh_hI 0 to.toNatClampNeg) 12).toInt + 1 := (hh_add (by rw [one]; omega)).trans (by rw [one])
      omega
    · rw [e _ _ (by unfold hh_hI; omega) (by unfold hh_hI; omega)]
      omega
  · rw [r9]; omega
  · rw [t7, p7]; omega
  · rw [r8]; exact Int.le_refl _
  · rw [r9]; exact Int.le_refl _
  · rw [t7, p7]; omega
  · rw [cc q 3 hq, cc q 4 hq, cc q 5 hq, cc q 6 hq]; exact ⟨Int.le_refl _, Int.le_refl _, Int.le_refl _, fun _ => rfl⟩
  · rw [h10 q hq]; exact Int.le_refl _
end HMI
