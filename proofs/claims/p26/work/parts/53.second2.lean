section HM2
variable {i j k g : Nat} {d e d' e' b : Int} {u v w : hh_M} {x : Int32}
theorem hm_move : hh_F (fun j k => j = 25 + i ∧ (k = 1 ∨ k = 2)) v (hf_X1_move v 0 i) := by
  unfold hf_X1_move
  refine hh_let_p (A := fun z : hh_M => hh_F (fun j k => j = 25 + i ∧ (k = 1 ∨ k = 2)) v z) (P := fun z : hh_M => hh_F (fun j k => j = 25 + i ∧ (k = 1 ∨ k = 2)) v z) (hh_F_up hh_F_rf (by unfold hh_hI; omega)) (fun z10 h10 => ?_)
  refine iteInduction (motive := fun z : hh_M => hh_F (fun j k => j = 25 + i ∧ (k = 1 ∨ k = 2)) v z) (fun _ => ?_) (fun _ => ?_)
  · refine iteInduction (motive := fun z : hh_M => hh_F (fun j k => j = 25 + i ∧ (k = 1 ∨ k = 2)) v z) (fun _ => h10) (fun _ => ?_)
    refine hh_let_p (A := fun z : hh_M => hh_F (fun j k => j = 25 + i ∧ (k = 1 ∨ k = 2)) v z) (P := fun z : hh_M => hh_F (fun j k => j = 25 + i ∧ (k = 1 ∨ k = 2)) v z) (hh_F_up h10 (by unfold hh_hI; omega)) (fun z59 h59 => ?_)
    exact hh_let_p (A := fun z : hh_M => hh_F (fun j k => j = 25 + i ∧ (k = 1 ∨ k = 2)) v z) (P := fun z : hh_M => hh_F (fun j k => j = 25 + i ∧ (k = 1 ∨ k = 2)) v z) (hh_F_up h59 (by unfold hh_hI; omega)) (fun z h => h)
  · refine hh_let_p (A := fun z : hh_M => hh_F (fun j k => j = 25 + i ∧ (k = 1 ∨ k = 2)) v z) (P := fun z : hh_M => hh_F (fun j k => j = 25 + i ∧ (k = 1 ∨ k = 2)) v z) (hh_F_up h10 (by unfold hh_hI; omega)) (fun z26 h26 => ?_)
    exact hh_let_p (A := fun z : hh_M => hh_F (fun j k => j = 25 + i ∧ (k = 1 ∨ k = 2)) v z) (P := fun z : hh_M => hh_F (fun j k => j = 25 + i ∧ (k = 1 ∨ k = 2)) v z) (hh_F_up h26 (by unfold hh_hI; omega)) (fun z h => h)
theorem hm_f12 {n : Nat} (hn : n ≤ 8) : hh_F (fun j k => 25 ≤ j ∧ j < 33 ∧ (k = 1 ∨ k = 2)) v (hh_fld (fun (i9 : Nat) (z : hh_M) => hl_X5_second_12 0 i9 z) n v) := by
  refine hq_fldF (fun i z hi => ?_)
  unfold hl_X5_second_12
  exact hh_let_p (A := fun w : hh_M => hh_F (fun j k => j = 25 + i ∧ (k = 1 ∨ k = 2)) z w) (P := fun w : hh_M => hh_F (fun j k => 25 ≤ j ∧ j < 33 ∧ (k = 1 ∨ k = 2)) z w) hm_move (fun w h => h.mo (fun j k hp => by omega))
theorem hm_deliver : hh_F (fun j k => j = 25 + i ∧ (k = 11 ∨ k = 12)) v (hf_X5_deliverTexts v 0 i) ∧ (hf_X5_deliverTexts v 0 i (hh_hI 0 i) 12 = v (hh_hI 0 i) 12 ∨ hf_X5_deliverTexts v 0 i (hh_hI 0 i) 12 = 0) := by
  unfold hf_X5_deliverTexts
  refine iteInduction (motive := fun z : hh_M => hh_F (fun j k => j = 25 + i ∧ (k = 11 ∨ k = 12)) v z ∧ (z (hh_hI 0 i) 12 = v (hh_hI 0 i) 12 ∨ z (hh_hI 0 i) 12 = 0)) (fun _ => ⟨hh_F_rf, Or.inl rfl⟩) (fun _ => ?_)
  refine hh_let_p (A := fun z : hh_M => hh_F (fun j k => j = 25 + i ∧ (k = 11 ∨ k = 12)) v z) (P := fun z : hh_M => hh_F (fun j k => j = 25 + i ∧ (k = 11 ∨ k = 12)) v z ∧ (z (hh_hI 0 i) 12 = v (hh_hI 0 i) 12 ∨ z (hh_hI 0 i) 12 = 0)) (hh_F_up hh_F_rf (by unfold hh_hI; omega)) (fun z18 h18 => ?_)
  exact hh_let_p (A := fun z : hh_M => z = hh_up z18 (hh_hI 0 i) 12 0) (P := fun z : hh_M => hh_F (fun j k => j = 25 + i ∧ (k = 11 ∨ k = 12)) v z ∧ (z (hh_hI 0 i) 12 = v (hh_hI 0 i) 12 ∨ z (hh_hI 0 i) 12 = 0)) rfl (fun z h => by
    rw [h]
    exact ⟨hh_F_up h18 (by unfold hh_hI; omega), Or.inr hh_ups⟩)
theorem hm_f165 {n : Nat} (hn : n ≤ 8) : hh_F (fun j k => 25 ≤ j ∧ j < 33 ∧ (k = 11 ∨ k = 12)) v (hh_fld (fun (i9 : Nat) (z : hh_M) => hl_X5_second_165 0 i9 z) n v) ∧ ∀ q, q < 8 → hh_fld (fun (i9 : Nat) (z : hh_M) => hl_X5_second_165 0 i9 z) n v (hh_hI 0 q) 12 = v (hh_hI 0 q) 12 ∨ hh_fld (fun (i9 : Nat) (z : hh_M) => hl_X5_second_165 0 i9 z) n v (hh_hI 0 q) 12 = 0 := by
  refine hh_fld_in (f := fun (i9 : Nat) (z : hh_M) => hl_X5_second_165 0 i9 z) (n := n) (s := v) (I := fun i z => hh_F (fun j k => 25 ≤ j ∧ j < 33 ∧ (k = 11 ∨ k = 12)) v z ∧ ∀ q, q < 8 → z (hh_hI 0 q) 12 = v (hh_hI 0 q) 12 ∨ z (hh_hI 0 q) 12 = 0) ⟨hh_F_rf, fun q _ => Or.inl rfl⟩ (fun i z hi hz => ?_)
  have h := hm_deliver (v := z) (i := i)
  have hl : hl_X5_second_165 0 i z = hf_X5_deliverTexts z 0 i := rfl
  rw [hl]
  refine ⟨hz.1.tr (h.1.mo (fun j k hp => by omega)), fun q hq => ?_⟩
  by_cases c : q = i
  · subst c
    rcases h.2 with h2 | h2
    · rw [h2]; exact hz.2 q hq
    · exact Or.inr h2
  · rw [h.1 (hh_hI 0 q) 12 (by unfold hh_hI; omega)]
    exact hz.2 q hq
/-- what a second does to the counters -/
def hm_S (v w : hh_M) : Prop := hm_G w ∧ w (hh_rI 0) 8 = v (hh_rI 0) 8 + 1 ∧ (∀ k, k ≠ 8 → w (hh_rI 0) k = v (hh_rI 0) k) ∧ (∀ q, q < 24 → hm_C q 2 3 v w) ∧ ∀ q, q < 8 → ((v (hh_hI 0 q) 10).toInt ≤ (w (hh_hI 0 q) 10).toInt ∧ (w (hh_hI 0 q) 10).toInt ≤ (v (hh_hI 0 q) 10).toInt + 1) ∧ (w (hh_hI 0 q) 12 = v (hh_hI 0 q) 12 ∨ w (hh_hI 0 q) 12 = 0)
theorem hm_second (hG : hm_G v) (hB : ∀ q, q < 24 → hm_BB 500000 q v) (hU : ∀ q, q < 8 → (v (hh_hI 0 q) 10).toInt ≤ 1000000 ∧ 0 ≤ (v (hh_hI 0 q) 10).toInt) (hn : (v (hh_rI 0) 5).toNatClampNeg ≤ 8) (hc : (v (hh_rI 0) 6).toNatClampNeg ≤ 24) : hm_S v (hf_X5_second v 0) := by
  unfold hf_X5_second
  refine hh_let_p (A := fun z : hh_M => z = hh_up v (hh_rI 0) 8 ((v (hh_rI 0) 8) + 1)) (P := fun z : hh_M => hm_S v z) rfl (fun v7 h7 => ?_)
  have f7 : hh_F (fun j k => j = 20 ∧ k = 8) v v7 := by rw [h7]; exact hh_F_up hh_F_rf (by unfold hh_rI; omega)
  have n7 : v7 (hh_rI 0) 8 = v (hh_rI 0) 8 + 1 := by rw [h7]; exact hh_ups
  have r7 : ∀ k, k ≠ 8 → v7 (hh_rI 0) k = v (hh_rI 0) k := fun k hk => f7 _ _ (by omega)
  refine hh_let_p (A := fun z : hh_M => hh_F (fun j k => 25 ≤ j ∧ j < 33 ∧ (k = 1 ∨ k = 2)) v7 z) (P := fun z : hh_M => hm_S v z) (hm_f12 (by rw [r7 5 (by decide)]; exact hn)) (fun v12 f12 => ?_)
  have r12 : ∀ k, v12 (hh_rI 0) k = v7 (hh_rI 0) k := fun k => f12 _ _ (by unfold hh_rI; omega)
  have u12 : ∀ q, q < 8 → v12 (hh_hI 0 q) 10 = v (hh_hI 0 q) 10 := fun q hq => (f12 _ _ (by omega)).trans (f7 _ _ (by omega))
  refine hh_let_p (A := fun z : hh_M => hh_F (fun j k => 25 ≤ j ∧ j < 33 ∧ (k = 5 ∨ (7 ≤ k ∧ k < 11))) v12 z ∧ ∀ q, q < 8 → (v12 (hh_hI 0 q) 10).toInt ≤ (z (hh_hI 0 q) 10).toInt ∧ (z (hh_hI 0 q) 10).toInt ≤ (v12 (hh_hI 0 q) 10).toInt + 1) (P := fun z : hh_M => hm_S v z) (hm_f37 (v := v12) (n := (v12 (hh_rI 0) 5).toNatClampNeg) (by rw [r12, r7 5 (by decide)]; exact hn) (fun q hq => by rw [u12 q hq]; exact hU q hq)) (fun v37 h37 => ?_)
  obtain ⟨f37, u37⟩ := h37
  have r37 : ∀ k, v37 (hh_rI 0) k = v12 (hh_rI 0) k := fun k => f37 _ _ (by unfold hh_rI; omega)
  have c37 : ∀ q k, q < 24 → v37 (hh_cI 0 q) k = v (hh_cI 0 q) k := fun q k hq => (f37 _ _ (by unfold hh_cI; omega)).trans ((f12 _ _ (by unfold hh_cI; omega)).trans (f7 _ _ (by unfold hh_cI; omega)))
  have G37 : hm_G v37 := fun a b ha hb => by
    rw [f37 _ _ (by unfold hh_gI; omega), f12 _ _ (by unfold hh_gI; omega), f7 _ _ (by unfold hh_gI; omega)]
    exact hG a b ha hb
  have B37 : ∀ q, q < 24 → hm_BB 500000 q v37 := fun q hq => by
    unfold hm_BB
    rw [c37 q 3 hq, c37 q 4 hq, c37 q 5 hq]
    exact hB q hq
  refine hh_let_p (A := fun z : hh_M => hm_G z ∧ hh_F hm_PP v37 z ∧ ∀ q, q < 24 → hm_C q 2 0 v37 z) (P := fun z : hh_M => hm_S v z) (hm_fC (v := v37) (n := (v37 (hh_rI 0) 6).toNatClampNeg) (b := 500000) (d := 2) (e := 0) (f := fun (i9 : Nat) (z : hh_M) => hl_X5_second_85 0 i9 z) (by rw [r37, r12, r7 6 (by decide)]; exact hc) (by decide) (fun i z hi hz hb => hm_l85 hi hz hb) G37 B37) (fun v85 h85 => ?_)
  obtain ⟨G85, f85, c85⟩ := h85
  have r85 : ∀ k, v85 (hh_rI 0) k = v37 (hh_rI 0) k := fun k => f85 _ _ (by unfold hm_PP hh_rI; omega)
  have B85 : ∀ q, q < 24 → hm_BB 600000 q v85 := fun q hq => by
    have b1 := B37 q hq
    obtain ⟨a1, a2, a3, a4, a5, a6, a7⟩ := c85 q hq
    unfold hm_BB at b1 ⊢
    omega
  refine hh_let_p (A := fun z : hh_M => hm_G z ∧ hh_F hm_PP v85 z ∧ ∀ q, q < 24 → hm_C q 0 3 v85 z) (P := fun z : hh_M => hm_S v z) (hm_fC (v := v85) (n := (v85 (hh_rI 0) 6).toNatClampNeg) (b := 600000) (d := 0) (e := 3) (f := fun (i9 : Nat) (z : hh_M) => hl_X5_second_139 0 i9 z) (by rw [r85, r37, r12, r7 6 (by decide)]; exact hc) (by decide) (fun i z hi hz hb => hm_l139 hi hz hb) G85 B85) (fun v139 h139 => ?_)
  obtain ⟨G139, f139, c139⟩ := h139
  have r139 : ∀ k, v139 (hh_rI 0) k = v85 (hh_rI 0) k := fun k => f139 _ _ (by unfold hm_PP hh_rI; omega)
  refine hh_let_p (A := fun z : hh_M => hh_F (fun j k => 25 ≤ j ∧ j < 33 ∧ (k = 11 ∨ k = 12)) v139 z ∧ ∀ q, q < 8 → z (hh_hI 0 q) 12 = v139 (hh_hI 0 q) 12 ∨ z (hh_hI 0 q) 12 = 0) (P := fun z : hh_M => hm_S v z) (hm_f165 (v := v139) (n := (v139 (hh_rI 0) 5).toNatClampNeg) (by rw [r139, r85, r37, r12, r7 5 (by decide)]; exact hn)) (fun v165 h165 => ?_)
  obtain ⟨f165, w165⟩ := h165
  have r165 : ∀ k, v165 (hh_rI 0) k = v7 (hh_rI 0) k := fun k => by
    rw [f165 _ _ (by unfold hh_rI; omega), r139, r85, r37, r12]
  refine ⟨fun a b ha hb => ?_, ?_, fun k hk => ?_, fun q hq => ?_, fun q hq => ⟨?_, ?_⟩⟩
  · rw [f165 _ _ (by unfold hh_gI; omega)]
    exact G139 a b ha hb
  · rw [r165, n7]
  · rw [r165, r7 k hk]
  · have e1 : hm_C q 0 0 v v37 := hm_C.eq (fun k _ => c37 q k hq)
    have e2 : hm_C q 0 0 v139 v165 := hm_C.eq (fun k _ => f165 _ _ (by unfold hh_cI; omega))
    exact (((e1.tr (c85 q hq)).tr (c139 q hq)).tr e2).mo (by decide) (by decide)
  · rw [f165 _ _ (by unfold hh_hI; omega), f139 _ _ (by unfold hm_PP hh_hI; omega), f85 _ _ (by unfold hm_PP hh_hI; omega)]
    have := u37 q hq
    rw [u12 q hq] at this
    exact this
  · have e12 : v139 (hh_hI 0 q) 12 = v (hh_hI 0 q) 12 := by
      rw [f139 _ _ (by unfold hm_PP hh_hI; omega), f85 _ _ (by unfold hm_PP hh_hI; omega), f37 _ _ (by omega), f12 _ _ (by omega), f7 _ _ (by unfold hh_hI; omega)]
    rw [← e12]
    exact w165 q hq
end HM2
