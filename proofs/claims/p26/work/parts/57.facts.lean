/-! what the own property asks of the counters -/
section HPF
variable {T K T' K' : Nat} {u v w : hh_M} {n m : Nat}
theorem hp_join6 {i g : Nat} {ha : Int32} : hf_X5_join v 0 i g ha (hh_rI 0) 6 = v (hh_rI 0) 6 := by
  unfold hf_X5_join
  refine hh_let_p (A := fun z : hh_M => z (hh_rI 0) 6 = v (hh_rI 0) 6) (P := fun z : hh_M => z (hh_rI 0) 6 = v (hh_rI 0) 6) (by rw [hh_upj (by unfold hh_gI hh_rI; omega)]) (fun v2 h2 => ?_)
  refine hh_let_p (A := fun z : hh_M => z (hh_rI 0) 6 = v (hh_rI 0) 6) (P := fun z : hh_M => z (hh_rI 0) 6 = v (hh_rI 0) 6) (by rw [hh_upj (by unfold hh_gI hh_rI; omega)]; exact h2) (fun v15 h15 => ?_)
  refine hh_let_p (A := fun z : hh_M => z (hh_rI 0) 6 = v (hh_rI 0) 6) (P := fun z : hh_M => z (hh_rI 0) 6 = v (hh_rI 0) 6) (by rw [hh_upj (by unfold hh_lI hh_rI; omega)]; exact h15) (fun v30 h30 => ?_)
  exact hh_let_p (A := fun z : hh_M => z (hh_rI 0) 6 = v (hh_rI 0) 6) (P := fun z : hh_M => z (hh_rI 0) 6 = v (hh_rI 0) 6) (by rw [hh_upj (by unfold hh_hI hh_rI; omega)]; exact h30) (fun v41 h41 => h41)
theorem hp_call6 {fr to : Int32} (hM : (v 1 2).toNatClampNeg ≤ 6) (h9 : 0 ≤ (v (hh_rI 0) 9).toInt ∧ (v (hh_rI 0) 9).toInt ≤ 100000) : (hf_X7_call v fr to).2 (hh_rI 0) 6 = v (hh_rI 0) 6 ∨ (hf_X7_call v fr to).2 (hh_rI 0) 6 = v (hh_rI 0) 6 + 1 := by
  unfold hf_X7_call
  refine hh_let_p (A := fun _ : Int32 => True) (P := fun z : Int32 × hh_M => z.2 (hh_rI 0) 6 = v (hh_rI 0) 6 ∨ z.2 (hh_rI 0) 6 = v (hh_rI 0) 6 + 1) trivial (fun q _ => ?_)
  refine hh_let_p (A := fun z : hh_M => z (hh_rI 0) 6 = v (hh_rI 0) 6 ∨ z (hh_rI 0) 6 = v (hh_rI 0) 6 + 1) (P := fun z : Int32 × hh_M => z.2 (hh_rI 0) 6 = v (hh_rI 0) 6 ∨ z.2 (hh_rI 0) 6 = v (hh_rI 0) 6 + 1) ?_ (fun w hw => hw)
  have r0 : v (hh_rI 0) 6 = v (hh_rI 0) 6 ∨ v (hh_rI 0) 6 = v (hh_rI 0) 6 + 1 := Or.inl rfl
  unfold hf_X5_tryCall
  refine hh_let_p (A := fun _ : Int32 => True) (P := fun z : Int32 × hh_M => z.2 (hh_rI 0) 6 = v (hh_rI 0) 6 ∨ z.2 (hh_rI 0) 6 = v (hh_rI 0) 6 + 1) trivial (fun q16 _ => ?_)
  refine iteInduction (motive := fun z : Int32 × hh_M => z.2 (hh_rI 0) 6 = v (hh_rI 0) 6 ∨ z.2 (hh_rI 0) 6 = v (hh_rI 0) 6 + 1) (fun _ => r0) (fun _ => ?_)
  refine iteInduction (motive := fun z : Int32 × hh_M => z.2 (hh_rI 0) 6 = v (hh_rI 0) 6 ∨ z.2 (hh_rI 0) 6 = v (hh_rI 0) 6 + 1) (fun _ => r0) (fun _ => ?_)
  refine hh_let_p (A := fun _ : Int32 => True) (P := fun z : Int32 × hh_M => z.2 (hh_rI 0) 6 = v (hh_rI 0) 6 ∨ z.2 (hh_rI 0) 6 = v (hh_rI 0) 6 + 1) trivial (fun q36 _ => ?_)
  refine hh_let_p (A := fun z : hh_M => z (hh_rI 0) 6 = v (hh_rI 0) 6) (P := fun z : Int32 × hh_M => z.2 (hh_rI 0) 6 = v (hh_rI 0) 6 ∨ z.2 (hh_rI 0) 6 = v (hh_rI 0) 6 + 1) ((hm_page hM h9 _).1 _ _ (by omega)) (fun v36 h36 => ?_)
  refine iteInduction (motive := fun z : Int32 × hh_M => z.2 (hh_rI 0) 6 = v (hh_rI 0) 6 ∨ z.2 (hh_rI 0) 6 = v (hh_rI 0) 6 + 1) (fun _ => Or.inl h36) (fun _ => ?_)
  refine hh_let_p (A := fun _ : Int32 => True) (P := fun z : Int32 × hh_M => z.2 (hh_rI 0) 6 = v (hh_rI 0) 6 ∨ z.2 (hh_rI 0) 6 = v (hh_rI 0) 6 + 1) trivial (fun q47 _ => ?_)
  refine iteInduction (motive := fun z : Int32 × hh_M => z.2 (hh_rI 0) 6 = v (hh_rI 0) 6 ∨ z.2 (hh_rI 0) 6 = v (hh_rI 0) 6 + 1) (fun _ => Or.inl h36) (fun _ => ?_)
  refine hh_let_p (A := fun _ : Int32 => True) (P := fun z : Int32 × hh_M => z.2 (hh_rI 0) 6 = v (hh_rI 0) 6 ∨ z.2 (hh_rI 0) 6 = v (hh_rI 0) 6 + 1) trivial (fun j110 _ => ?_)
  refine iteInduction (motive := fun z : Int32 × hh_M => z.2 (hh_rI 0) 6 = v (hh_rI 0) 6 ∨ z.2 (hh_rI 0) 6 = v (hh_rI 0) 6 + 1) (fun _ => Or.inl h36) (fun _ => ?_)
  refine iteInduction (motive := fun z : Int32 × hh_M => z.2 (hh_rI 0) 6 = v (hh_rI 0) 6 ∨ z.2 (hh_rI 0) 6 = v (hh_rI 0) 6 + 1) (fun _ => ?_) (fun _ => Or.inl h36)
  refine hh_let_p (A := fun z : hh_M => z (hh_rI 0) 6 = v (hh_rI 0) 6) (P := fun z : Int32 × hh_M => z.2 (hh_rI 0) 6 = v (hh_rI 0) 6 ∨ z.2 (hh_rI 0) 6 = v (hh_rI 0) 6 + 1) (hp_join6.trans h36) (fun v145 h145 => ?_)
  refine hh_let_p (A := fun z : hh_M => z (hh_rI 0) 6 = v (hh_rI 0) 6) (P := fun z : Int32 × hh_M => z.2 (hh_rI 0) 6 = v (hh_rI 0) 6 ∨ z.2 (hh_rI 0) 6 = v (hh_rI 0) 6 + 1) (hp_join6.trans h145) (fun v162 h162 => ?_)
  exact hh_let_p (A := fun z : hh_M => z (hh_rI 0) 6 = v162 (hh_rI 0) 6 + 1) (P := fun z : Int32 × hh_M => z.2 (hh_rI 0) 6 = v (hh_rI 0) 6 ∨ z.2 (hh_rI 0) 6 = v (hh_rI 0) 6 + 1) hh_ups (fun v172 h172 => Or.inr (h172.trans (by rw [h162])))
theorem hp_m5 : hf_X7_many v 5 = hf_X5_callsThat v 0 2 := by
  unfold hf_X7_many
  rw [if_neg (by decide), if_neg (by decide), if_neg (by decide), if_neg (by decide), if_neg (by decide), if_pos rfl]
  exact hh_let_eq rfl
theorem hp_m6 : hf_X7_many v 6 = hf_X5_sumOfCalls v 0 4 := by
  unfold hf_X7_many
  rw [if_neg (by decide), if_neg (by decide), if_neg (by decide), if_neg (by decide), if_neg (by decide), if_neg (by decide), if_pos rfl]
  exact hh_let_eq rfl
theorem hp_m7 : hf_X7_many v 7 = hf_X5_sumOfCalls v 0 5 := by
  unfold hf_X7_many
  rw [if_neg (by decide), if_neg (by decide), if_neg (by decide), if_neg (by decide), if_neg (by decide), if_neg (by decide), if_neg (by decide), if_pos rfl]
  exact hh_let_eq rfl
theorem hp_m0 : hf_X7_many v 0 = v (hh_rI 0) 8 := by
  unfold hf_X7_many
  rw [if_pos rfl]
theorem hp_m3 : hf_X7_many v 3 = v (hh_rI 0) 6 := by
  unfold hf_X7_many
  rw [if_neg (by decide), if_neg (by decide), if_neg (by decide), if_pos rfl]
theorem hp_m8 : hf_X7_many v 8 = v (hh_rI 0) 9 := by
  unfold hf_X7_many
  rw [if_neg (by decide), if_neg (by decide), if_neg (by decide), if_neg (by decide), if_neg (by decide), if_neg (by decide), if_neg (by decide), if_neg (by decide), if_pos rfl]
theorem hp_m9 : hf_X7_many v 9 = v (hh_rI 0) 7 := by
  unfold hf_X7_many
  rw [if_neg (by decide), if_neg (by decide), if_neg (by decide), if_neg (by decide), if_neg (by decide), if_neg (by decide), if_neg (by decide), if_neg (by decide), if_neg (by decide), if_pos rfl]
theorem hp_m10 : hf_X7_many v 10 = hf_X5_sumOfHandsets v 0 10 := by
  unfold hf_X7_many
  rw [if_neg (by decide), if_neg (by decide), if_neg (by decide), if_neg (by decide), if_neg (by decide), if_neg (by decide), if_neg (by decide), if_neg (by decide), if_neg (by decide), if_neg (by decide), if_pos rfl]
  exact hh_let_eq rfl
theorem hp_m11 : hf_X7_many v 11 = hf_X5_sumOfHandsets v 0 8 := by
  unfold hf_X7_many
  rw [if_neg (by decide), if_neg (by decide), if_neg (by decide), if_neg (by decide), if_neg (by decide), if_neg (by decide), if_neg (by decide), if_neg (by decide), if_neg (by decide), if_neg (by decide), if_neg (by decide), if_pos rfl]
  exact hh_let_eq rfl
theorem hp_m12 : hf_X7_many v 12 = hf_X5_sumOfCalls v 0 3 := by
  unfold hf_X7_many
  rw [if_neg (by decide), if_neg (by decide), if_neg (by decide), if_neg (by decide), if_neg (by decide), if_neg (by decide), if_neg (by decide), if_neg (by decide), if_neg (by decide), if_neg (by decide), if_neg (by decide), if_neg (by decide), if_pos rfl]
  exact hh_let_eq rfl
theorem hp_m13 : hf_X7_many v 13 = hf_X5_handsetsToBeFound v 0 := by
  unfold hf_X7_many
  rw [if_neg (by decide), if_neg (by decide), if_neg (by decide), if_neg (by decide), if_neg (by decide), if_neg (by decide), if_neg (by decide), if_neg (by decide), if_neg (by decide), if_neg (by decide), if_neg (by decide), if_neg (by decide), if_neg (by decide), if_pos rfl]
  exact hh_let_eq rfl
theorem hp_c3 (i : Nat) : hf_X0_fact v 0 i 3 = v (hh_cI 0 i) 3 := by
  unfold hf_X0_fact
  rw [if_neg (by decide), if_neg (by decide), if_neg (by decide), if_pos rfl]
theorem hp_c4 (i : Nat) : hf_X0_fact v 0 i 4 = v (hh_cI 0 i) 4 := by
  unfold hf_X0_fact
  rw [if_neg (by decide), if_neg (by decide), if_neg (by decide), if_neg (by decide), if_pos rfl]
theorem hp_c5 (i : Nat) : hf_X0_fact v 0 i 5 = v (hh_cI 0 i) 5 := by
  unfold hf_X0_fact
  rw [if_neg (by decide), if_neg (by decide), if_neg (by decide), if_neg (by decide), if_neg (by decide), if_pos rfl]
theorem hp_h8 (i : Nat) : hf_X1_fact v 0 i 8 = v (hh_hI 0 i) 10 := by
  unfold hf_X1_fact
  rw [if_neg (by decide), if_neg (by decide), if_neg (by decide), if_neg (by decide), if_neg (by decide), if_neg (by decide), if_neg (by decide), if_neg (by decide), if_pos rfl]
theorem hp_h10 (i : Nat) : hf_X1_fact v 0 i 10 = v (hh_hI 0 i) 12 := by
  unfold hf_X1_fact
  rw [if_neg (by decide), if_neg (by decide), if_neg (by decide), if_neg (by decide), if_neg (by decide), if_neg (by decide), if_neg (by decide), if_neg (by decide), if_neg (by decide), if_neg (by decide)]
/-- none of the nine sums gets less -/
theorem hp_mono (hI : hm_I T K v) (hI' : hm_I T' K' w) (hM : hm_M v w) (hT : T ≤ 1000) (hT' : T' ≤ 1000) (e5 : (v (hh_rI 0) 5).toNatClampNeg = 5) (e5' : (w (hh_rI 0) 5).toNatClampNeg = 5) (e6 : (v (hh_rI 0) 6) = nI n) (e6' : (w (hh_rI 0) 6) = nI m) (hnm : n ≤ m) (hm : m ≤ 24) : (hf_X7_many v 0).toInt ≤ (hf_X7_many w 0).toInt ∧ (hf_X7_many v 3).toInt ≤ (hf_X7_many w 3).toInt ∧ (hf_X7_many v 5).toInt ≤ (hf_X7_many w 5).toInt ∧ (hf_X7_many v 6).toInt ≤ (hf_X7_many w 6).toInt ∧ (hf_X7_many v 7).toInt ≤ (hf_X7_many w 7).toInt ∧ (hf_X7_many v 8).toInt ≤ (hf_X7_many w 8).toInt ∧ (hf_X7_many v 9).toInt ≤ (hf_X7_many w 9).toInt ∧ (hf_X7_many v 11).toInt ≤ (hf_X7_many w 11).toInt ∧ (hf_X7_many v 12).toInt ≤ (hf_X7_many w 12).toInt := by
  have n6 : (v (hh_rI 0) 6).toNatClampNeg = n := by rw [e6]; exact nI_clamp (by omega)
  have n6' : (w (hh_rI 0) 6).toNatClampNeg = m := by rw [e6']; exact nI_clamp (by omega)
  obtain ⟨b1, b2, b3, b4, b5⟩ := hM
  have cs : ∀ (e : Int32) (k : Nat), (∀ (z : hh_M) i, hf_X0_fact z 0 i e = z (hh_cI 0 i) k) → (k = 3 ∨ k = 4 ∨ k = 5) → (hf_X5_sumOfCalls v 0 e).toInt ≤ (hf_X5_sumOfCalls w 0 e).toInt := fun e k he hk => by
    have B : ∀ i, i < 24 → 0 ≤ (v (hh_cI 0 i) k).toInt ∧ (v (hh_cI 0 i) k).toInt ≤ 1000000 := fun i hi => by
      have := hI.2.2.1 i hi
      rcases hk with rfl | rfl | rfl <;> omega
    have B' : ∀ i, i < 24 → 0 ≤ (w (hh_cI 0 i) k).toInt ∧ (w (hh_cI 0 i) k).toInt ≤ 1000000 := fun i hi => by
      have := hI'.2.2.1 i hi
      rcases hk with rfl | rfl | rfl <;> omega
    rw [hs_calls (he v) n6 (by omega) B, hs_calls (he w) n6' hm B']
    refine Int.le_trans (hs_le (g := fun i => (w (hh_cI 0 i) k).toInt) (fun i hi => ?_)) (hs_ext hnm (fun i hi => (B' i (by omega)).1))
    have := b4 i (by omega)
    rcases hk with rfl | rfl | rfl
    · exact this.1
    · exact this.2.1
    · exact this.2.2.1
  refine ⟨?_, ?_, ?_, ?_, ?_, ?_, ?_, ?_, ?_⟩
  · rw [hp_m0, hp_m0]; exact b1
  · rw [hp_m3, hp_m3, e6, e6', nI_toInt (by omega), nI_toInt (by omega)]; omega
  · rw [hp_m5, hp_m5, hs_that n6 (by omega), hs_that n6' hm]
    refine Int.le_trans (hs_le (g := fun i => if w (hh_cI 0 i) 6 = 2 then 1 else 0) (fun i hi => ?_)) (hs_ext hnm (fun i hi => by split <;> decide))
    have := (b4 i (by omega)).2.2.2
    show (if v (hh_cI 0 i) 6 = 2 then (1 : Int) else 0) ≤ if w (hh_cI 0 i) 6 = 2 then 1 else 0
    by_cases c : v (hh_cI 0 i) 6 = 2
    · have e : w (hh_cI 0 i) 6 = 2 := (this (by rw [c]; decide)).trans c
      rw [if_pos c, if_pos e]
      exact Int.le_refl _
    · rw [if_neg c]
      split <;> decide
  · rw [hp_m6, hp_m6]; exact cs 4 4 (fun z i => hp_c4 i) (by omega)
  · rw [hp_m7, hp_m7]; exact cs 5 5 (fun z i => hp_c5 i) (by omega)
  · rw [hp_m8, hp_m8]; exact b2
  · rw [hp_m9, hp_m9]; exact b3
  · rw [hp_m11, hp_m11, hs_hands hp_h8 e5 (by omega) (fun i hi => by have := hI.2.2.2.1 i hi; omega), hs_hands hp_h8 e5' (by omega) (fun i hi => by have := hI'.2.2.2.1 i hi; omega)]
    exact hs_le (fun i hi => b5 i (by omega))
  · rw [hp_m12, hp_m12]; exact cs 3 3 (fun z i => hp_c3 i) (by omega)
theorem hp_76 (hI : hm_I T K v) (hT : T ≤ 1000) (e6 : (v (hh_rI 0) 6) = nI n) (hn : n ≤ 24) : (hf_X7_many v 7).toInt ≤ (hf_X7_many v 6).toInt := by
  have n6 : (v (hh_rI 0) 6).toNatClampNeg = n := by rw [e6]; exact nI_clamp (by omega)
  rw [hp_m7, hp_m6, hs_calls hp_c5 n6 hn (fun i hi => by have := hI.2.2.1 i hi; omega), hs_calls hp_c4 n6 hn (fun i hi => by have := hI.2.2.1 i hi; omega)]
  exact hs_le (fun i hi => by have := hI.2.2.1 i (by omega); omega)
theorem hp_10 (hI : hm_I T K v) (hK : K ≤ 1000) (e5 : (v (hh_rI 0) 5).toNatClampNeg = 5) {i : Nat} (hi : i < 5) : (hf_X7_ofHandset v (nI i) 10).toInt ≤ (hf_X7_many v 10).toInt := by
  have b : ∀ i, i < 8 → 0 ≤ (v (hh_hI 0 i) 12).toInt ∧ (v (hh_hI 0 i) 12).toInt ≤ 1000000 := fun i hi => by have := hI.2.2.2.1 i hi; omega
  rw [hp_m10, hs_hands hp_h10 e5 (by omega) b]
  have e : hf_X7_ofHandset v (nI i) 10 = v (hh_hI 0 i) 12 := by
    unfold hf_X7_ofHandset
    rw [nI_clamp (by omega)]
    exact (hh_let_eq rfl : _ = hf_X1_fact v 0 i 10).trans (hp_h10 i)
  rw [e]
  exact hs_mem (f := fun i => (v (hh_hI 0 i) 12).toInt) hi (fun i hi => (b i (by omega)).1)
theorem hp_13 (e5 : (v (hh_rI 0) 5).toNatClampNeg = 5) : (hf_X7_many v 13).toInt ≤ hs_sum (fun i => if v (hh_hI 0 i) 5 = -1 then 0 else 1) 5 := by
  rw [hp_m13]
  exact (hs_found e5 (by omega)).2
end HPF
