/-! WHAT ASKING ANSWERS DOES NOT HANG ON THE TRIAL: a road copied is the same whatever the trial held -/
theorem hq_cut {Z : Nat → Nat → Prop} {v w : hh_M} (h : hh_F Z v w) {a b : Nat} {x y : Int32} (e : y = x) : hh_F (fun j k => Z j k ∧ ¬(j = a ∧ k = b)) (hh_up v a b x) (hh_up w a b y) := by
  intro j k hjk
  unfold hh_up
  by_cases c : j = a ∧ k = b
  · rw [if_pos c, if_pos c, e]
  · rw [if_neg c, if_neg c]; exact h j k (fun z => hjk ⟨z, c⟩)
theorem hq_fld {f : Nat → hh_M → hh_M} {Z : Nat → Nat → Nat → Prop} {n : Nat} {v w : hh_M} (h0 : hh_F (Z 0) v w) (hs : ∀ i v w, i < n → hh_F (Z i) v w → hh_F (Z (i + 1)) (f i v) (f i w)) : hh_F (Z n) (hh_fld f n v) (hh_fld f n w) := by
  induction n with
  | zero => exact h0
  | succ n ih => exact hs n _ _ (Nat.lt_succ_self n) (ih (fun i v w hi => hs i v w (Nat.lt_succ_of_lt hi)))
theorem hq_fldF {f : Nat → hh_M → hh_M} {P : Nat → Nat → Prop} {n : Nat} {v : hh_M} (hs : ∀ i v, i < n → hh_F P v (f i v)) : hh_F P v (hh_fld f n v) := by
  induction n with
  | zero => exact hh_F_rf
  | succ n ih => exact (ih (fun i v hi => hs i v (Nat.lt_succ_of_lt hi))).tr (hs n _ (Nat.lt_succ_self n))
theorem hq_e1 {v : hh_M} {i : Nat} (j k : Nat) : hf_X1_copyFrom v 1 i 0 i j k = if j = hh_hI 1 i ∧ k < 13 then v (hh_hI 0 i) k else v j k := by
  have ne : hh_hI 0 i ≠ hh_hI 1 i := by unfold hh_hI; omega
  unfold hf_X1_copyFrom
  simp only [hh_let, hh_upj ne]
  by_cases e : j = hh_hI 1 i
  · subst e
    by_cases hk : k < 13
    · rw [if_pos ⟨rfl, hk⟩]
      rcases (show k = 0 ∨ k = 1 ∨ k = 2 ∨ k = 3 ∨ k = 4 ∨ k = 5 ∨ k = 6 ∨ k = 7 ∨ k = 8 ∨ k = 9 ∨ k = 10 ∨ k = 11 ∨ k = 12 by omega) with rfl | rfl | rfl | rfl | rfl | rfl | rfl | rfl | rfl | rfl | rfl | rfl | rfl <;> simp [hh_up]
    · rw [if_neg (fun z => hk z.2)]
      simp only [hh_upx (show k ≠ 0 by omega), hh_upx (show k ≠ 1 by omega), hh_upx (show k ≠ 2 by omega), hh_upx (show k ≠ 3 by omega), hh_upx (show k ≠ 4 by omega), hh_upx (show k ≠ 5 by omega), hh_upx (show k ≠ 6 by omega), hh_upx (show k ≠ 7 by omega), hh_upx (show k ≠ 8 by omega), hh_upx (show k ≠ 9 by omega), hh_upx (show k ≠ 10 by omega), hh_upx (show k ≠ 11 by omega), hh_upx (show k ≠ 12 by omega)]
  · rw [if_neg (fun z => e z.1)]
    simp only [hh_upj e]
theorem hq_e2 {v : hh_M} {i g : Nat} (hi : i < 24) (hg : g < 2) (j k : Nat) : hf_X2_copyFrom v 1 i g 0 i g j k = if j = hh_gI 1 i g ∧ k < 6 then v (hh_gI 0 i g) k else v j k := by
  have ne : hh_gI 0 i g ≠ hh_gI 1 i g := by unfold hh_gI; omega
  unfold hf_X2_copyFrom
  simp only [hh_let, hh_upj ne]
  by_cases e : j = hh_gI 1 i g
  · subst e
    by_cases hk : k < 6
    · rw [if_pos ⟨rfl, hk⟩]
      rcases (show k = 0 ∨ k = 1 ∨ k = 2 ∨ k = 3 ∨ k = 4 ∨ k = 5 by omega) with rfl | rfl | rfl | rfl | rfl | rfl <;> simp [hh_up]
    · rw [if_neg (fun z => hk z.2)]
      simp only [hh_upx (show k ≠ 0 by omega), hh_upx (show k ≠ 1 by omega), hh_upx (show k ≠ 2 by omega), hh_upx (show k ≠ 3 by omega), hh_upx (show k ≠ 4 by omega), hh_upx (show k ≠ 5 by omega)]
  · rw [if_neg (fun z => e z.1)]
    simp only [hh_upj e]
theorem hq_X1 {Z : Nat → Nat → Prop} {v w : hh_M} {i : Nat} (h : hh_F Z v w) (hs : ∀ k, k < 13 → ¬ Z (hh_hI 0 i) k) : hh_F (fun j k => Z j k ∧ ¬(j = hh_hI 1 i ∧ k < 13)) (hf_X1_copyFrom v 1 i 0 i) (hf_X1_copyFrom w 1 i 0 i) := by
  intro j k hjk
  rw [hq_e1, hq_e1]
  by_cases e : j = hh_hI 1 i ∧ k < 13
  · rw [if_pos e, if_pos e]; exact h _ _ (hs k e.2)
  · rw [if_neg e, if_neg e]; exact h _ _ (fun z => hjk ⟨z, e⟩)
theorem hq_X2 {Z : Nat → Nat → Prop} {v w : hh_M} {i g : Nat} (hi : i < 24) (hg : g < 2) (h : hh_F Z v w) (hs : ∀ k, k < 6 → ¬ Z (hh_gI 0 i g) k) : hh_F (fun j k => Z j k ∧ ¬(j = hh_gI 1 i g ∧ k < 6)) (hf_X2_copyFrom v 1 i g 0 i g) (hf_X2_copyFrom w 1 i g 0 i g) := by
  intro j k hjk
  rw [hq_e2 hi hg, hq_e2 hi hg]
  by_cases e : j = hh_gI 1 i g ∧ k < 6
  · rw [if_pos e, if_pos e]; exact h _ _ (hs k e.2)
  · rw [if_neg e, if_neg e]; exact h _ _ (fun z => hjk ⟨z, e⟩)
theorem hq_X0 {Z : Nat → Nat → Prop} {v w : hh_M} {i : Nat} (hi : i < 24) (h : hh_F Z v w) (hg : ∀ g k, g < 2 → k < 6 → ¬ Z (hh_gI 0 i g) k) (hc : ∀ k, k < 7 → ¬ Z (hh_cI 0 i) k) : hh_F (fun j k => Z j k ∧ ¬((j = hh_gI 1 i 0 ∨ j = hh_gI 1 i 1) ∧ k < 6) ∧ ¬(j = hh_cI 1 i ∧ 2 ≤ k ∧ k < 7)) (hf_X0_copyFrom v 1 i 0 i) (hf_X0_copyFrom w 1 i 0 i) := by
  have n1 : ∀ k, k < 6 → ¬ Z (hh_gI 0 i 0) k := fun k hk => hg 0 k (by decide) hk
  have n2 : ∀ k, k < 6 → ¬ Z (hh_gI 0 i 1) k := fun k hk => hg 1 k (by decide) hk
  have h1 := hq_X2 hi (by decide : 0 < 2) h n1
  have h2 := hq_X2 hi (by decide : 1 < 2) h1 (fun k hk z => n2 k hk z.1)
  unfold hf_X0_copyFrom
  simp only [hh_let]
  have ne : hh_cI 0 i ≠ hh_cI 1 i := by unfold hh_cI; omega
  simp only [hh_upj ne]
  generalize hf_X2_copyFrom (hf_X2_copyFrom v 1 i 0 0 i 0) 1 i 1 0 i 1 = v2 at h2 ⊢
  generalize hf_X2_copyFrom (hf_X2_copyFrom w 1 i 0 0 i 0) 1 i 1 0 i 1 = w2 at h2 ⊢
  have c0 : ∀ k, k < 7 → w2 (hh_cI 0 i) k = v2 (hh_cI 0 i) k := fun k hk => h2 _ _ (fun z => hc k hk z.1.1)
  refine (hq_cut (hq_cut (hq_cut (hq_cut (hq_cut h2 (c0 2 (by decide))) (c0 3 (by decide))) (c0 4 (by decide))) (c0 5 (by decide))) (c0 6 (by decide))).mo (fun j k z => ?_)
  obtain ⟨⟨⟨⟨⟨⟨⟨z0, z1⟩, z2⟩, z3⟩, z4⟩, z5⟩, z6⟩, z7⟩ := z
  refine ⟨z0, fun q => ?_, fun q => ?_⟩
  · rcases q.1 with e | e
    · exact z1 ⟨e, q.2⟩
    · exact z2 ⟨e, q.2⟩
  · rcases (show k = 2 ∨ k = 3 ∨ k = 4 ∨ k = 5 ∨ k = 6 by omega) with e | e | e | e | e
    · exact z3 ⟨q.1, e⟩
    · exact z4 ⟨q.1, e⟩
    · exact z5 ⟨q.1, e⟩
    · exact z6 ⟨q.1, e⟩
    · exact z7 ⟨q.1, e⟩
