/-! FRAMES of the functions, printed by wip/gen/unary.py: nothing below road r's own cells is written -/
def hh_L (r : Nat) (v w : hh_M) : Prop := ∀ j, j < 20 + 85 * r → w j = v j
theorem hh_L_rf {r : Nat} {v : hh_M} : hh_L r v v := fun _ _ => rfl
theorem hh_L_up {r : Nat} {v w : hh_M} {j k : Nat} {x : Int32} (h : hh_L r v w) (hj : 20 + 85 * r ≤ j) : hh_L r v (hh_up w j k x) := fun i hi => (hh_up_ne (by omega)).trans (h i hi)
theorem hh_L.tr {r : Nat} {u v w : hh_M} (h : hh_L r u v) (h2 : hh_L r v w) : hh_L r u w := fun i hi => (h2 i hi).trans (h i hi)
theorem hh_let_u {α β : Type} {P : β → Prop} {a : α} {f : α → β} (k : ∀ q, P (f q)) : P (hh_let a f) := k a
theorem hh_let_uL {β : Type} {P : β → Prop} {r : Nat} {v a : hh_M} {f : hh_M → β} (h : hh_L r v a) (k : ∀ q, hh_L r v q → P (f q)) : P (hh_let a f) := k a h
theorem hh_L_fld {r n : Nat} {f : Nat → hh_M → hh_M} {v s : hh_M} (h0 : hh_L r v s) (h : ∀ i w, hh_L r w (f i w)) : hh_L r v (hh_fld f n s) := by
  induction n with
  | zero => exact h0
  | succ n ih => exact ih.tr (h n _)
section HHLC
variable {r i g : Nat}
theorem hh_Lr : 20 + 85 * r ≤ hh_rI r := by unfold hh_rI; omega
theorem hh_Ll : 20 + 85 * r ≤ hh_lI r := by unfold hh_lI; omega
theorem hh_Lk : 20 + 85 * r ≤ hh_kI r := by unfold hh_kI; omega
theorem hh_Lh : 20 + 85 * r ≤ hh_hI r i := by unfold hh_hI; omega
theorem hh_Lc : 20 + 85 * r ≤ hh_cI r i := by unfold hh_cI; omega
theorem hh_Lg : 20 + 85 * r ≤ hh_gI r i g := by unfold hh_gI; omega
end HHLC
theorem hu_X1_move {v : hh_M} (r : Nat) (i : Nat) : hh_L r v (hf_X1_move v r i) := by
  unfold hf_X1_move
  refine hh_let_uL (P := (fun x => hh_L r v x)) (hh_L_up hh_L_rf (by first | exact hh_Lr | exact hh_Ll | exact hh_Lk | exact hh_Lh | exact hh_Lc | exact hh_Lg)) (fun _ h_v_10 => ?_)
  refine iteInduction (motive := (fun x => hh_L r v x)) (fun _ => ?_) (fun _ => ?_)
  · refine iteInduction (motive := (fun x => hh_L r v x)) (fun _ => ?_) (fun _ => ?_)
    · exact h_v_10
    · refine hh_let_uL (P := (fun x => hh_L r v x)) (hh_L_up h_v_10 (by first | exact hh_Lr | exact hh_Ll | exact hh_Lk | exact hh_Lh | exact hh_Lc | exact hh_Lg)) (fun _ h_v_59 => ?_)
      refine hh_let_uL (P := (fun x => hh_L r v x)) (hh_L_up h_v_59 (by first | exact hh_Lr | exact hh_Ll | exact hh_Lk | exact hh_Lh | exact hh_Lc | exact hh_Lg)) (fun _ h_v_68 => ?_)
      exact h_v_68
  · refine hh_let_uL (P := (fun x => hh_L r v x)) (hh_L_up h_v_10 (by first | exact hh_Lr | exact hh_Ll | exact hh_Lk | exact hh_Lh | exact hh_Lc | exact hh_Lg)) (fun _ h_v_26 => ?_)
    refine hh_let_uL (P := (fun x => hh_L r v x)) (hh_L_up h_v_26 (by first | exact hh_Lr | exact hh_Ll | exact hh_Lk | exact hh_Lh | exact hh_Lc | exact hh_Lg)) (fun _ h_v_35 => ?_)
    exact h_v_35
theorem hu_X1_tell {v : hh_M} (r : Nat) (i : Nat) (area : Int32) (now : Int32) : hh_L r v (hf_X1_tell v r i area now) := by
  unfold hf_X1_tell
  refine hh_let_uL (P := (fun x => hh_L r v x)) (hh_L_up hh_L_rf (by first | exact hh_Lr | exact hh_Ll | exact hh_Lk | exact hh_Lh | exact hh_Lc | exact hh_Lg)) (fun _ h_v_2 => ?_)
  refine hh_let_uL (P := (fun x => hh_L r v x)) (hh_L_up h_v_2 (by first | exact hh_Lr | exact hh_Ll | exact hh_Lk | exact hh_Lh | exact hh_Lc | exact hh_Lg)) (fun _ h_v_7 => ?_)
  refine hh_let_uL (P := (fun x => hh_L r v x)) (hh_L_up h_v_7 (by first | exact hh_Lr | exact hh_Ll | exact hh_Lk | exact hh_Lh | exact hh_Lc | exact hh_Lg)) (fun _ h_v_12 => ?_)
  refine hh_let_uL (P := (fun x => hh_L r v x)) (hh_L_up h_v_12 (by first | exact hh_Lr | exact hh_Ll | exact hh_Lk | exact hh_Lh | exact hh_Lc | exact hh_Lg)) (fun _ h_v_22 => ?_)
  exact h_v_22
theorem hu_X1_copyFrom {v : hh_M} (r : Nat) (i : Nat) (r2 : Nat) (i2 : Nat) : hh_L r v (hf_X1_copyFrom v r i r2 i2) := by
  unfold hf_X1_copyFrom
  refine hh_let_uL (P := (fun x => hh_L r v x)) (hh_L_up hh_L_rf (by first | exact hh_Lr | exact hh_Ll | exact hh_Lk | exact hh_Lh | exact hh_Lc | exact hh_Lg)) (fun _ h_v_5 => ?_)
  refine hh_let_uL (P := (fun x => hh_L r v x)) (hh_L_up h_v_5 (by first | exact hh_Lr | exact hh_Ll | exact hh_Lk | exact hh_Lh | exact hh_Lc | exact hh_Lg)) (fun _ h_v_13 => ?_)
  refine hh_let_uL (P := (fun x => hh_L r v x)) (hh_L_up h_v_13 (by first | exact hh_Lr | exact hh_Ll | exact hh_Lk | exact hh_Lh | exact hh_Lc | exact hh_Lg)) (fun _ h_v_21 => ?_)
  refine hh_let_uL (P := (fun x => hh_L r v x)) (hh_L_up h_v_21 (by first | exact hh_Lr | exact hh_Ll | exact hh_Lk | exact hh_Lh | exact hh_Lc | exact hh_Lg)) (fun _ h_v_29 => ?_)
  refine hh_let_uL (P := (fun x => hh_L r v x)) (hh_L_up h_v_29 (by first | exact hh_Lr | exact hh_Ll | exact hh_Lk | exact hh_Lh | exact hh_Lc | exact hh_Lg)) (fun _ h_v_37 => ?_)
  refine hh_let_uL (P := (fun x => hh_L r v x)) (hh_L_up h_v_37 (by first | exact hh_Lr | exact hh_Ll | exact hh_Lk | exact hh_Lh | exact hh_Lc | exact hh_Lg)) (fun _ h_v_45 => ?_)
  refine hh_let_uL (P := (fun x => hh_L r v x)) (hh_L_up h_v_45 (by first | exact hh_Lr | exact hh_Ll | exact hh_Lk | exact hh_Lh | exact hh_Lc | exact hh_Lg)) (fun _ h_v_53 => ?_)
  refine hh_let_uL (P := (fun x => hh_L r v x)) (hh_L_up h_v_53 (by first | exact hh_Lr | exact hh_Ll | exact hh_Lk | exact hh_Lh | exact hh_Lc | exact hh_Lg)) (fun _ h_v_61 => ?_)
  refine hh_let_uL (P := (fun x => hh_L r v x)) (hh_L_up h_v_61 (by first | exact hh_Lr | exact hh_Ll | exact hh_Lk | exact hh_Lh | exact hh_Lc | exact hh_Lg)) (fun _ h_v_69 => ?_)
  refine hh_let_uL (P := (fun x => hh_L r v x)) (hh_L_up h_v_69 (by first | exact hh_Lr | exact hh_Ll | exact hh_Lk | exact hh_Lh | exact hh_Lc | exact hh_Lg)) (fun _ h_v_77 => ?_)
  refine hh_let_uL (P := (fun x => hh_L r v x)) (hh_L_up h_v_77 (by first | exact hh_Lr | exact hh_Ll | exact hh_Lk | exact hh_Lh | exact hh_Lc | exact hh_Lg)) (fun _ h_v_85 => ?_)
  refine hh_let_uL (P := (fun x => hh_L r v x)) (hh_L_up h_v_85 (by first | exact hh_Lr | exact hh_Ll | exact hh_Lk | exact hh_Lh | exact hh_Lc | exact hh_Lg)) (fun _ h_v_93 => ?_)
  refine hh_let_uL (P := (fun x => hh_L r v x)) (hh_L_up h_v_93 (by first | exact hh_Lr | exact hh_Ll | exact hh_Lk | exact hh_Lh | exact hh_Lc | exact hh_Lg)) (fun _ h_v_101 => ?_)
  exact h_v_101
theorem hu_X5_chooseMast {v : hh_M} (r : Nat) (i : Nat) : hh_L r v (hf_X5_chooseMast v r i) := by
  unfold hf_X5_chooseMast
  refine hh_let_u (P := (fun x => hh_L r v x)) (fun _ => ?_)
  refine iteInduction (motive := (fun x => hh_L r v x)) (fun _ => ?_) (fun _ => ?_)
  · refine hh_let_uL (P := (fun x => hh_L r v x)) (hh_L_up hh_L_rf (by first | exact hh_Lr | exact hh_Ll | exact hh_Lk | exact hh_Lh | exact hh_Lc | exact hh_Lg)) (fun _ h_v_24 => ?_)
    exact h_v_24
  · refine iteInduction (motive := (fun x => hh_L r v x)) (fun _ => ?_) (fun _ => ?_)
    · refine hh_let_uL (P := (fun x => hh_L r v x)) (hh_L_up hh_L_rf (by first | exact hh_Lr | exact hh_Ll | exact hh_Lk | exact hh_Lh | exact hh_Lc | exact hh_Lg)) (fun _ h_v_24 => ?_)
      exact h_v_24
    · refine hh_let_u (P := (fun x => hh_L r v x)) (fun _ => ?_)
      refine iteInduction (motive := (fun x => hh_L r v x)) (fun _ => ?_) (fun _ => ?_)
      · refine hh_let_uL (P := (fun x => hh_L r v x)) (hh_L_up hh_L_rf (by first | exact hh_Lr | exact hh_Ll | exact hh_Lk | exact hh_Lh | exact hh_Lc | exact hh_Lg)) (fun _ h_v_75 => ?_)
        exact h_v_75
      · refine hh_let_u (P := (fun x => hh_L r v x)) (fun _ => ?_)
        refine iteInduction (motive := (fun x => hh_L r v x)) (fun _ => ?_) (fun _ => ?_)
        · refine hh_let_uL (P := (fun x => hh_L r v x)) (hh_L_up hh_L_rf (by first | exact hh_Lr | exact hh_Ll | exact hh_Lk | exact hh_Lh | exact hh_Lc | exact hh_Lg)) (fun _ h_v_75 => ?_)
          exact h_v_75
        · exact hh_L_rf
theorem hu_X5_tellArea {v : hh_M} (r : Nat) (i : Nat) : hh_L r v (hf_X5_tellArea v r i) := by
  unfold hf_X5_tellArea
  refine iteInduction (motive := (fun x => hh_L r v x)) (fun _ => ?_) (fun _ => ?_)
  · exact hh_L_rf
  · refine hh_let_u (P := (fun x => hh_L r v x)) (fun _ => ?_)
    refine iteInduction (motive := (fun x => hh_L r v x)) (fun _ => ?_) (fun _ => ?_)
    · refine iteInduction (motive := (fun x => hh_L r v x)) (fun _ => ?_) (fun _ => ?_)
      · exact hh_L_rf
      · refine hh_let_uL (P := (fun x => hh_L r v x)) (hh_L.tr hh_L_rf (hu_X1_tell _ _ _ _)) (fun _ h_v_53 => ?_)
        exact h_v_53
    · refine hh_let_uL (P := (fun x => hh_L r v x)) (hh_L.tr hh_L_rf (hu_X1_tell _ _ _ _)) (fun _ h_v_53 => ?_)
      exact h_v_53
theorem hu_X5_release {v : hh_M} (r : Nat) (i : Nat) (g : Nat) : hh_L r v (hf_X5_release v r i g) := by
  unfold hf_X5_release
  refine hh_let_uL (P := (fun x => hh_L r v x)) (hh_L_up hh_L_rf (by first | exact hh_Lr | exact hh_Ll | exact hh_Lk | exact hh_Lh | exact hh_Lc | exact hh_Lg)) (fun _ h_v_12 => ?_)
  refine hh_let_uL (P := (fun x => hh_L r v x)) (hh_L_up h_v_12 (by first | exact hh_Lr | exact hh_Ll | exact hh_Lk | exact hh_Lh | exact hh_Lc | exact hh_Lg)) (fun _ h_v_23 => ?_)
  exact h_v_23
theorem hu_X5_end {v : hh_M} (r : Nat) (i : Nat) (how : Int32) : hh_L r v (hf_X5_end v r i how) := by
  unfold hf_X5_end
  refine hh_let_uL (P := (fun x => hh_L r v x)) (hh_L_up hh_L_rf (by first | exact hh_Lr | exact hh_Ll | exact hh_Lk | exact hh_Lh | exact hh_Lc | exact hh_Lg)) (fun _ h_v_2 => ?_)
  refine hh_let_u (P := (fun x => hh_L r v x)) (fun _ => ?_)
  refine iteInduction (motive := (fun x => hh_L r v x)) (fun _ => ?_) (fun _ => ?_)
  · refine hh_let_u (P := (fun x => hh_L r v x)) (fun _ => ?_)
    refine iteInduction (motive := (fun x => hh_L r v x)) (fun _ => ?_) (fun _ => ?_)
    · exact h_v_2
    · refine hh_let_uL (P := (fun x => hh_L r v x)) (hh_L.tr h_v_2 (hu_X5_release _ _ _)) (fun _ h_v_38 => ?_)
      exact h_v_38
  · refine hh_let_uL (P := (fun x => hh_L r v x)) (hh_L.tr h_v_2 (hu_X5_release _ _ _)) (fun _ h_v_20 => ?_)
    refine hh_let_u (P := (fun x => hh_L r v x)) (fun _ => ?_)
    refine iteInduction (motive := (fun x => hh_L r v x)) (fun _ => ?_) (fun _ => ?_)
    · exact h_v_20
    · refine hh_let_uL (P := (fun x => hh_L r v x)) (hh_L.tr h_v_20 (hu_X5_release _ _ _)) (fun _ h_v_38 => ?_)
      exact h_v_38
theorem hu_X5_carry {v : hh_M} (r : Nat) (i : Nat) (g : Nat) : hh_L r v (hf_X5_carry v r i g) := by
  unfold hf_X5_carry
  refine hh_let_u (P := (fun x => hh_L r v x)) (fun _ => ?_)
  refine iteInduction (motive := (fun x => hh_L r v x)) (fun _ => ?_) (fun _ => ?_)
  · exact hh_L_rf
  · refine hh_let_uL (P := (fun x => hh_L r v x)) (hh_L_up hh_L_rf (by first | exact hh_Lr | exact hh_Ll | exact hh_Lk | exact hh_Lh | exact hh_Lc | exact hh_Lg)) (fun _ h_v_19 => ?_)
    exact h_v_19
theorem hu_X5_charge {v : hh_M} (r : Nat) (i : Nat) : hh_L r v (hf_X5_charge v r i) := by
  unfold hf_X5_charge
  refine iteInduction (motive := (fun x => hh_L r v x)) (fun _ => ?_) (fun _ => ?_)
  · refine hh_let_u (P := (fun x => hh_L r v x)) (fun _ => ?_)
    refine iteInduction (motive := (fun x => hh_L r v x)) (fun _ => ?_) (fun _ => ?_)
    · exact hh_L_rf
    · refine hh_let_u (P := (fun x => hh_L r v x)) (fun _ => ?_)
      refine iteInduction (motive := (fun x => hh_L r v x)) (fun _ => ?_) (fun _ => ?_)
      · refine hh_let_uL (P := (fun x => hh_L r v x)) (hh_L_up hh_L_rf (by first | exact hh_Lr | exact hh_Ll | exact hh_Lk | exact hh_Lh | exact hh_Lc | exact hh_Lg)) (fun _ h_v_60 => ?_)
        refine hh_let_uL (P := (fun x => hh_L r v x)) (hh_L_up h_v_60 (by first | exact hh_Lr | exact hh_Ll | exact hh_Lk | exact hh_Lh | exact hh_Lc | exact hh_Lg)) (fun _ h_v_70 => ?_)
        refine hh_let_uL (P := (fun x => hh_L r v x)) (hh_L_up h_v_70 (by first | exact hh_Lr | exact hh_Ll | exact hh_Lk | exact hh_Lh | exact hh_Lc | exact hh_Lg)) (fun _ h_v_80 => ?_)
        refine hh_let_uL (P := (fun x => hh_L r v x)) (hh_L.tr h_v_80 (hu_X5_carry _ _ _)) (fun _ h_v_88 => ?_)
        refine hh_let_uL (P := (fun x => hh_L r v x)) (hh_L.tr h_v_88 (hu_X5_carry _ _ _)) (fun _ h_v_96 => ?_)
        exact h_v_96
      · refine hh_let_uL (P := (fun x => hh_L r v x)) (hh_L.tr hh_L_rf (hu_X5_end _ _ _)) (fun _ h_v_49 => ?_)
        exact h_v_49
  · exact hh_L_rf
theorem hu_X5_deliverTexts {v : hh_M} (r : Nat) (i : Nat) : hh_L r v (hf_X5_deliverTexts v r i) := by
  unfold hf_X5_deliverTexts
  refine iteInduction (motive := (fun x => hh_L r v x)) (fun _ => ?_) (fun _ => ?_)
  · exact hh_L_rf
  · refine hh_let_uL (P := (fun x => hh_L r v x)) (hh_L_up hh_L_rf (by first | exact hh_Lr | exact hh_Ll | exact hh_Lk | exact hh_Lh | exact hh_Lc | exact hh_Lg)) (fun _ h_v_18 => ?_)
    refine hh_let_uL (P := (fun x => hh_L r v x)) (hh_L_up h_v_18 (by first | exact hh_Lr | exact hh_Ll | exact hh_Lk | exact hh_Lh | exact hh_Lc | exact hh_Lg)) (fun _ h_v_23 => ?_)
    exact h_v_23
theorem hu_X5_handOver {v : hh_M} (r : Nat) (i : Nat) (g : Nat) (mast : Int32) : hh_L r v (hf_X5_handOver v r i g mast) := by
  unfold hf_X5_handOver
  refine hh_let_uL (P := (fun x => hh_L r v x)) (hh_L_up hh_L_rf (by first | exact hh_Lr | exact hh_Ll | exact hh_Lk | exact hh_Lh | exact hh_Lc | exact hh_Lg)) (fun _ h_v_7 => ?_)
  refine hh_let_uL (P := (fun x => hh_L r v x)) (r := r) (v := v) ?_ (fun _ h_vj_41 => ?_)
  · refine iteInduction (motive := (fun x => hh_L r v x)) (fun _ => ?_) (fun _ => ?_)
    · refine iteInduction (motive := (fun x => hh_L r v x)) (fun _ => ?_) (fun _ => ?_)
      · exact h_v_7
      · refine hh_let_uL (P := (fun x => hh_L r v x)) (hh_L_up h_v_7 (by first | exact hh_Lr | exact hh_Ll | exact hh_Lk | exact hh_Lh | exact hh_Lc | exact hh_Lg)) (fun _ h_v_38 => ?_)
        exact h_v_38
    · exact h_v_7
  · refine hh_let_uL (P := (fun x => hh_L r v x)) (hh_L_up h_vj_41 (by first | exact hh_Lr | exact hh_Ll | exact hh_Lk | exact hh_Lh | exact hh_Lc | exact hh_Lg)) (fun _ h_v_46 => ?_)
    refine hh_let_uL (P := (fun x => hh_L r v x)) (hh_L_up h_v_46 (by first | exact hh_Lr | exact hh_Ll | exact hh_Lk | exact hh_Lh | exact hh_Lc | exact hh_Lg)) (fun _ h_v_54 => ?_)
    refine hh_let_uL (P := (fun x => hh_L r v x)) (hh_L_up h_v_54 (by first | exact hh_Lr | exact hh_Ll | exact hh_Lk | exact hh_Lh | exact hh_Lc | exact hh_Lg)) (fun _ h_v_59 => ?_)
    refine hh_let_uL (P := (fun x => hh_L r v x)) (hh_L_up h_v_59 (by first | exact hh_Lr | exact hh_Ll | exact hh_Lk | exact hh_Lh | exact hh_Lc | exact hh_Lg)) (fun _ h_v_74 => ?_)
    refine hh_let_uL (P := (fun x => hh_L r v x)) (hh_L_up h_v_74 (by first | exact hh_Lr | exact hh_Ll | exact hh_Lk | exact hh_Lh | exact hh_Lc | exact hh_Lg)) (fun _ h_v_84 => ?_)
    refine hh_let_uL (P := (fun x => hh_L r v x)) (hh_L_up h_v_84 (by first | exact hh_Lr | exact hh_Ll | exact hh_Lk | exact hh_Lh | exact hh_Lc | exact hh_Lg)) (fun _ h_v_87 => ?_)
    refine hh_let_uL (P := (fun x => hh_L r v x)) (hh_L_up h_v_87 (by first | exact hh_Lr | exact hh_Ll | exact hh_Lk | exact hh_Lh | exact hh_Lc | exact hh_Lg)) (fun _ h_v_100 => ?_)
    exact h_v_100
theorem hu_X5_lookAtLeg {v : hh_M} (r : Nat) (i : Nat) (g : Nat) : hh_L r v (hf_X5_lookAtLeg v r i g) := by
  unfold hf_X5_lookAtLeg
  refine iteInduction (motive := (fun x => hh_L r v x)) (fun _ => ?_) (fun _ => ?_)
  · refine hh_let_u (P := (fun x => hh_L r v x)) (fun _ => ?_)
    refine iteInduction (motive := (fun x => hh_L r v x)) (fun _ => ?_) (fun _ => ?_)
    · exact hh_L_rf
    · refine hh_let_u (P := (fun x => hh_L r v x)) (fun _ => ?_)
      refine hh_let_u (P := (fun x => hh_L r v x)) (fun _ => ?_)
      refine hh_let_u (P := (fun x => hh_L r v x)) (fun _ => ?_)
      refine hh_let_u (P := (fun x => hh_L r v x)) (fun _ => ?_)
      refine hh_let_u (P := (fun x => hh_L r v x)) (fun _ => ?_)
      refine hh_let_uL (P := (fun x => hh_L r v x)) (hh_L_up hh_L_rf (by first | exact hh_Lr | exact hh_Ll | exact hh_Lk | exact hh_Lh | exact hh_Lc | exact hh_Lg)) (fun _ h_v_75 => ?_)
      refine hh_let_u (P := (fun x => hh_L r v x)) (fun _ => ?_)
      refine hh_let_uL (P := (fun x => hh_L r v x)) (r := r) (v := v) ?_ (fun _ h_vj_151 => ?_)
      · refine iteInduction (motive := (fun x => hh_L r v x)) (fun _ => ?_) (fun _ => ?_)
        · refine iteInduction (motive := (fun x => hh_L r v x)) (fun _ => ?_) (fun _ => ?_)
          · refine hh_let_uL (P := (fun x => hh_L r v x)) (hh_L_up h_v_75 (by first | exact hh_Lr | exact hh_Ll | exact hh_Lk | exact hh_Lh | exact hh_Lc | exact hh_Lg)) (fun _ h_v_148 => ?_)
            exact h_v_148
          · exact h_v_75
        · refine iteInduction (motive := (fun x => hh_L r v x)) (fun _ => ?_) (fun _ => ?_)
          · refine hh_let_uL (P := (fun x => hh_L r v x)) (hh_L.tr h_v_75 (hu_X5_handOver _ _ _ _)) (fun _ h_v_130 => ?_)
            exact h_v_130
          · refine iteInduction (motive := (fun x => hh_L r v x)) (fun _ => ?_) (fun _ => ?_)
            · refine iteInduction (motive := (fun x => hh_L r v x)) (fun _ => ?_) (fun _ => ?_)
              · refine hh_let_uL (P := (fun x => hh_L r v x)) (hh_L_up h_v_75 (by first | exact hh_Lr | exact hh_Ll | exact hh_Lk | exact hh_Lh | exact hh_Lc | exact hh_Lg)) (fun _ h_v_148 => ?_)
                exact h_v_148
              · exact h_v_75
            · refine hh_let_uL (P := (fun x => hh_L r v x)) (hh_L.tr h_v_75 (hu_X5_handOver _ _ _ _)) (fun _ h_v_130 => ?_)
              exact h_v_130
      · refine hh_let_u (P := (fun x => hh_L r v x)) (fun _ => ?_)
        refine hh_let_uL (P := (fun x => hh_L r v x)) (r := r) (v := v) ?_ (fun _ h_vj_168 => ?_)
        · refine iteInduction (motive := (fun x => hh_L r v x)) (fun _ => ?_) (fun _ => ?_)
          · exact h_vj_151
          · refine hh_let_uL (P := (fun x => hh_L r v x)) (hh_L_up h_vj_151 (by first | exact hh_Lr | exact hh_Ll | exact hh_Lk | exact hh_Lh | exact hh_Lc | exact hh_Lg)) (fun _ h_v_165 => ?_)
            exact h_v_165
        · refine iteInduction (motive := (fun x => hh_L r v x)) (fun _ => ?_) (fun _ => ?_)
          · exact h_vj_168
          · refine hh_let_uL (P := (fun x => hh_L r v x)) (hh_L.tr h_vj_168 (hu_X5_end _ _ _)) (fun _ h_v_179 => ?_)
            exact h_v_179
  · exact hh_L_rf
theorem hul_X5_second_12 {v : hh_M} (r : Nat) (i : Nat) : hh_L r v (hl_X5_second_12 r i v) := by
  unfold hl_X5_second_12
  refine hh_let_uL (P := (fun x => hh_L r v x)) (hh_L.tr hh_L_rf (hu_X1_move _ _)) (fun _ h_v_26 => ?_)
  exact h_v_26
theorem hul_X5_second_37 {v : hh_M} (r : Nat) (i : Nat) : hh_L r v (hl_X5_second_37 r i v) := by
  unfold hl_X5_second_37
  refine hh_let_u (P := (fun x => hh_L r v x)) (fun _ => ?_)
  refine iteInduction (motive := (fun x => hh_L r v x)) (fun _ => ?_) (fun _ => ?_)
  · exact hh_L_rf
  · refine hh_let_uL (P := (fun x => hh_L r v x)) (hh_L.tr hh_L_rf (hu_X5_chooseMast _ _)) (fun _ h_v_64 => ?_)
    refine hh_let_uL (P := (fun x => hh_L r v x)) (hh_L.tr h_v_64 (hu_X5_tellArea _ _)) (fun _ h_v_74 => ?_)
    exact h_v_74
theorem hul_X5_second_85 {v : hh_M} (r : Nat) (i : Nat) : hh_L r v (hl_X5_second_85 r i v) := by
  unfold hl_X5_second_85
  refine hh_let_uL (P := (fun x => hh_L r v x)) (hh_L.tr hh_L_rf (hu_X5_lookAtLeg _ _ _)) (fun _ h_v_109 => ?_)
  refine hh_let_uL (P := (fun x => hh_L r v x)) (hh_L.tr h_v_109 (hu_X5_lookAtLeg _ _ _)) (fun _ h_v_128 => ?_)
  exact h_v_128
theorem hul_X5_second_139 {v : hh_M} (r : Nat) (i : Nat) : hh_L r v (hl_X5_second_139 r i v) := by
  unfold hl_X5_second_139
  refine hh_let_uL (P := (fun x => hh_L r v x)) (hh_L.tr hh_L_rf (hu_X5_charge _ _)) (fun _ h_v_154 => ?_)
  exact h_v_154
theorem hul_X5_second_165 {v : hh_M} (r : Nat) (i : Nat) : hh_L r v (hl_X5_second_165 r i v) := by
  unfold hl_X5_second_165
  refine hh_let_uL (P := (fun x => hh_L r v x)) (hh_L.tr hh_L_rf (hu_X5_deliverTexts _ _)) (fun _ h_v_180 => ?_)
  exact h_v_180
theorem hu_X5_second {v : hh_M} (r : Nat) : hh_L r v (hf_X5_second v r) := by
  unfold hf_X5_second
  refine hh_let_uL (P := (fun x => hh_L r v x)) (hh_L_up hh_L_rf (by first | exact hh_Lr | exact hh_Ll | exact hh_Lk | exact hh_Lh | exact hh_Lc | exact hh_Lg)) (fun _ h_v_7 => ?_)
  refine hh_let_uL (P := (fun x => hh_L r v x)) (hh_L_fld h_v_7 (fun i w => hul_X5_second_12 _ i)) (fun _ h_w_12 => ?_)
  refine hh_let_uL (P := (fun x => hh_L r v x)) (hh_L_fld h_w_12 (fun i w => hul_X5_second_37 _ i)) (fun _ h_w_37 => ?_)
  refine hh_let_uL (P := (fun x => hh_L r v x)) (hh_L_fld h_w_37 (fun i w => hul_X5_second_85 _ i)) (fun _ h_w_85 => ?_)
  refine hh_let_uL (P := (fun x => hh_L r v x)) (hh_L_fld h_w_85 (fun i w => hul_X5_second_139 _ i)) (fun _ h_w_139 => ?_)
  refine hh_let_uL (P := (fun x => hh_L r v x)) (hh_L_fld h_w_139 (fun i w => hul_X5_second_165 _ i)) (fun _ h_w_165 => ?_)
  exact h_w_165
theorem hu_X2_copyFrom {v : hh_M} (r : Nat) (i : Nat) (g : Nat) (r2 : Nat) (i2 : Nat) (g2 : Nat) : hh_L r v (hf_X2_copyFrom v r i g r2 i2 g2) := by
  unfold hf_X2_copyFrom
  refine hh_let_uL (P := (fun x => hh_L r v x)) (hh_L_up hh_L_rf (by first | exact hh_Lr | exact hh_Ll | exact hh_Lk | exact hh_Lh | exact hh_Lc | exact hh_Lg)) (fun _ h_v_5 => ?_)
  refine hh_let_uL (P := (fun x => hh_L r v x)) (hh_L_up h_v_5 (by first | exact hh_Lr | exact hh_Ll | exact hh_Lk | exact hh_Lh | exact hh_Lc | exact hh_Lg)) (fun _ h_v_13 => ?_)
  refine hh_let_uL (P := (fun x => hh_L r v x)) (hh_L_up h_v_13 (by first | exact hh_Lr | exact hh_Ll | exact hh_Lk | exact hh_Lh | exact hh_Lc | exact hh_Lg)) (fun _ h_v_21 => ?_)
  refine hh_let_uL (P := (fun x => hh_L r v x)) (hh_L_up h_v_21 (by first | exact hh_Lr | exact hh_Ll | exact hh_Lk | exact hh_Lh | exact hh_Lc | exact hh_Lg)) (fun _ h_v_29 => ?_)
  refine hh_let_uL (P := (fun x => hh_L r v x)) (hh_L_up h_v_29 (by first | exact hh_Lr | exact hh_Ll | exact hh_Lk | exact hh_Lh | exact hh_Lc | exact hh_Lg)) (fun _ h_v_37 => ?_)
  refine hh_let_uL (P := (fun x => hh_L r v x)) (hh_L_up h_v_37 (by first | exact hh_Lr | exact hh_Ll | exact hh_Lk | exact hh_Lh | exact hh_Lc | exact hh_Lg)) (fun _ h_v_45 => ?_)
  exact h_v_45
theorem hu_X0_copyFrom {v : hh_M} (r : Nat) (i : Nat) (r2 : Nat) (i2 : Nat) : hh_L r v (hf_X0_copyFrom v r i r2 i2) := by
  unfold hf_X0_copyFrom
  refine hh_let_uL (P := (fun x => hh_L r v x)) (hh_L.tr hh_L_rf (hu_X2_copyFrom _ _ _ _ _ _)) (fun _ h_v_8 => ?_)
  refine hh_let_uL (P := (fun x => hh_L r v x)) (hh_L.tr h_v_8 (hu_X2_copyFrom _ _ _ _ _ _)) (fun _ h_v_19 => ?_)
  refine hh_let_uL (P := (fun x => hh_L r v x)) (hh_L_up h_v_19 (by first | exact hh_Lr | exact hh_Ll | exact hh_Lk | exact hh_Lh | exact hh_Lc | exact hh_Lg)) (fun _ h_v_27 => ?_)
  refine hh_let_uL (P := (fun x => hh_L r v x)) (hh_L_up h_v_27 (by first | exact hh_Lr | exact hh_Ll | exact hh_Lk | exact hh_Lh | exact hh_Lc | exact hh_Lg)) (fun _ h_v_35 => ?_)
  refine hh_let_uL (P := (fun x => hh_L r v x)) (hh_L_up h_v_35 (by first | exact hh_Lr | exact hh_Ll | exact hh_Lk | exact hh_Lh | exact hh_Lc | exact hh_Lg)) (fun _ h_v_43 => ?_)
  refine hh_let_uL (P := (fun x => hh_L r v x)) (hh_L_up h_v_43 (by first | exact hh_Lr | exact hh_Ll | exact hh_Lk | exact hh_Lh | exact hh_Lc | exact hh_Lg)) (fun _ h_v_51 => ?_)
  refine hh_let_uL (P := (fun x => hh_L r v x)) (hh_L_up h_v_51 (by first | exact hh_Lr | exact hh_Ll | exact hh_Lk | exact hh_Lh | exact hh_Lc | exact hh_Lg)) (fun _ h_v_59 => ?_)
  exact h_v_59
theorem hul_X5_copyFrom_2 {v : hh_M} (r : Nat) (r2 : Nat) (i : Nat) : hh_L r v (hl_X5_copyFrom_2 r r2 i v) := by
  unfold hl_X5_copyFrom_2
  refine hh_let_uL (P := (fun x => hh_L r v x)) (hh_L_up hh_L_rf (by first | exact hh_Lr | exact hh_Ll | exact hh_Lk | exact hh_Lh | exact hh_Lc | exact hh_Lg)) (fun _ h_v_19 => ?_)
  refine hh_let_uL (P := (fun x => hh_L r v x)) (hh_L_up h_v_19 (by first | exact hh_Lr | exact hh_Ll | exact hh_Lk | exact hh_Lh | exact hh_Lc | exact hh_Lg)) (fun _ h_v_31 => ?_)
  exact h_v_31
theorem hul_X5_copyFrom_48 {v : hh_M} (r : Nat) (r2 : Nat) (i : Nat) : hh_L r v (hl_X5_copyFrom_48 r r2 i v) := by
  unfold hl_X5_copyFrom_48
  refine hh_let_uL (P := (fun x => hh_L r v x)) (hh_L.tr hh_L_rf (hu_X1_copyFrom _ _ _ _)) (fun _ h_v_68 => ?_)
  exact h_v_68
theorem hul_X5_copyFrom_87 {v : hh_M} (r : Nat) (r2 : Nat) (i : Nat) : hh_L r v (hl_X5_copyFrom_87 r r2 i v) := by
  unfold hl_X5_copyFrom_87
  refine hh_let_uL (P := (fun x => hh_L r v x)) (hh_L.tr hh_L_rf (hu_X0_copyFrom _ _ _ _)) (fun _ h_v_107 => ?_)
  exact h_v_107
theorem hu_X5_copyFrom {v : hh_M} (r : Nat) (r2 : Nat) : hh_L r v (hf_X5_copyFrom v r r2) := by
  unfold hf_X5_copyFrom
  refine hh_let_uL (P := (fun x => hh_L r v x)) (hh_L_fld hh_L_rf (fun i w => hul_X5_copyFrom_2 _ _ i)) (fun _ h_w_2 => ?_)
  refine hh_let_uL (P := (fun x => hh_L r v x)) (hh_L_up h_w_2 (by first | exact hh_Lr | exact hh_Ll | exact hh_Lk | exact hh_Lh | exact hh_Lc | exact hh_Lg)) (fun _ h_v_43 => ?_)
  refine hh_let_uL (P := (fun x => hh_L r v x)) (hh_L_fld h_v_43 (fun i w => hul_X5_copyFrom_48 _ _ i)) (fun _ h_w_48 => ?_)
  refine hh_let_uL (P := (fun x => hh_L r v x)) (hh_L_up h_w_48 (by first | exact hh_Lr | exact hh_Ll | exact hh_Lk | exact hh_Lh | exact hh_Lc | exact hh_Lg)) (fun _ h_v_82 => ?_)
  refine hh_let_uL (P := (fun x => hh_L r v x)) (hh_L_fld h_v_82 (fun i w => hul_X5_copyFrom_87 _ _ i)) (fun _ h_w_87 => ?_)
  refine hh_let_uL (P := (fun x => hh_L r v x)) (hh_L_up h_w_87 (by first | exact hh_Lr | exact hh_Ll | exact hh_Lk | exact hh_Lh | exact hh_Lc | exact hh_Lg)) (fun _ h_v_121 => ?_)
  refine hh_let_uL (P := (fun x => hh_L r v x)) (hh_L_up h_v_121 (by first | exact hh_Lr | exact hh_Ll | exact hh_Lk | exact hh_Lh | exact hh_Lc | exact hh_Lg)) (fun _ h_v_129 => ?_)
  refine hh_let_uL (P := (fun x => hh_L r v x)) (hh_L_up h_v_129 (by first | exact hh_Lr | exact hh_Ll | exact hh_Lk | exact hh_Lh | exact hh_Lc | exact hh_Lg)) (fun _ h_v_137 => ?_)
  exact h_v_137
