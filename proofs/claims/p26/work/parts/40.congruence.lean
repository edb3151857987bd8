/-! CONGRUENCE, printed by wip/gen/pair.py: two worlds' numbers that agree everywhere but on the survey's rows stay so, and answers are the same -/
def hh_Q (v w : hh_M) : Prop := ∀ j, (j < 5 ∨ 8 ≤ j) → v j = w j
section HHQ2
variable {v w : hh_M}
theorem hh_Q.M (h : hh_Q v w) : v 1 = w 1 := h 1 (by omega)
theorem hh_Q.m (h : hh_Q v w) (i : Nat) : v (hh_mI i) = w (hh_mI i) := h _ (by unfold hh_mI; omega)
theorem hh_Q.b (h : hh_Q v w) (i : Nat) : v (hh_bI i) = w (hh_bI i) := h _ (by unfold hh_bI; omega)
theorem hh_Q.r (h : hh_Q v w) (r : Nat) : v (hh_rI r) = w (hh_rI r) := h _ (by unfold hh_rI; omega)
theorem hh_Q.l (h : hh_Q v w) (r : Nat) : v (hh_lI r) = w (hh_lI r) := h _ (by unfold hh_lI; omega)
theorem hh_Q.k (h : hh_Q v w) (r : Nat) : v (hh_kI r) = w (hh_kI r) := h _ (by unfold hh_kI; omega)
theorem hh_Q.h (h : hh_Q v w) (r i : Nat) : v (hh_hI r i) = w (hh_hI r i) := h _ (by unfold hh_hI; omega)
theorem hh_Q.c (h : hh_Q v w) (r i : Nat) : v (hh_cI r i) = w (hh_cI r i) := h _ (by unfold hh_cI; omega)
theorem hh_Q.g (h : hh_Q v w) (r i g : Nat) : v (hh_gI r i g) = w (hh_gI r i g) := h _ (by unfold hh_gI; omega)
theorem hh_Q_up (h : hh_Q v w) {j k : Nat} {x : Int32} : hh_Q (hh_up v j k x) (hh_up w j k x) := fun i hi => by
  funext b
  unfold hh_up
  rw [h i hi]
end HHQ2
theorem hh_let_ci {α β : Type} {R : β → β → Prop} {a b : α} {f g : α → β} (h : a = b) (k : ∀ q, R (f q) (g q)) : R (hh_let a f) (hh_let b g) := by subst h; exact k a
theorem hh_let_cm {β : Type} {R : β → β → Prop} {a b : hh_M} {f g : hh_M → β} (h : hh_Q a b) (k : ∀ x y, hh_Q x y → R (f x) (g y)) : R (hh_let a f) (hh_let b g) := k a b h
theorem hh_if_c {β : Type} {R : β → β → Prop} {c d : Prop} [Decidable c] [Decidable d] {a b x y : β} (h : c ↔ d) (k1 : c → R a x) (k2 : ¬ c → R b y) : R (if c then a else b) (if d then x else y) := by
  by_cases hc : c
  · rw [if_pos hc, if_pos (h.mp hc)]; exact k1 hc
  · rw [if_neg hc, if_neg (fun q => hc (h.mpr q))]; exact k2 hc
theorem hh_fld_cm {f g : Nat → hh_M → hh_M} {n : Nat} {s t : hh_M} (hs : hh_Q s t) (h : ∀ i x y, hh_Q x y → hh_Q (f i x) (g i y)) : hh_Q (hh_fld f n s) (hh_fld g n t) := by
  induction n with
  | zero => exact hs
  | succ n ih => exact h n _ _ ih
set_option maxRecDepth 20000 in
theorem hc_X1_isIdle {v w : hh_M} (hQ : hh_Q v w) (r : Nat) (i : Nat) : hf_X1_isIdle v r i = hf_X1_isIdle w r i := by
  unfold hf_X1_isIdle
  refine hh_if_c (R := (fun a b => a = b)) (by first | (simp only [hQ.M, hQ.m, hQ.b, hQ.r, hQ.l, hQ.k, hQ.h, hQ.c, hQ.g]; done) | exact Iff.rfl) (fun _ => ?_) (fun _ => ?_)
  · exact (by first | (simp only [hQ.M, hQ.m, hQ.b, hQ.r, hQ.l, hQ.k, hQ.h, hQ.c, hQ.g]; done) | rfl)
  · refine hh_if_c (R := (fun a b => a = b)) (by first | (simp only [hQ.M, hQ.m, hQ.b, hQ.r, hQ.l, hQ.k, hQ.h, hQ.c, hQ.g]; done) | exact Iff.rfl) (fun _ => ?_) (fun _ => ?_)
    · exact (by first | (simp only [hQ.M, hQ.m, hQ.b, hQ.r, hQ.l, hQ.k, hQ.h, hQ.c, hQ.g]; done) | rfl)
    · exact (by first | (simp only [hQ.M, hQ.m, hQ.b, hQ.r, hQ.l, hQ.k, hQ.h, hQ.c, hQ.g]; done) | rfl)
set_option maxRecDepth 20000 in
theorem hc_X1_move {v w : hh_M} (hQ : hh_Q v w) (r : Nat) (i : Nat) : hh_Q (hf_X1_move v r i) (hf_X1_move w r i) := by
  unfold hf_X1_move
  refine hh_let_cm (R := hh_Q) (by (try simp only [hQ.M, hQ.m, hQ.b, hQ.r, hQ.l, hQ.k, hQ.h, hQ.c, hQ.g]); exact hh_Q_up hQ) (fun _ _ hQ_v_10 => ?_)
  refine hh_if_c (R := hh_Q) (by first | (simp only [hQ.M, hQ.m, hQ.b, hQ.r, hQ.l, hQ.k, hQ.h, hQ.c, hQ.g, hQ_v_10.M, hQ_v_10.m, hQ_v_10.b, hQ_v_10.r, hQ_v_10.l, hQ_v_10.k, hQ_v_10.h, hQ_v_10.c, hQ_v_10.g]; done) | exact Iff.rfl) (fun _ => ?_) (fun _ => ?_)
  · refine hh_if_c (R := hh_Q) (by first | (simp only [hQ.M, hQ.m, hQ.b, hQ.r, hQ.l, hQ.k, hQ.h, hQ.c, hQ.g, hQ_v_10.M, hQ_v_10.m, hQ_v_10.b, hQ_v_10.r, hQ_v_10.l, hQ_v_10.k, hQ_v_10.h, hQ_v_10.c, hQ_v_10.g]; done) | exact Iff.rfl) (fun _ => ?_) (fun _ => ?_)
    · exact hQ_v_10
    · refine hh_let_cm (R := hh_Q) (by (try simp only [hQ.M, hQ.m, hQ.b, hQ.r, hQ.l, hQ.k, hQ.h, hQ.c, hQ.g, hQ_v_10.M, hQ_v_10.m, hQ_v_10.b, hQ_v_10.r, hQ_v_10.l, hQ_v_10.k, hQ_v_10.h, hQ_v_10.c, hQ_v_10.g]); exact hh_Q_up hQ_v_10) (fun _ _ hQ_v_59 => ?_)
      refine hh_let_cm (R := hh_Q) (by (try simp only [hQ.M, hQ.m, hQ.b, hQ.r, hQ.l, hQ.k, hQ.h, hQ.c, hQ.g, hQ_v_10.M, hQ_v_10.m, hQ_v_10.b, hQ_v_10.r, hQ_v_10.l, hQ_v_10.k, hQ_v_10.h, hQ_v_10.c, hQ_v_10.g, hQ_v_59.M, hQ_v_59.m, hQ_v_59.b, hQ_v_59.r, hQ_v_59.l, hQ_v_59.k, hQ_v_59.h, hQ_v_59.c, hQ_v_59.g]); exact hh_Q_up hQ_v_59) (fun _ _ hQ_v_68 => ?_)
      exact hQ_v_68
  · refine hh_let_cm (R := hh_Q) (by (try simp only [hQ.M, hQ.m, hQ.b, hQ.r, hQ.l, hQ.k, hQ.h, hQ.c, hQ.g, hQ_v_10.M, hQ_v_10.m, hQ_v_10.b, hQ_v_10.r, hQ_v_10.l, hQ_v_10.k, hQ_v_10.h, hQ_v_10.c, hQ_v_10.g]); exact hh_Q_up hQ_v_10) (fun _ _ hQ_v_26 => ?_)
    refine hh_let_cm (R := hh_Q) (by (try simp only [hQ.M, hQ.m, hQ.b, hQ.r, hQ.l, hQ.k, hQ.h, hQ.c, hQ.g, hQ_v_10.M, hQ_v_10.m, hQ_v_10.b, hQ_v_10.r, hQ_v_10.l, hQ_v_10.k, hQ_v_10.h, hQ_v_10.c, hQ_v_10.g, hQ_v_26.M, hQ_v_26.m, hQ_v_26.b, hQ_v_26.r, hQ_v_26.l, hQ_v_26.k, hQ_v_26.h, hQ_v_26.c, hQ_v_26.g]); exact hh_Q_up hQ_v_26) (fun _ _ hQ_v_35 => ?_)
    exact hQ_v_35
set_option maxRecDepth 20000 in
theorem hc_X1_tell {v w : hh_M} (hQ : hh_Q v w) (r : Nat) (i : Nat) (area : Int32) (now : Int32) : hh_Q (hf_X1_tell v r i area now) (hf_X1_tell w r i area now) := by
  unfold hf_X1_tell
  refine hh_let_cm (R := hh_Q) (by (try simp only [hQ.M, hQ.m, hQ.b, hQ.r, hQ.l, hQ.k, hQ.h, hQ.c, hQ.g]); exact hh_Q_up hQ) (fun _ _ hQ_v_2 => ?_)
  refine hh_let_cm (R := hh_Q) (by (try simp only [hQ.M, hQ.m, hQ.b, hQ.r, hQ.l, hQ.k, hQ.h, hQ.c, hQ.g, hQ_v_2.M, hQ_v_2.m, hQ_v_2.b, hQ_v_2.r, hQ_v_2.l, hQ_v_2.k, hQ_v_2.h, hQ_v_2.c, hQ_v_2.g]); exact hh_Q_up hQ_v_2) (fun _ _ hQ_v_7 => ?_)
  refine hh_let_cm (R := hh_Q) (by (try simp only [hQ.M, hQ.m, hQ.b, hQ.r, hQ.l, hQ.k, hQ.h, hQ.c, hQ.g, hQ_v_2.M, hQ_v_2.m, hQ_v_2.b, hQ_v_2.r, hQ_v_2.l, hQ_v_2.k, hQ_v_2.h, hQ_v_2.c, hQ_v_2.g, hQ_v_7.M, hQ_v_7.m, hQ_v_7.b, hQ_v_7.r, hQ_v_7.l, hQ_v_7.k, hQ_v_7.h, hQ_v_7.c, hQ_v_7.g]); exact hh_Q_up hQ_v_7) (fun _ _ hQ_v_12 => ?_)
  refine hh_let_cm (R := hh_Q) (by (try simp only [hQ.M, hQ.m, hQ.b, hQ.r, hQ.l, hQ.k, hQ.h, hQ.c, hQ.g, hQ_v_2.M, hQ_v_2.m, hQ_v_2.b, hQ_v_2.r, hQ_v_2.l, hQ_v_2.k, hQ_v_2.h, hQ_v_2.c, hQ_v_2.g, hQ_v_7.M, hQ_v_7.m, hQ_v_7.b, hQ_v_7.r, hQ_v_7.l, hQ_v_7.k, hQ_v_7.h, hQ_v_7.c, hQ_v_7.g, hQ_v_12.M, hQ_v_12.m, hQ_v_12.b, hQ_v_12.r, hQ_v_12.l, hQ_v_12.k, hQ_v_12.h, hQ_v_12.c, hQ_v_12.g]); exact hh_Q_up hQ_v_12) (fun _ _ hQ_v_22 => ?_)
  exact hQ_v_22
set_option maxRecDepth 20000 in
theorem hc_X2_isUsed {v w : hh_M} (hQ : hh_Q v w) (r : Nat) (i : Nat) (g : Nat) : hf_X2_isUsed v r i g = hf_X2_isUsed w r i g := by
  unfold hf_X2_isUsed
  refine hh_if_c (R := (fun a b => a = b)) (by first | (simp only [hQ.M, hQ.m, hQ.b, hQ.r, hQ.l, hQ.k, hQ.h, hQ.c, hQ.g]; done) | exact Iff.rfl) (fun _ => ?_) (fun _ => ?_)
  · exact (by first | (simp only [hQ.M, hQ.m, hQ.b, hQ.r, hQ.l, hQ.k, hQ.h, hQ.c, hQ.g]; done) | rfl)
  · refine hh_if_c (R := (fun a b => a = b)) (by first | (simp only [hQ.M, hQ.m, hQ.b, hQ.r, hQ.l, hQ.k, hQ.h, hQ.c, hQ.g]; done) | exact Iff.rfl) (fun _ => ?_) (fun _ => ?_)
    · exact (by first | (simp only [hQ.M, hQ.m, hQ.b, hQ.r, hQ.l, hQ.k, hQ.h, hQ.c, hQ.g]; done) | rfl)
    · exact (by first | (simp only [hQ.M, hQ.m, hQ.b, hQ.r, hQ.l, hQ.k, hQ.h, hQ.c, hQ.g]; done) | rfl)
set_option maxRecDepth 20000 in
theorem hc_X5_qualityAt {v w : hh_M} (hQ : hh_Q v w) (r : Nat) (mast : Int32) (place : Int32) : hf_X5_qualityAt v r mast place = hf_X5_qualityAt w r mast place := by
  unfold hf_X5_qualityAt
  exact (by first | (simp only [hQ.M, hQ.m, hQ.b, hQ.r, hQ.l, hQ.k, hQ.h, hQ.c, hQ.g]; done) | rfl)
set_option maxRecDepth 20000 in
theorem hc_X5_isHeard {v w : hh_M} (hQ : hh_Q v w) (r : Nat) (mast : Int32) (place : Int32) : hf_X5_isHeard v r mast place = hf_X5_isHeard w r mast place := by
  unfold hf_X5_isHeard
  refine hh_let_ci (R := (fun a b => a = b)) (by first | (simp only [hQ.M, hQ.m, hQ.b, hQ.r, hQ.l, hQ.k, hQ.h, hQ.c, hQ.g, hc_X5_qualityAt hQ]; done) | rfl) (fun _ => ?_)
  refine hh_if_c (R := (fun a b => a = b)) (by first | (simp only [hQ.M, hQ.m, hQ.b, hQ.r, hQ.l, hQ.k, hQ.h, hQ.c, hQ.g]; done) | exact Iff.rfl) (fun _ => ?_) (fun _ => ?_)
  · exact (by first | (simp only [hQ.M, hQ.m, hQ.b, hQ.r, hQ.l, hQ.k, hQ.h, hQ.c, hQ.g]; done) | rfl)
  · exact (by first | (simp only [hQ.M, hQ.m, hQ.b, hQ.r, hQ.l, hQ.k, hQ.h, hQ.c, hQ.g]; done) | rfl)
set_option maxRecDepth 20000 in
theorem hcl_X5_bestHeardAt_7 {v w : hh_M} (hQ : hh_Q v w) (r : Nat) (place : Int32) (i : Nat) (a7_2 : Int32) (a7_3 : Int32) : hl_X5_bestHeardAt_7 v r place i a7_2 a7_3 = hl_X5_bestHeardAt_7 w r place i a7_2 a7_3 := by
  unfold hl_X5_bestHeardAt_7
  refine hh_let_ci (R := (fun a b => a = b)) (by first | (simp only [hQ.M, hQ.m, hQ.b, hQ.r, hQ.l, hQ.k, hQ.h, hQ.c, hQ.g, hc_X5_qualityAt hQ]; done) | rfl) (fun _ => ?_)
  refine hh_if_c (R := (fun a b => a = b)) (by first | (simp only [hQ.M, hQ.m, hQ.b, hQ.r, hQ.l, hQ.k, hQ.h, hQ.c, hQ.g]; done) | exact Iff.rfl) (fun _ => ?_) (fun _ => ?_)
  · exact (by first | (simp only [hQ.M, hQ.m, hQ.b, hQ.r, hQ.l, hQ.k, hQ.h, hQ.c, hQ.g]; done) | rfl)
  · exact (by first | (simp only [hQ.M, hQ.m, hQ.b, hQ.r, hQ.l, hQ.k, hQ.h, hQ.c, hQ.g]; done) | rfl)
set_option maxRecDepth 20000 in
theorem hc_X5_bestHeardAt {v w : hh_M} (hQ : hh_Q v w) (r : Nat) (place : Int32) : hf_X5_bestHeardAt v r place = hf_X5_bestHeardAt w r place := by
  unfold hf_X5_bestHeardAt
  refine hh_let_ci (R := (fun a b => a = b)) (by first | (simp only [hQ.M, hQ.m, hQ.b, hQ.r, hQ.l, hQ.k, hQ.h, hQ.c, hQ.g, hcl_X5_bestHeardAt_7 hQ]; done) | rfl) (fun _ => ?_)
  refine hh_let_ci (R := (fun a b => a = b)) (by first | (simp only [hQ.M, hQ.m, hQ.b, hQ.r, hQ.l, hQ.k, hQ.h, hQ.c, hQ.g, hcl_X5_bestHeardAt_7 hQ]; done) | rfl) (fun _ => ?_)
  exact (by first | (simp only [hQ.M, hQ.m, hQ.b, hQ.r, hQ.l, hQ.k, hQ.h, hQ.c, hQ.g]; done) | rfl)
set_option maxRecDepth 20000 in
theorem hc_X5_hasFreeChannels {v w : hh_M} (hQ : hh_Q v w) (r : Nat) (mast : Int32) (needed : Int32) : hf_X5_hasFreeChannels v r mast needed = hf_X5_hasFreeChannels w r mast needed := by
  unfold hf_X5_hasFreeChannels
  refine hh_if_c (R := (fun a b => a = b)) (by first | (simp only [hQ.M, hQ.m, hQ.b, hQ.r, hQ.l, hQ.k, hQ.h, hQ.c, hQ.g]; done) | exact Iff.rfl) (fun _ => ?_) (fun _ => ?_)
  · exact (by first | (simp only [hQ.M, hQ.m, hQ.b, hQ.r, hQ.l, hQ.k, hQ.h, hQ.c, hQ.g]; done) | rfl)
  · exact (by first | (simp only [hQ.M, hQ.m, hQ.b, hQ.r, hQ.l, hQ.k, hQ.h, hQ.c, hQ.g]; done) | rfl)
set_option maxRecDepth 20000 in
theorem hc_X5_isMuchBetter {v w : hh_M} (hQ : hh_Q v w) (r : Nat) (candidate : Int32) (own_ : Int32) (place : Int32) : hf_X5_isMuchBetter v r candidate own_ place = hf_X5_isMuchBetter w r candidate own_ place := by
  unfold hf_X5_isMuchBetter
  refine hh_if_c (R := (fun a b => a = b)) (by first | (simp only [hQ.M, hQ.m, hQ.b, hQ.r, hQ.l, hQ.k, hQ.h, hQ.c, hQ.g]; done) | exact Iff.rfl) (fun _ => ?_) (fun _ => ?_)
  · exact (by first | (simp only [hQ.M, hQ.m, hQ.b, hQ.r, hQ.l, hQ.k, hQ.h, hQ.c, hQ.g]; done) | rfl)
  · refine hh_let_ci (R := (fun a b => a = b)) (by first | (simp only [hQ.M, hQ.m, hQ.b, hQ.r, hQ.l, hQ.k, hQ.h, hQ.c, hQ.g, hc_X5_qualityAt hQ]; done) | rfl) (fun _ => ?_)
    refine hh_let_ci (R := (fun a b => a = b)) (by first | (simp only [hQ.M, hQ.m, hQ.b, hQ.r, hQ.l, hQ.k, hQ.h, hQ.c, hQ.g, hc_X5_qualityAt hQ]; done) | rfl) (fun _ => ?_)
    refine hh_if_c (R := (fun a b => a = b)) (by first | (simp only [hQ.M, hQ.m, hQ.b, hQ.r, hQ.l, hQ.k, hQ.h, hQ.c, hQ.g]; done) | exact Iff.rfl) (fun _ => ?_) (fun _ => ?_)
    · exact (by first | (simp only [hQ.M, hQ.m, hQ.b, hQ.r, hQ.l, hQ.k, hQ.h, hQ.c, hQ.g]; done) | rfl)
    · exact (by first | (simp only [hQ.M, hQ.m, hQ.b, hQ.r, hQ.l, hQ.k, hQ.h, hQ.c, hQ.g]; done) | rfl)
set_option maxRecDepth 20000 in
theorem hcl_X5_candidateFor_10 {v w : hh_M} (hQ : hh_Q v w) (r : Nat) (own_ : Int32) (place : Int32) (i : Nat) (a10_3 : Int32) (a10_4 : Int32) : hl_X5_candidateFor_10 v r own_ place i a10_3 a10_4 = hl_X5_candidateFor_10 w r own_ place i a10_3 a10_4 := by
  unfold hl_X5_candidateFor_10
  refine hh_if_c (R := (fun a b => a = b)) (by first | (simp only [hQ.M, hQ.m, hQ.b, hQ.r, hQ.l, hQ.k, hQ.h, hQ.c, hQ.g]; done) | exact Iff.rfl) (fun _ => ?_) (fun _ => ?_)
  · exact (by first | (simp only [hQ.M, hQ.m, hQ.b, hQ.r, hQ.l, hQ.k, hQ.h, hQ.c, hQ.g]; done) | rfl)
  · refine hh_if_c (R := (fun a b => a = b)) (by first | (simp only [hQ.M, hQ.m, hQ.b, hQ.r, hQ.l, hQ.k, hQ.h, hQ.c, hQ.g]; done) | exact Iff.rfl) (fun _ => ?_) (fun _ => ?_)
    · exact (by first | (simp only [hQ.M, hQ.m, hQ.b, hQ.r, hQ.l, hQ.k, hQ.h, hQ.c, hQ.g]; done) | rfl)
    · refine hh_let_ci (R := (fun a b => a = b)) (by first | (simp only [hQ.M, hQ.m, hQ.b, hQ.r, hQ.l, hQ.k, hQ.h, hQ.c, hQ.g, hc_X5_hasFreeChannels hQ]; done) | rfl) (fun _ => ?_)
      refine hh_if_c (R := (fun a b => a = b)) (by first | (simp only [hQ.M, hQ.m, hQ.b, hQ.r, hQ.l, hQ.k, hQ.h, hQ.c, hQ.g]; done) | exact Iff.rfl) (fun _ => ?_) (fun _ => ?_)
      · exact (by first | (simp only [hQ.M, hQ.m, hQ.b, hQ.r, hQ.l, hQ.k, hQ.h, hQ.c, hQ.g]; done) | rfl)
      · refine hh_let_ci (R := (fun a b => a = b)) (by first | (simp only [hQ.M, hQ.m, hQ.b, hQ.r, hQ.l, hQ.k, hQ.h, hQ.c, hQ.g, hc_X5_qualityAt hQ]; done) | rfl) (fun _ => ?_)
        refine hh_if_c (R := (fun a b => a = b)) (by first | (simp only [hQ.M, hQ.m, hQ.b, hQ.r, hQ.l, hQ.k, hQ.h, hQ.c, hQ.g]; done) | exact Iff.rfl) (fun _ => ?_) (fun _ => ?_)
        · exact (by first | (simp only [hQ.M, hQ.m, hQ.b, hQ.r, hQ.l, hQ.k, hQ.h, hQ.c, hQ.g]; done) | rfl)
        · exact (by first | (simp only [hQ.M, hQ.m, hQ.b, hQ.r, hQ.l, hQ.k, hQ.h, hQ.c, hQ.g]; done) | rfl)
set_option maxRecDepth 20000 in
theorem hc_X5_candidateFor {v w : hh_M} (hQ : hh_Q v w) (r : Nat) (own_ : Int32) (place : Int32) : hf_X5_candidateFor v r own_ place = hf_X5_candidateFor w r own_ place := by
  unfold hf_X5_candidateFor
  refine hh_let_ci (R := (fun a b => a = b)) (by first | (simp only [hQ.M, hQ.m, hQ.b, hQ.r, hQ.l, hQ.k, hQ.h, hQ.c, hQ.g, hcl_X5_candidateFor_10 hQ]; done) | rfl) (fun _ => ?_)
  refine hh_let_ci (R := (fun a b => a = b)) (by first | (simp only [hQ.M, hQ.m, hQ.b, hQ.r, hQ.l, hQ.k, hQ.h, hQ.c, hQ.g, hcl_X5_candidateFor_10 hQ]; done) | rfl) (fun _ => ?_)
  exact (by first | (simp only [hQ.M, hQ.m, hQ.b, hQ.r, hQ.l, hQ.k, hQ.h, hQ.c, hQ.g]; done) | rfl)
set_option maxRecDepth 20000 in
theorem hc_X5_chooseMast {v w : hh_M} (hQ : hh_Q v w) (r : Nat) (i : Nat) : hh_Q (hf_X5_chooseMast v r i) (hf_X5_chooseMast w r i) := by
  unfold hf_X5_chooseMast
  refine hh_let_ci (R := hh_Q) (by first | (simp only [hQ.M, hQ.m, hQ.b, hQ.r, hQ.l, hQ.k, hQ.h, hQ.c, hQ.g, hc_X5_bestHeardAt hQ]; done) | rfl) (fun _ => ?_)
  refine hh_if_c (R := hh_Q) (by first | (simp only [hQ.M, hQ.m, hQ.b, hQ.r, hQ.l, hQ.k, hQ.h, hQ.c, hQ.g]; done) | exact Iff.rfl) (fun _ => ?_) (fun _ => ?_)
  · refine hh_let_cm (R := hh_Q) (by (try simp only [hQ.M, hQ.m, hQ.b, hQ.r, hQ.l, hQ.k, hQ.h, hQ.c, hQ.g]); exact hh_Q_up hQ) (fun _ _ hQ_v_24 => ?_)
    exact hQ_v_24
  · refine hh_if_c (R := hh_Q) (by first | (simp only [hQ.M, hQ.m, hQ.b, hQ.r, hQ.l, hQ.k, hQ.h, hQ.c, hQ.g]; done) | exact Iff.rfl) (fun _ => ?_) (fun _ => ?_)
    · refine hh_let_cm (R := hh_Q) (by (try simp only [hQ.M, hQ.m, hQ.b, hQ.r, hQ.l, hQ.k, hQ.h, hQ.c, hQ.g]); exact hh_Q_up hQ) (fun _ _ hQ_v_24 => ?_)
      exact hQ_v_24
    · refine hh_let_ci (R := hh_Q) (by first | (simp only [hQ.M, hQ.m, hQ.b, hQ.r, hQ.l, hQ.k, hQ.h, hQ.c, hQ.g, hc_X5_qualityAt hQ]; done) | rfl) (fun _ => ?_)
      refine hh_if_c (R := hh_Q) (by first | (simp only [hQ.M, hQ.m, hQ.b, hQ.r, hQ.l, hQ.k, hQ.h, hQ.c, hQ.g]; done) | exact Iff.rfl) (fun _ => ?_) (fun _ => ?_)
      · refine hh_let_cm (R := hh_Q) (by (try simp only [hQ.M, hQ.m, hQ.b, hQ.r, hQ.l, hQ.k, hQ.h, hQ.c, hQ.g]); exact hh_Q_up hQ) (fun _ _ hQ_v_75 => ?_)
        exact hQ_v_75
      · refine hh_let_ci (R := hh_Q) (by first | (simp only [hQ.M, hQ.m, hQ.b, hQ.r, hQ.l, hQ.k, hQ.h, hQ.c, hQ.g, hc_X5_qualityAt hQ]; done) | rfl) (fun _ => ?_)
        refine hh_if_c (R := hh_Q) (by first | (simp only [hQ.M, hQ.m, hQ.b, hQ.r, hQ.l, hQ.k, hQ.h, hQ.c, hQ.g]; done) | exact Iff.rfl) (fun _ => ?_) (fun _ => ?_)
        · refine hh_let_cm (R := hh_Q) (by (try simp only [hQ.M, hQ.m, hQ.b, hQ.r, hQ.l, hQ.k, hQ.h, hQ.c, hQ.g]); exact hh_Q_up hQ) (fun _ _ hQ_v_75 => ?_)
          exact hQ_v_75
        · exact hQ
set_option maxRecDepth 20000 in
theorem hc_X5_tellArea {v w : hh_M} (hQ : hh_Q v w) (r : Nat) (i : Nat) : hh_Q (hf_X5_tellArea v r i) (hf_X5_tellArea w r i) := by
  unfold hf_X5_tellArea
  refine hh_if_c (R := hh_Q) (by first | (simp only [hQ.M, hQ.m, hQ.b, hQ.r, hQ.l, hQ.k, hQ.h, hQ.c, hQ.g]; done) | exact Iff.rfl) (fun _ => ?_) (fun _ => ?_)
  · exact hQ
  · refine hh_let_ci (R := hh_Q) (by first | (simp only [hQ.M, hQ.m, hQ.b, hQ.r, hQ.l, hQ.k, hQ.h, hQ.c, hQ.g]; done) | rfl) (fun _ => ?_)
    refine hh_if_c (R := hh_Q) (by first | (simp only [hQ.M, hQ.m, hQ.b, hQ.r, hQ.l, hQ.k, hQ.h, hQ.c, hQ.g]; done) | exact Iff.rfl) (fun _ => ?_) (fun _ => ?_)
    · refine hh_if_c (R := hh_Q) (by first | (simp only [hQ.M, hQ.m, hQ.b, hQ.r, hQ.l, hQ.k, hQ.h, hQ.c, hQ.g]; done) | exact Iff.rfl) (fun _ => ?_) (fun _ => ?_)
      · exact hQ
      · refine hh_let_cm (R := hh_Q) (by (try simp only [hQ.M, hQ.m, hQ.b, hQ.r, hQ.l, hQ.k, hQ.h, hQ.c, hQ.g]); exact hc_X1_tell hQ _ _ _ _) (fun _ _ hQ_v_53 => ?_)
        exact hQ_v_53
    · refine hh_let_cm (R := hh_Q) (by (try simp only [hQ.M, hQ.m, hQ.b, hQ.r, hQ.l, hQ.k, hQ.h, hQ.c, hQ.g]); exact hc_X1_tell hQ _ _ _ _) (fun _ _ hQ_v_53 => ?_)
      exact hQ_v_53
set_option maxRecDepth 20000 in
theorem hc_X5_release {v w : hh_M} (hQ : hh_Q v w) (r : Nat) (i : Nat) (g : Nat) : hh_Q (hf_X5_release v r i g) (hf_X5_release w r i g) := by
  unfold hf_X5_release
  refine hh_let_cm (R := hh_Q) (by (try simp only [hQ.M, hQ.m, hQ.b, hQ.r, hQ.l, hQ.k, hQ.h, hQ.c, hQ.g]); exact hh_Q_up hQ) (fun _ _ hQ_v_12 => ?_)
  refine hh_let_cm (R := hh_Q) (by (try simp only [hQ.M, hQ.m, hQ.b, hQ.r, hQ.l, hQ.k, hQ.h, hQ.c, hQ.g, hQ_v_12.M, hQ_v_12.m, hQ_v_12.b, hQ_v_12.r, hQ_v_12.l, hQ_v_12.k, hQ_v_12.h, hQ_v_12.c, hQ_v_12.g]); exact hh_Q_up hQ_v_12) (fun _ _ hQ_v_23 => ?_)
  exact hQ_v_23
set_option maxRecDepth 20000 in
theorem hc_X5_end {v w : hh_M} (hQ : hh_Q v w) (r : Nat) (i : Nat) (how : Int32) : hh_Q (hf_X5_end v r i how) (hf_X5_end w r i how) := by
  unfold hf_X5_end
  refine hh_let_cm (R := hh_Q) (by (try simp only [hQ.M, hQ.m, hQ.b, hQ.r, hQ.l, hQ.k, hQ.h, hQ.c, hQ.g]); exact hh_Q_up hQ) (fun _ _ hQ_v_2 => ?_)
  refine hh_let_ci (R := hh_Q) (by first | (simp only [hQ.M, hQ.m, hQ.b, hQ.r, hQ.l, hQ.k, hQ.h, hQ.c, hQ.g, hQ_v_2.M, hQ_v_2.m, hQ_v_2.b, hQ_v_2.r, hQ_v_2.l, hQ_v_2.k, hQ_v_2.h, hQ_v_2.c, hQ_v_2.g, hc_X2_isUsed hQ, hc_X2_isUsed hQ_v_2]; done) | rfl) (fun _ => ?_)
  refine hh_if_c (R := hh_Q) (by first | (simp only [hQ.M, hQ.m, hQ.b, hQ.r, hQ.l, hQ.k, hQ.h, hQ.c, hQ.g, hQ_v_2.M, hQ_v_2.m, hQ_v_2.b, hQ_v_2.r, hQ_v_2.l, hQ_v_2.k, hQ_v_2.h, hQ_v_2.c, hQ_v_2.g]; done) | exact Iff.rfl) (fun _ => ?_) (fun _ => ?_)
  · refine hh_let_ci (R := hh_Q) (by first | (simp only [hQ.M, hQ.m, hQ.b, hQ.r, hQ.l, hQ.k, hQ.h, hQ.c, hQ.g, hQ_v_2.M, hQ_v_2.m, hQ_v_2.b, hQ_v_2.r, hQ_v_2.l, hQ_v_2.k, hQ_v_2.h, hQ_v_2.c, hQ_v_2.g, hc_X2_isUsed hQ, hc_X2_isUsed hQ_v_2]; done) | rfl) (fun _ => ?_)
    refine hh_if_c (R := hh_Q) (by first | (simp only [hQ.M, hQ.m, hQ.b, hQ.r, hQ.l, hQ.k, hQ.h, hQ.c, hQ.g, hQ_v_2.M, hQ_v_2.m, hQ_v_2.b, hQ_v_2.r, hQ_v_2.l, hQ_v_2.k, hQ_v_2.h, hQ_v_2.c, hQ_v_2.g]; done) | exact Iff.rfl) (fun _ => ?_) (fun _ => ?_)
    · exact hQ_v_2
    · refine hh_let_cm (R := hh_Q) (by (try simp only [hQ.M, hQ.m, hQ.b, hQ.r, hQ.l, hQ.k, hQ.h, hQ.c, hQ.g, hQ_v_2.M, hQ_v_2.m, hQ_v_2.b, hQ_v_2.r, hQ_v_2.l, hQ_v_2.k, hQ_v_2.h, hQ_v_2.c, hQ_v_2.g]); exact hc_X5_release hQ_v_2 _ _ _) (fun _ _ hQ_v_38 => ?_)
      exact hQ_v_38
  · refine hh_let_cm (R := hh_Q) (by (try simp only [hQ.M, hQ.m, hQ.b, hQ.r, hQ.l, hQ.k, hQ.h, hQ.c, hQ.g, hQ_v_2.M, hQ_v_2.m, hQ_v_2.b, hQ_v_2.r, hQ_v_2.l, hQ_v_2.k, hQ_v_2.h, hQ_v_2.c, hQ_v_2.g]); exact hc_X5_release hQ_v_2 _ _ _) (fun _ _ hQ_v_20 => ?_)
    refine hh_let_ci (R := hh_Q) (by first | (simp only [hQ.M, hQ.m, hQ.b, hQ.r, hQ.l, hQ.k, hQ.h, hQ.c, hQ.g, hQ_v_2.M, hQ_v_2.m, hQ_v_2.b, hQ_v_2.r, hQ_v_2.l, hQ_v_2.k, hQ_v_2.h, hQ_v_2.c, hQ_v_2.g, hQ_v_20.M, hQ_v_20.m, hQ_v_20.b, hQ_v_20.r, hQ_v_20.l, hQ_v_20.k, hQ_v_20.h, hQ_v_20.c, hQ_v_20.g, hc_X2_isUsed hQ, hc_X2_isUsed hQ_v_2, hc_X2_isUsed hQ_v_20]; done) | rfl) (fun _ => ?_)
    refine hh_if_c (R := hh_Q) (by first | (simp only [hQ.M, hQ.m, hQ.b, hQ.r, hQ.l, hQ.k, hQ.h, hQ.c, hQ.g, hQ_v_2.M, hQ_v_2.m, hQ_v_2.b, hQ_v_2.r, hQ_v_2.l, hQ_v_2.k, hQ_v_2.h, hQ_v_2.c, hQ_v_2.g, hQ_v_20.M, hQ_v_20.m, hQ_v_20.b, hQ_v_20.r, hQ_v_20.l, hQ_v_20.k, hQ_v_20.h, hQ_v_20.c, hQ_v_20.g]; done) | exact Iff.rfl) (fun _ => ?_) (fun _ => ?_)
    · exact hQ_v_20
    · refine hh_let_cm (R := hh_Q) (by (try simp only [hQ.M, hQ.m, hQ.b, hQ.r, hQ.l, hQ.k, hQ.h, hQ.c, hQ.g, hQ_v_2.M, hQ_v_2.m, hQ_v_2.b, hQ_v_2.r, hQ_v_2.l, hQ_v_2.k, hQ_v_2.h, hQ_v_2.c, hQ_v_2.g, hQ_v_20.M, hQ_v_20.m, hQ_v_20.b, hQ_v_20.r, hQ_v_20.l, hQ_v_20.k, hQ_v_20.h, hQ_v_20.c, hQ_v_20.g]); exact hc_X5_release hQ_v_20 _ _ _) (fun _ _ hQ_v_38 => ?_)
      exact hQ_v_38
set_option maxRecDepth 20000 in
theorem hc_X5_price {v w : hh_M} (hQ : hh_Q v w) (r : Nat) (i : Nat) (i2 : Nat) : hf_X5_price v r i i2 = hf_X5_price w r i i2 := by
  unfold hf_X5_price
  refine hh_let_ci (R := (fun a b => a = b)) (by first | (simp only [hQ.M, hQ.m, hQ.b, hQ.r, hQ.l, hQ.k, hQ.h, hQ.c, hQ.g, hc_X2_isUsed hQ]; done) | rfl) (fun _ => ?_)
  refine hh_if_c (R := (fun a b => a = b)) (by first | (simp only [hQ.M, hQ.m, hQ.b, hQ.r, hQ.l, hQ.k, hQ.h, hQ.c, hQ.g]; done) | exact Iff.rfl) (fun _ => ?_) (fun _ => ?_)
  · exact (by first | (simp only [hQ.M, hQ.m, hQ.b, hQ.r, hQ.l, hQ.k, hQ.h, hQ.c, hQ.g]; done) | rfl)
  · refine hh_if_c (R := (fun a b => a = b)) (by first | (simp only [hQ.M, hQ.m, hQ.b, hQ.r, hQ.l, hQ.k, hQ.h, hQ.c, hQ.g]; done) | exact Iff.rfl) (fun _ => ?_) (fun _ => ?_)
    · exact (by first | (simp only [hQ.M, hQ.m, hQ.b, hQ.r, hQ.l, hQ.k, hQ.h, hQ.c, hQ.g]; done) | rfl)
    · exact (by first | (simp only [hQ.M, hQ.m, hQ.b, hQ.r, hQ.l, hQ.k, hQ.h, hQ.c, hQ.g]; done) | rfl)
set_option maxRecDepth 20000 in
theorem hc_X5_carry {v w : hh_M} (hQ : hh_Q v w) (r : Nat) (i : Nat) (g : Nat) : hh_Q (hf_X5_carry v r i g) (hf_X5_carry w r i g) := by
  unfold hf_X5_carry
  refine hh_let_ci (R := hh_Q) (by first | (simp only [hQ.M, hQ.m, hQ.b, hQ.r, hQ.l, hQ.k, hQ.h, hQ.c, hQ.g, hc_X2_isUsed hQ]; done) | rfl) (fun _ => ?_)
  refine hh_if_c (R := hh_Q) (by first | (simp only [hQ.M, hQ.m, hQ.b, hQ.r, hQ.l, hQ.k, hQ.h, hQ.c, hQ.g]; done) | exact Iff.rfl) (fun _ => ?_) (fun _ => ?_)
  · exact hQ
  · refine hh_let_cm (R := hh_Q) (by (try simp only [hQ.M, hQ.m, hQ.b, hQ.r, hQ.l, hQ.k, hQ.h, hQ.c, hQ.g]); exact hh_Q_up hQ) (fun _ _ hQ_v_19 => ?_)
    exact hQ_v_19
set_option maxRecDepth 20000 in
theorem hc_X5_charge {v w : hh_M} (hQ : hh_Q v w) (r : Nat) (i : Nat) : hh_Q (hf_X5_charge v r i) (hf_X5_charge w r i) := by
  unfold hf_X5_charge
  refine hh_if_c (R := hh_Q) (by first | (simp only [hQ.M, hQ.m, hQ.b, hQ.r, hQ.l, hQ.k, hQ.h, hQ.c, hQ.g]; done) | exact Iff.rfl) (fun _ => ?_) (fun _ => ?_)
  · refine hh_let_ci (R := hh_Q) (by first | (simp only [hQ.M, hQ.m, hQ.b, hQ.r, hQ.l, hQ.k, hQ.h, hQ.c, hQ.g, hc_X2_isUsed hQ]; done) | rfl) (fun _ => ?_)
    refine hh_if_c (R := hh_Q) (by first | (simp only [hQ.M, hQ.m, hQ.b, hQ.r, hQ.l, hQ.k, hQ.h, hQ.c, hQ.g]; done) | exact Iff.rfl) (fun _ => ?_) (fun _ => ?_)
    · exact hQ
    · refine hh_let_ci (R := hh_Q) (by first | (simp only [hQ.M, hQ.m, hQ.b, hQ.r, hQ.l, hQ.k, hQ.h, hQ.c, hQ.g, hc_X5_price hQ]; done) | rfl) (fun _ => ?_)
      refine hh_if_c (R := hh_Q) (by first | (simp only [hQ.M, hQ.m, hQ.b, hQ.r, hQ.l, hQ.k, hQ.h, hQ.c, hQ.g]; done) | exact Iff.rfl) (fun _ => ?_) (fun _ => ?_)
      · refine hh_let_cm (R := hh_Q) (by (try simp only [hQ.M, hQ.m, hQ.b, hQ.r, hQ.l, hQ.k, hQ.h, hQ.c, hQ.g]); exact hh_Q_up hQ) (fun _ _ hQ_v_60 => ?_)
        refine hh_let_cm (R := hh_Q) (by (try simp only [hQ.M, hQ.m, hQ.b, hQ.r, hQ.l, hQ.k, hQ.h, hQ.c, hQ.g, hQ_v_60.M, hQ_v_60.m, hQ_v_60.b, hQ_v_60.r, hQ_v_60.l, hQ_v_60.k, hQ_v_60.h, hQ_v_60.c, hQ_v_60.g]); exact hh_Q_up hQ_v_60) (fun _ _ hQ_v_70 => ?_)
        refine hh_let_cm (R := hh_Q) (by (try simp only [hQ.M, hQ.m, hQ.b, hQ.r, hQ.l, hQ.k, hQ.h, hQ.c, hQ.g, hQ_v_60.M, hQ_v_60.m, hQ_v_60.b, hQ_v_60.r, hQ_v_60.l, hQ_v_60.k, hQ_v_60.h, hQ_v_60.c, hQ_v_60.g, hQ_v_70.M, hQ_v_70.m, hQ_v_70.b, hQ_v_70.r, hQ_v_70.l, hQ_v_70.k, hQ_v_70.h, hQ_v_70.c, hQ_v_70.g]); exact hh_Q_up hQ_v_70) (fun _ _ hQ_v_80 => ?_)
        refine hh_let_cm (R := hh_Q) (by (try simp only [hQ.M, hQ.m, hQ.b, hQ.r, hQ.l, hQ.k, hQ.h, hQ.c, hQ.g, hQ_v_60.M, hQ_v_60.m, hQ_v_60.b, hQ_v_60.r, hQ_v_60.l, hQ_v_60.k, hQ_v_60.h, hQ_v_60.c, hQ_v_60.g, hQ_v_70.M, hQ_v_70.m, hQ_v_70.b, hQ_v_70.r, hQ_v_70.l, hQ_v_70.k, hQ_v_70.h, hQ_v_70.c, hQ_v_70.g, hQ_v_80.M, hQ_v_80.m, hQ_v_80.b, hQ_v_80.r, hQ_v_80.l, hQ_v_80.k, hQ_v_80.h, hQ_v_80.c, hQ_v_80.g]); exact hc_X5_carry hQ_v_80 _ _ _) (fun _ _ hQ_v_88 => ?_)
        refine hh_let_cm (R := hh_Q) (by (try simp only [hQ.M, hQ.m, hQ.b, hQ.r, hQ.l, hQ.k, hQ.h, hQ.c, hQ.g, hQ_v_60.M, hQ_v_60.m, hQ_v_60.b, hQ_v_60.r, hQ_v_60.l, hQ_v_60.k, hQ_v_60.h, hQ_v_60.c, hQ_v_60.g, hQ_v_70.M, hQ_v_70.m, hQ_v_70.b, hQ_v_70.r, hQ_v_70.l, hQ_v_70.k, hQ_v_70.h, hQ_v_70.c, hQ_v_70.g, hQ_v_80.M, hQ_v_80.m, hQ_v_80.b, hQ_v_80.r, hQ_v_80.l, hQ_v_80.k, hQ_v_80.h, hQ_v_80.c, hQ_v_80.g, hQ_v_88.M, hQ_v_88.m, hQ_v_88.b, hQ_v_88.r, hQ_v_88.l, hQ_v_88.k, hQ_v_88.h, hQ_v_88.c, hQ_v_88.g]); exact hc_X5_carry hQ_v_88 _ _ _) (fun _ _ hQ_v_96 => ?_)
        exact hQ_v_96
      · refine hh_let_cm (R := hh_Q) (by (try simp only [hQ.M, hQ.m, hQ.b, hQ.r, hQ.l, hQ.k, hQ.h, hQ.c, hQ.g]); exact hc_X5_end hQ _ _ _) (fun _ _ hQ_v_49 => ?_)
        exact hQ_v_49
  · exact hQ
set_option maxRecDepth 20000 in
theorem hc_X5_deliverTexts {v w : hh_M} (hQ : hh_Q v w) (r : Nat) (i : Nat) : hh_Q (hf_X5_deliverTexts v r i) (hf_X5_deliverTexts w r i) := by
  unfold hf_X5_deliverTexts
  refine hh_if_c (R := hh_Q) (by first | (simp only [hQ.M, hQ.m, hQ.b, hQ.r, hQ.l, hQ.k, hQ.h, hQ.c, hQ.g]; done) | exact Iff.rfl) (fun _ => ?_) (fun _ => ?_)
  · exact hQ
  · refine hh_let_cm (R := hh_Q) (by (try simp only [hQ.M, hQ.m, hQ.b, hQ.r, hQ.l, hQ.k, hQ.h, hQ.c, hQ.g]); exact hh_Q_up hQ) (fun _ _ hQ_v_18 => ?_)
    refine hh_let_cm (R := hh_Q) (by (try simp only [hQ.M, hQ.m, hQ.b, hQ.r, hQ.l, hQ.k, hQ.h, hQ.c, hQ.g, hQ_v_18.M, hQ_v_18.m, hQ_v_18.b, hQ_v_18.r, hQ_v_18.l, hQ_v_18.k, hQ_v_18.h, hQ_v_18.c, hQ_v_18.g]); exact hh_Q_up hQ_v_18) (fun _ _ hQ_v_23 => ?_)
    exact hQ_v_23
set_option maxRecDepth 20000 in
theorem hc_X5_handOver {v w : hh_M} (hQ : hh_Q v w) (r : Nat) (i : Nat) (g : Nat) (mast : Int32) : hh_Q (hf_X5_handOver v r i g mast) (hf_X5_handOver w r i g mast) := by
  unfold hf_X5_handOver
  refine hh_let_cm (R := hh_Q) (by (try simp only [hQ.M, hQ.m, hQ.b, hQ.r, hQ.l, hQ.k, hQ.h, hQ.c, hQ.g]); exact hh_Q_up hQ) (fun _ _ hQ_v_7 => ?_)
  refine hh_let_cm (R := hh_Q) ?_ (fun _ _ hQ_vj_41 => ?_)
  · refine hh_if_c (R := hh_Q) (by first | (simp only [hQ.M, hQ.m, hQ.b, hQ.r, hQ.l, hQ.k, hQ.h, hQ.c, hQ.g, hQ_v_7.M, hQ_v_7.m, hQ_v_7.b, hQ_v_7.r, hQ_v_7.l, hQ_v_7.k, hQ_v_7.h, hQ_v_7.c, hQ_v_7.g]; done) | exact Iff.rfl) (fun _ => ?_) (fun _ => ?_)
    · refine hh_if_c (R := hh_Q) (by first | (simp only [hQ.M, hQ.m, hQ.b, hQ.r, hQ.l, hQ.k, hQ.h, hQ.c, hQ.g, hQ_v_7.M, hQ_v_7.m, hQ_v_7.b, hQ_v_7.r, hQ_v_7.l, hQ_v_7.k, hQ_v_7.h, hQ_v_7.c, hQ_v_7.g]; done) | exact Iff.rfl) (fun _ => ?_) (fun _ => ?_)
      · exact hQ_v_7
      · refine hh_let_cm (R := hh_Q) (by (try simp only [hQ.M, hQ.m, hQ.b, hQ.r, hQ.l, hQ.k, hQ.h, hQ.c, hQ.g, hQ_v_7.M, hQ_v_7.m, hQ_v_7.b, hQ_v_7.r, hQ_v_7.l, hQ_v_7.k, hQ_v_7.h, hQ_v_7.c, hQ_v_7.g]); exact hh_Q_up hQ_v_7) (fun _ _ hQ_v_38 => ?_)
        exact hQ_v_38
    · exact hQ_v_7
  · refine hh_let_cm (R := hh_Q) (by (try simp only [hQ.M, hQ.m, hQ.b, hQ.r, hQ.l, hQ.k, hQ.h, hQ.c, hQ.g, hQ_v_7.M, hQ_v_7.m, hQ_v_7.b, hQ_v_7.r, hQ_v_7.l, hQ_v_7.k, hQ_v_7.h, hQ_v_7.c, hQ_v_7.g, hQ_vj_41.M, hQ_vj_41.m, hQ_vj_41.b, hQ_vj_41.r, hQ_vj_41.l, hQ_vj_41.k, hQ_vj_41.h, hQ_vj_41.c, hQ_vj_41.g]); exact hh_Q_up hQ_vj_41) (fun _ _ hQ_v_46 => ?_)
    refine hh_let_cm (R := hh_Q) (by (try simp only [hQ.M, hQ.m, hQ.b, hQ.r, hQ.l, hQ.k, hQ.h, hQ.c, hQ.g, hQ_v_7.M, hQ_v_7.m, hQ_v_7.b, hQ_v_7.r, hQ_v_7.l, hQ_v_7.k, hQ_v_7.h, hQ_v_7.c, hQ_v_7.g, hQ_vj_41.M, hQ_vj_41.m, hQ_vj_41.b, hQ_vj_41.r, hQ_vj_41.l, hQ_vj_41.k, hQ_vj_41.h, hQ_vj_41.c, hQ_vj_41.g, hQ_v_46.M, hQ_v_46.m, hQ_v_46.b, hQ_v_46.r, hQ_v_46.l, hQ_v_46.k, hQ_v_46.h, hQ_v_46.c, hQ_v_46.g]); exact hh_Q_up hQ_v_46) (fun _ _ hQ_v_54 => ?_)
    refine hh_let_cm (R := hh_Q) (by (try simp only [hQ.M, hQ.m, hQ.b, hQ.r, hQ.l, hQ.k, hQ.h, hQ.c, hQ.g, hQ_v_7.M, hQ_v_7.m, hQ_v_7.b, hQ_v_7.r, hQ_v_7.l, hQ_v_7.k, hQ_v_7.h, hQ_v_7.c, hQ_v_7.g, hQ_vj_41.M, hQ_vj_41.m, hQ_vj_41.b, hQ_vj_41.r, hQ_vj_41.l, hQ_vj_41.k, hQ_vj_41.h, hQ_vj_41.c, hQ_vj_41.g, hQ_v_46.M, hQ_v_46.m, hQ_v_46.b, hQ_v_46.r, hQ_v_46.l, hQ_v_46.k, hQ_v_46.h, hQ_v_46.c, hQ_v_46.g, hQ_v_54.M, hQ_v_54.m, hQ_v_54.b, hQ_v_54.r, hQ_v_54.l, hQ_v_54.k, hQ_v_54.h, hQ_v_54.c, hQ_v_54.g]); exact hh_Q_up hQ_v_54) (fun _ _ hQ_v_59 => ?_)
    refine hh_let_cm (R := hh_Q) (by (try simp only [hQ.M, hQ.m, hQ.b, hQ.r, hQ.l, hQ.k, hQ.h, hQ.c, hQ.g, hQ_v_7.M, hQ_v_7.m, hQ_v_7.b, hQ_v_7.r, hQ_v_7.l, hQ_v_7.k, hQ_v_7.h, hQ_v_7.c, hQ_v_7.g, hQ_vj_41.M, hQ_vj_41.m, hQ_vj_41.b, hQ_vj_41.r, hQ_vj_41.l, hQ_vj_41.k, hQ_vj_41.h, hQ_vj_41.c, hQ_vj_41.g, hQ_v_46.M, hQ_v_46.m, hQ_v_46.b, hQ_v_46.r, hQ_v_46.l, hQ_v_46.k, hQ_v_46.h, hQ_v_46.c, hQ_v_46.g, hQ_v_54.M, hQ_v_54.m, hQ_v_54.b, hQ_v_54.r, hQ_v_54.l, hQ_v_54.k, hQ_v_54.h, hQ_v_54.c, hQ_v_54.g, hQ_v_59.M, hQ_v_59.m, hQ_v_59.b, hQ_v_59.r, hQ_v_59.l, hQ_v_59.k, hQ_v_59.h, hQ_v_59.c, hQ_v_59.g]); exact hh_Q_up hQ_v_59) (fun _ _ hQ_v_74 => ?_)
    refine hh_let_cm (R := hh_Q) (by (try simp only [hQ.M, hQ.m, hQ.b, hQ.r, hQ.l, hQ.k, hQ.h, hQ.c, hQ.g, hQ_v_7.M, hQ_v_7.m, hQ_v_7.b, hQ_v_7.r, hQ_v_7.l, hQ_v_7.k, hQ_v_7.h, hQ_v_7.c, hQ_v_7.g, hQ_vj_41.M, hQ_vj_41.m, hQ_vj_41.b, hQ_vj_41.r, hQ_vj_41.l, hQ_vj_41.k, hQ_vj_41.h, hQ_vj_41.c, hQ_vj_41.g, hQ_v_46.M, hQ_v_46.m, hQ_v_46.b, hQ_v_46.r, hQ_v_46.l, hQ_v_46.k, hQ_v_46.h, hQ_v_46.c, hQ_v_46.g, hQ_v_54.M, hQ_v_54.m, hQ_v_54.b, hQ_v_54.r, hQ_v_54.l, hQ_v_54.k, hQ_v_54.h, hQ_v_54.c, hQ_v_54.g, hQ_v_59.M, hQ_v_59.m, hQ_v_59.b, hQ_v_59.r, hQ_v_59.l, hQ_v_59.k, hQ_v_59.h, hQ_v_59.c, hQ_v_59.g, hQ_v_74.M, hQ_v_74.m, hQ_v_74.b, hQ_v_74.r, hQ_v_74.l, hQ_v_74.k, hQ_v_74.h, hQ_v_74.c, hQ_v_74.g]); exact hh_Q_up hQ_v_74) (fun _ _ hQ_v_84 => ?_)
    refine hh_let_cm (R := hh_Q) (by (try simp only [hQ.M, hQ.m, hQ.b, hQ.r, hQ.l, hQ.k, hQ.h, hQ.c, hQ.g, hQ_v_7.M, hQ_v_7.m, hQ_v_7.b, hQ_v_7.r, hQ_v_7.l, hQ_v_7.k, hQ_v_7.h, hQ_v_7.c, hQ_v_7.g, hQ_vj_41.M, hQ_vj_41.m, hQ_vj_41.b, hQ_vj_41.r, hQ_vj_41.l, hQ_vj_41.k, hQ_vj_41.h, hQ_vj_41.c, hQ_vj_41.g, hQ_v_46.M, hQ_v_46.m, hQ_v_46.b, hQ_v_46.r, hQ_v_46.l, hQ_v_46.k, hQ_v_46.h, hQ_v_46.c, hQ_v_46.g, hQ_v_54.M, hQ_v_54.m, hQ_v_54.b, hQ_v_54.r, hQ_v_54.l, hQ_v_54.k, hQ_v_54.h, hQ_v_54.c, hQ_v_54.g, hQ_v_59.M, hQ_v_59.m, hQ_v_59.b, hQ_v_59.r, hQ_v_59.l, hQ_v_59.k, hQ_v_59.h, hQ_v_59.c, hQ_v_59.g, hQ_v_74.M, hQ_v_74.m, hQ_v_74.b, hQ_v_74.r, hQ_v_74.l, hQ_v_74.k, hQ_v_74.h, hQ_v_74.c, hQ_v_74.g, hQ_v_84.M, hQ_v_84.m, hQ_v_84.b, hQ_v_84.r, hQ_v_84.l, hQ_v_84.k, hQ_v_84.h, hQ_v_84.c, hQ_v_84.g]); exact hh_Q_up hQ_v_84) (fun _ _ hQ_v_87 => ?_)
    refine hh_let_cm (R := hh_Q) (by (try simp only [hQ.M, hQ.m, hQ.b, hQ.r, hQ.l, hQ.k, hQ.h, hQ.c, hQ.g, hQ_v_7.M, hQ_v_7.m, hQ_v_7.b, hQ_v_7.r, hQ_v_7.l, hQ_v_7.k, hQ_v_7.h, hQ_v_7.c, hQ_v_7.g, hQ_vj_41.M, hQ_vj_41.m, hQ_vj_41.b, hQ_vj_41.r, hQ_vj_41.l, hQ_vj_41.k, hQ_vj_41.h, hQ_vj_41.c, hQ_vj_41.g, hQ_v_46.M, hQ_v_46.m, hQ_v_46.b, hQ_v_46.r, hQ_v_46.l, hQ_v_46.k, hQ_v_46.h, hQ_v_46.c, hQ_v_46.g, hQ_v_54.M, hQ_v_54.m, hQ_v_54.b, hQ_v_54.r, hQ_v_54.l, hQ_v_54.k, hQ_v_54.h, hQ_v_54.c, hQ_v_54.g, hQ_v_59.M, hQ_v_59.m, hQ_v_59.b, hQ_v_59.r, hQ_v_59.l, hQ_v_59.k, hQ_v_59.h, hQ_v_59.c, hQ_v_59.g, hQ_v_74.M, hQ_v_74.m, hQ_v_74.b, hQ_v_74.r, hQ_v_74.l, hQ_v_74.k, hQ_v_74.h, hQ_v_74.c, hQ_v_74.g, hQ_v_84.M, hQ_v_84.m, hQ_v_84.b, hQ_v_84.r, hQ_v_84.l, hQ_v_84.k, hQ_v_84.h, hQ_v_84.c, hQ_v_84.g, hQ_v_87.M, hQ_v_87.m, hQ_v_87.b, hQ_v_87.r, hQ_v_87.l, hQ_v_87.k, hQ_v_87.h, hQ_v_87.c, hQ_v_87.g]); exact hh_Q_up hQ_v_87) (fun _ _ hQ_v_100 => ?_)
    exact hQ_v_100
set_option maxRecDepth 20000 in
theorem hc_X5_lookAtLeg {v w : hh_M} (hQ : hh_Q v w) (r : Nat) (i : Nat) (g : Nat) : hh_Q (hf_X5_lookAtLeg v r i g) (hf_X5_lookAtLeg w r i g) := by
  unfold hf_X5_lookAtLeg
  refine hh_if_c (R := hh_Q) (by first | (simp only [hQ.M, hQ.m, hQ.b, hQ.r, hQ.l, hQ.k, hQ.h, hQ.c, hQ.g]; done) | exact Iff.rfl) (fun _ => ?_) (fun _ => ?_)
  · refine hh_let_ci (R := hh_Q) (by first | (simp only [hQ.M, hQ.m, hQ.b, hQ.r, hQ.l, hQ.k, hQ.h, hQ.c, hQ.g, hc_X2_isUsed hQ]; done) | rfl) (fun _ => ?_)
    refine hh_if_c (R := hh_Q) (by first | (simp only [hQ.M, hQ.m, hQ.b, hQ.r, hQ.l, hQ.k, hQ.h, hQ.c, hQ.g]; done) | exact Iff.rfl) (fun _ => ?_) (fun _ => ?_)
    · exact hQ
    · refine hh_let_ci (R := hh_Q) (by first | (simp only [hQ.M, hQ.m, hQ.b, hQ.r, hQ.l, hQ.k, hQ.h, hQ.c, hQ.g]; done) | rfl) (fun _ => ?_)
      refine hh_let_ci (R := hh_Q) (by first | (simp only [hQ.M, hQ.m, hQ.b, hQ.r, hQ.l, hQ.k, hQ.h, hQ.c, hQ.g, hc_X5_candidateFor hQ]; done) | rfl) (fun _ => ?_)
      refine hh_let_ci (R := hh_Q) (by first | (simp only [hQ.M, hQ.m, hQ.b, hQ.r, hQ.l, hQ.k, hQ.h, hQ.c, hQ.g, hc_X5_isHeard hQ]; done) | rfl) (fun _ => ?_)
      refine hh_let_ci (R := hh_Q) (by first | (simp only [hQ.M, hQ.m, hQ.b, hQ.r, hQ.l, hQ.k, hQ.h, hQ.c, hQ.g, hc_X5_isMuchBetter hQ]; done) | rfl) (fun _ => ?_)
      refine hh_let_ci (R := hh_Q) ?_ (fun _ => ?_)
      · refine hh_if_c (R := (fun a b => a = b)) (by first | (simp only [hQ.M, hQ.m, hQ.b, hQ.r, hQ.l, hQ.k, hQ.h, hQ.c, hQ.g]; done) | exact Iff.rfl) (fun _ => ?_) (fun _ => ?_)
        · exact (by first | (simp only [hQ.M, hQ.m, hQ.b, hQ.r, hQ.l, hQ.k, hQ.h, hQ.c, hQ.g]; done) | rfl)
        · exact (by first | (simp only [hQ.M, hQ.m, hQ.b, hQ.r, hQ.l, hQ.k, hQ.h, hQ.c, hQ.g]; done) | rfl)
      · refine hh_let_cm (R := hh_Q) (by (try simp only [hQ.M, hQ.m, hQ.b, hQ.r, hQ.l, hQ.k, hQ.h, hQ.c, hQ.g]); exact hh_Q_up hQ) (fun _ _ hQ_v_75 => ?_)
        refine hh_let_ci (R := hh_Q) ?_ (fun _ => ?_)
        · refine hh_if_c (R := (fun a b => a = b)) (by first | (simp only [hQ.M, hQ.m, hQ.b, hQ.r, hQ.l, hQ.k, hQ.h, hQ.c, hQ.g, hQ_v_75.M, hQ_v_75.m, hQ_v_75.b, hQ_v_75.r, hQ_v_75.l, hQ_v_75.k, hQ_v_75.h, hQ_v_75.c, hQ_v_75.g]; done) | exact Iff.rfl) (fun _ => ?_) (fun _ => ?_)
          · refine hh_if_c (R := (fun a b => a = b)) (by first | (simp only [hQ.M, hQ.m, hQ.b, hQ.r, hQ.l, hQ.k, hQ.h, hQ.c, hQ.g, hQ_v_75.M, hQ_v_75.m, hQ_v_75.b, hQ_v_75.r, hQ_v_75.l, hQ_v_75.k, hQ_v_75.h, hQ_v_75.c, hQ_v_75.g]; done) | exact Iff.rfl) (fun _ => ?_) (fun _ => ?_)
            · exact (by first | (simp only [hQ.M, hQ.m, hQ.b, hQ.r, hQ.l, hQ.k, hQ.h, hQ.c, hQ.g, hQ_v_75.M, hQ_v_75.m, hQ_v_75.b, hQ_v_75.r, hQ_v_75.l, hQ_v_75.k, hQ_v_75.h, hQ_v_75.c, hQ_v_75.g]; done) | rfl)
            · refine hh_let_ci (R := (fun a b => a = b)) (by first | (simp only [hQ.M, hQ.m, hQ.b, hQ.r, hQ.l, hQ.k, hQ.h, hQ.c, hQ.g, hQ_v_75.M, hQ_v_75.m, hQ_v_75.b, hQ_v_75.r, hQ_v_75.l, hQ_v_75.k, hQ_v_75.h, hQ_v_75.c, hQ_v_75.g, hc_X5_isHeard hQ, hc_X5_isHeard hQ_v_75]; done) | rfl) (fun _ => ?_)
              refine hh_if_c (R := (fun a b => a = b)) (by first | (simp only [hQ.M, hQ.m, hQ.b, hQ.r, hQ.l, hQ.k, hQ.h, hQ.c, hQ.g, hQ_v_75.M, hQ_v_75.m, hQ_v_75.b, hQ_v_75.r, hQ_v_75.l, hQ_v_75.k, hQ_v_75.h, hQ_v_75.c, hQ_v_75.g]; done) | exact Iff.rfl) (fun _ => ?_) (fun _ => ?_)
              · exact (by first | (simp only [hQ.M, hQ.m, hQ.b, hQ.r, hQ.l, hQ.k, hQ.h, hQ.c, hQ.g, hQ_v_75.M, hQ_v_75.m, hQ_v_75.b, hQ_v_75.r, hQ_v_75.l, hQ_v_75.k, hQ_v_75.h, hQ_v_75.c, hQ_v_75.g]; done) | rfl)
              · exact (by first | (simp only [hQ.M, hQ.m, hQ.b, hQ.r, hQ.l, hQ.k, hQ.h, hQ.c, hQ.g, hQ_v_75.M, hQ_v_75.m, hQ_v_75.b, hQ_v_75.r, hQ_v_75.l, hQ_v_75.k, hQ_v_75.h, hQ_v_75.c, hQ_v_75.g]; done) | rfl)
          · exact (by first | (simp only [hQ.M, hQ.m, hQ.b, hQ.r, hQ.l, hQ.k, hQ.h, hQ.c, hQ.g, hQ_v_75.M, hQ_v_75.m, hQ_v_75.b, hQ_v_75.r, hQ_v_75.l, hQ_v_75.k, hQ_v_75.h, hQ_v_75.c, hQ_v_75.g]; done) | rfl)
        · refine hh_let_cm (R := hh_Q) ?_ (fun _ _ hQ_vj_151 => ?_)
          · refine hh_if_c (R := hh_Q) (by first | (simp only [hQ.M, hQ.m, hQ.b, hQ.r, hQ.l, hQ.k, hQ.h, hQ.c, hQ.g, hQ_v_75.M, hQ_v_75.m, hQ_v_75.b, hQ_v_75.r, hQ_v_75.l, hQ_v_75.k, hQ_v_75.h, hQ_v_75.c, hQ_v_75.g]; done) | exact Iff.rfl) (fun _ => ?_) (fun _ => ?_)
            · refine hh_if_c (R := hh_Q) (by first | (simp only [hQ.M, hQ.m, hQ.b, hQ.r, hQ.l, hQ.k, hQ.h, hQ.c, hQ.g, hQ_v_75.M, hQ_v_75.m, hQ_v_75.b, hQ_v_75.r, hQ_v_75.l, hQ_v_75.k, hQ_v_75.h, hQ_v_75.c, hQ_v_75.g]; done) | exact Iff.rfl) (fun _ => ?_) (fun _ => ?_)
              · refine hh_let_cm (R := hh_Q) (by (try simp only [hQ.M, hQ.m, hQ.b, hQ.r, hQ.l, hQ.k, hQ.h, hQ.c, hQ.g, hQ_v_75.M, hQ_v_75.m, hQ_v_75.b, hQ_v_75.r, hQ_v_75.l, hQ_v_75.k, hQ_v_75.h, hQ_v_75.c, hQ_v_75.g]); exact hh_Q_up hQ_v_75) (fun _ _ hQ_v_148 => ?_)
                exact hQ_v_148
              · exact hQ_v_75
            · refine hh_if_c (R := hh_Q) (by first | (simp only [hQ.M, hQ.m, hQ.b, hQ.r, hQ.l, hQ.k, hQ.h, hQ.c, hQ.g, hQ_v_75.M, hQ_v_75.m, hQ_v_75.b, hQ_v_75.r, hQ_v_75.l, hQ_v_75.k, hQ_v_75.h, hQ_v_75.c, hQ_v_75.g]; done) | exact Iff.rfl) (fun _ => ?_) (fun _ => ?_)
              · refine hh_let_cm (R := hh_Q) (by (try simp only [hQ.M, hQ.m, hQ.b, hQ.r, hQ.l, hQ.k, hQ.h, hQ.c, hQ.g, hQ_v_75.M, hQ_v_75.m, hQ_v_75.b, hQ_v_75.r, hQ_v_75.l, hQ_v_75.k, hQ_v_75.h, hQ_v_75.c, hQ_v_75.g]); exact hc_X5_handOver hQ_v_75 _ _ _ _) (fun _ _ hQ_v_130 => ?_)
                exact hQ_v_130
              · refine hh_if_c (R := hh_Q) (by first | (simp only [hQ.M, hQ.m, hQ.b, hQ.r, hQ.l, hQ.k, hQ.h, hQ.c, hQ.g, hQ_v_75.M, hQ_v_75.m, hQ_v_75.b, hQ_v_75.r, hQ_v_75.l, hQ_v_75.k, hQ_v_75.h, hQ_v_75.c, hQ_v_75.g]; done) | exact Iff.rfl) (fun _ => ?_) (fun _ => ?_)
                · refine hh_if_c (R := hh_Q) (by first | (simp only [hQ.M, hQ.m, hQ.b, hQ.r, hQ.l, hQ.k, hQ.h, hQ.c, hQ.g, hQ_v_75.M, hQ_v_75.m, hQ_v_75.b, hQ_v_75.r, hQ_v_75.l, hQ_v_75.k, hQ_v_75.h, hQ_v_75.c, hQ_v_75.g]; done) | exact Iff.rfl) (fun _ => ?_) (fun _ => ?_)
                  · refine hh_let_cm (R := hh_Q) (by (try simp only [hQ.M, hQ.m, hQ.b, hQ.r, hQ.l, hQ.k, hQ.h, hQ.c, hQ.g, hQ_v_75.M, hQ_v_75.m, hQ_v_75.b, hQ_v_75.r, hQ_v_75.l, hQ_v_75.k, hQ_v_75.h, hQ_v_75.c, hQ_v_75.g]); exact hh_Q_up hQ_v_75) (fun _ _ hQ_v_148 => ?_)
                    exact hQ_v_148
                  · exact hQ_v_75
                · refine hh_let_cm (R := hh_Q) (by (try simp only [hQ.M, hQ.m, hQ.b, hQ.r, hQ.l, hQ.k, hQ.h, hQ.c, hQ.g, hQ_v_75.M, hQ_v_75.m, hQ_v_75.b, hQ_v_75.r, hQ_v_75.l, hQ_v_75.k, hQ_v_75.h, hQ_v_75.c, hQ_v_75.g]); exact hc_X5_handOver hQ_v_75 _ _ _ _) (fun _ _ hQ_v_130 => ?_)
                  exact hQ_v_130
          · refine hh_let_ci (R := hh_Q) (by first | (simp only [hQ.M, hQ.m, hQ.b, hQ.r, hQ.l, hQ.k, hQ.h, hQ.c, hQ.g, hQ_v_75.M, hQ_v_75.m, hQ_v_75.b, hQ_v_75.r, hQ_v_75.l, hQ_v_75.k, hQ_v_75.h, hQ_v_75.c, hQ_v_75.g, hQ_vj_151.M, hQ_vj_151.m, hQ_vj_151.b, hQ_vj_151.r, hQ_vj_151.l, hQ_vj_151.k, hQ_vj_151.h, hQ_vj_151.c, hQ_vj_151.g, hc_X5_isHeard hQ, hc_X5_isHeard hQ_v_75, hc_X5_isHeard hQ_vj_151]; done) | rfl) (fun _ => ?_)
            refine hh_let_cm (R := hh_Q) ?_ (fun _ _ hQ_vj_168 => ?_)
            · refine hh_if_c (R := hh_Q) (by first | (simp only [hQ.M, hQ.m, hQ.b, hQ.r, hQ.l, hQ.k, hQ.h, hQ.c, hQ.g, hQ_v_75.M, hQ_v_75.m, hQ_v_75.b, hQ_v_75.r, hQ_v_75.l, hQ_v_75.k, hQ_v_75.h, hQ_v_75.c, hQ_v_75.g, hQ_vj_151.M, hQ_vj_151.m, hQ_vj_151.b, hQ_vj_151.r, hQ_vj_151.l, hQ_vj_151.k, hQ_vj_151.h, hQ_vj_151.c, hQ_vj_151.g]; done) | exact Iff.rfl) (fun _ => ?_) (fun _ => ?_)
              · exact hQ_vj_151
              · refine hh_let_cm (R := hh_Q) (by (try simp only [hQ.M, hQ.m, hQ.b, hQ.r, hQ.l, hQ.k, hQ.h, hQ.c, hQ.g, hQ_v_75.M, hQ_v_75.m, hQ_v_75.b, hQ_v_75.r, hQ_v_75.l, hQ_v_75.k, hQ_v_75.h, hQ_v_75.c, hQ_v_75.g, hQ_vj_151.M, hQ_vj_151.m, hQ_vj_151.b, hQ_vj_151.r, hQ_vj_151.l, hQ_vj_151.k, hQ_vj_151.h, hQ_vj_151.c, hQ_vj_151.g]); exact hh_Q_up hQ_vj_151) (fun _ _ hQ_v_165 => ?_)
                exact hQ_v_165
            · refine hh_if_c (R := hh_Q) (by first | (simp only [hQ.M, hQ.m, hQ.b, hQ.r, hQ.l, hQ.k, hQ.h, hQ.c, hQ.g, hQ_v_75.M, hQ_v_75.m, hQ_v_75.b, hQ_v_75.r, hQ_v_75.l, hQ_v_75.k, hQ_v_75.h, hQ_v_75.c, hQ_v_75.g, hQ_vj_151.M, hQ_vj_151.m, hQ_vj_151.b, hQ_vj_151.r, hQ_vj_151.l, hQ_vj_151.k, hQ_vj_151.h, hQ_vj_151.c, hQ_vj_151.g, hQ_vj_168.M, hQ_vj_168.m, hQ_vj_168.b, hQ_vj_168.r, hQ_vj_168.l, hQ_vj_168.k, hQ_vj_168.h, hQ_vj_168.c, hQ_vj_168.g]; done) | exact Iff.rfl) (fun _ => ?_) (fun _ => ?_)
              · exact hQ_vj_168
              · refine hh_let_cm (R := hh_Q) (by (try simp only [hQ.M, hQ.m, hQ.b, hQ.r, hQ.l, hQ.k, hQ.h, hQ.c, hQ.g, hQ_v_75.M, hQ_v_75.m, hQ_v_75.b, hQ_v_75.r, hQ_v_75.l, hQ_v_75.k, hQ_v_75.h, hQ_v_75.c, hQ_v_75.g, hQ_vj_151.M, hQ_vj_151.m, hQ_vj_151.b, hQ_vj_151.r, hQ_vj_151.l, hQ_vj_151.k, hQ_vj_151.h, hQ_vj_151.c, hQ_vj_151.g, hQ_vj_168.M, hQ_vj_168.m, hQ_vj_168.b, hQ_vj_168.r, hQ_vj_168.l, hQ_vj_168.k, hQ_vj_168.h, hQ_vj_168.c, hQ_vj_168.g]); exact hc_X5_end hQ_vj_168 _ _ _) (fun _ _ hQ_v_179 => ?_)
                exact hQ_v_179
  · exact hQ
set_option maxRecDepth 20000 in
theorem hcl_X5_second_12 {v w : hh_M} (hQ : hh_Q v w) (r : Nat) (i : Nat) : hh_Q (hl_X5_second_12 r i v) (hl_X5_second_12 r i w) := by
  unfold hl_X5_second_12
  refine hh_let_cm (R := hh_Q) (by (try simp only [hQ.M, hQ.m, hQ.b, hQ.r, hQ.l, hQ.k, hQ.h, hQ.c, hQ.g]); exact hc_X1_move hQ _ _) (fun _ _ hQ_v_26 => ?_)
  exact hQ_v_26
set_option maxRecDepth 20000 in
theorem hcl_X5_second_37 {v w : hh_M} (hQ : hh_Q v w) (r : Nat) (i : Nat) : hh_Q (hl_X5_second_37 r i v) (hl_X5_second_37 r i w) := by
  unfold hl_X5_second_37
  refine hh_let_ci (R := hh_Q) (by first | (simp only [hQ.M, hQ.m, hQ.b, hQ.r, hQ.l, hQ.k, hQ.h, hQ.c, hQ.g, hc_X1_isIdle hQ]; done) | rfl) (fun _ => ?_)
  refine hh_if_c (R := hh_Q) (by first | (simp only [hQ.M, hQ.m, hQ.b, hQ.r, hQ.l, hQ.k, hQ.h, hQ.c, hQ.g]; done) | exact Iff.rfl) (fun _ => ?_) (fun _ => ?_)
  · exact hQ
  · refine hh_let_cm (R := hh_Q) (by (try simp only [hQ.M, hQ.m, hQ.b, hQ.r, hQ.l, hQ.k, hQ.h, hQ.c, hQ.g]); exact hc_X5_chooseMast hQ _ _) (fun _ _ hQ_v_64 => ?_)
    refine hh_let_cm (R := hh_Q) (by (try simp only [hQ.M, hQ.m, hQ.b, hQ.r, hQ.l, hQ.k, hQ.h, hQ.c, hQ.g, hQ_v_64.M, hQ_v_64.m, hQ_v_64.b, hQ_v_64.r, hQ_v_64.l, hQ_v_64.k, hQ_v_64.h, hQ_v_64.c, hQ_v_64.g]); exact hc_X5_tellArea hQ_v_64 _ _) (fun _ _ hQ_v_74 => ?_)
    exact hQ_v_74
set_option maxRecDepth 20000 in
theorem hcl_X5_second_85 {v w : hh_M} (hQ : hh_Q v w) (r : Nat) (i : Nat) : hh_Q (hl_X5_second_85 r i v) (hl_X5_second_85 r i w) := by
  unfold hl_X5_second_85
  refine hh_let_cm (R := hh_Q) (by (try simp only [hQ.M, hQ.m, hQ.b, hQ.r, hQ.l, hQ.k, hQ.h, hQ.c, hQ.g]); exact hc_X5_lookAtLeg hQ _ _ _) (fun _ _ hQ_v_109 => ?_)
  refine hh_let_cm (R := hh_Q) (by (try simp only [hQ.M, hQ.m, hQ.b, hQ.r, hQ.l, hQ.k, hQ.h, hQ.c, hQ.g, hQ_v_109.M, hQ_v_109.m, hQ_v_109.b, hQ_v_109.r, hQ_v_109.l, hQ_v_109.k, hQ_v_109.h, hQ_v_109.c, hQ_v_109.g]); exact hc_X5_lookAtLeg hQ_v_109 _ _ _) (fun _ _ hQ_v_128 => ?_)
  exact hQ_v_128
set_option maxRecDepth 20000 in
theorem hcl_X5_second_139 {v w : hh_M} (hQ : hh_Q v w) (r : Nat) (i : Nat) : hh_Q (hl_X5_second_139 r i v) (hl_X5_second_139 r i w) := by
  unfold hl_X5_second_139
  refine hh_let_cm (R := hh_Q) (by (try simp only [hQ.M, hQ.m, hQ.b, hQ.r, hQ.l, hQ.k, hQ.h, hQ.c, hQ.g]); exact hc_X5_charge hQ _ _) (fun _ _ hQ_v_154 => ?_)
  exact hQ_v_154
set_option maxRecDepth 20000 in
theorem hcl_X5_second_165 {v w : hh_M} (hQ : hh_Q v w) (r : Nat) (i : Nat) : hh_Q (hl_X5_second_165 r i v) (hl_X5_second_165 r i w) := by
  unfold hl_X5_second_165
  refine hh_let_cm (R := hh_Q) (by (try simp only [hQ.M, hQ.m, hQ.b, hQ.r, hQ.l, hQ.k, hQ.h, hQ.c, hQ.g]); exact hc_X5_deliverTexts hQ _ _) (fun _ _ hQ_v_180 => ?_)
  exact hQ_v_180
set_option maxRecDepth 20000 in
theorem hc_X5_second {v w : hh_M} (hQ : hh_Q v w) (r : Nat) : hh_Q (hf_X5_second v r) (hf_X5_second w r) := by
  unfold hf_X5_second
  refine hh_let_cm (R := hh_Q) (by (try simp only [hQ.M, hQ.m, hQ.b, hQ.r, hQ.l, hQ.k, hQ.h, hQ.c, hQ.g]); exact hh_Q_up hQ) (fun _ _ hQ_v_7 => ?_)
  refine hh_let_cm (R := hh_Q) (by (try simp only [hQ.M, hQ.m, hQ.b, hQ.r, hQ.l, hQ.k, hQ.h, hQ.c, hQ.g, hQ_v_7.M, hQ_v_7.m, hQ_v_7.b, hQ_v_7.r, hQ_v_7.l, hQ_v_7.k, hQ_v_7.h, hQ_v_7.c, hQ_v_7.g]); exact hh_fld_cm hQ_v_7 (fun i x y h => hcl_X5_second_12 h _ i)) (fun _ _ hQ_w_12 => ?_)
  refine hh_let_cm (R := hh_Q) (by (try simp only [hQ.M, hQ.m, hQ.b, hQ.r, hQ.l, hQ.k, hQ.h, hQ.c, hQ.g, hQ_v_7.M, hQ_v_7.m, hQ_v_7.b, hQ_v_7.r, hQ_v_7.l, hQ_v_7.k, hQ_v_7.h, hQ_v_7.c, hQ_v_7.g, hQ_w_12.M, hQ_w_12.m, hQ_w_12.b, hQ_w_12.r, hQ_w_12.l, hQ_w_12.k, hQ_w_12.h, hQ_w_12.c, hQ_w_12.g]); exact hh_fld_cm hQ_w_12 (fun i x y h => hcl_X5_second_37 h _ i)) (fun _ _ hQ_w_37 => ?_)
  refine hh_let_cm (R := hh_Q) (by (try simp only [hQ.M, hQ.m, hQ.b, hQ.r, hQ.l, hQ.k, hQ.h, hQ.c, hQ.g, hQ_v_7.M, hQ_v_7.m, hQ_v_7.b, hQ_v_7.r, hQ_v_7.l, hQ_v_7.k, hQ_v_7.h, hQ_v_7.c, hQ_v_7.g, hQ_w_12.M, hQ_w_12.m, hQ_w_12.b, hQ_w_12.r, hQ_w_12.l, hQ_w_12.k, hQ_w_12.h, hQ_w_12.c, hQ_w_12.g, hQ_w_37.M, hQ_w_37.m, hQ_w_37.b, hQ_w_37.r, hQ_w_37.l, hQ_w_37.k, hQ_w_37.h, hQ_w_37.c, hQ_w_37.g]); exact hh_fld_cm hQ_w_37 (fun i x y h => hcl_X5_second_85 h _ i)) (fun _ _ hQ_w_85 => ?_)
  refine hh_let_cm (R := hh_Q) (by (try simp only [hQ.M, hQ.m, hQ.b, hQ.r, hQ.l, hQ.k, hQ.h, hQ.c, hQ.g, hQ_v_7.M, hQ_v_7.m, hQ_v_7.b, hQ_v_7.r, hQ_v_7.l, hQ_v_7.k, hQ_v_7.h, hQ_v_7.c, hQ_v_7.g, hQ_w_12.M, hQ_w_12.m, hQ_w_12.b, hQ_w_12.r, hQ_w_12.l, hQ_w_12.k, hQ_w_12.h, hQ_w_12.c, hQ_w_12.g, hQ_w_37.M, hQ_w_37.m, hQ_w_37.b, hQ_w_37.r, hQ_w_37.l, hQ_w_37.k, hQ_w_37.h, hQ_w_37.c, hQ_w_37.g, hQ_w_85.M, hQ_w_85.m, hQ_w_85.b, hQ_w_85.r, hQ_w_85.l, hQ_w_85.k, hQ_w_85.h, hQ_w_85.c, hQ_w_85.g]); exact hh_fld_cm hQ_w_85 (fun i x y h => hcl_X5_second_139 h _ i)) (fun _ _ hQ_w_139 => ?_)
  refine hh_let_cm (R := hh_Q) (by (try simp only [hQ.M, hQ.m, hQ.b, hQ.r, hQ.l, hQ.k, hQ.h, hQ.c, hQ.g, hQ_v_7.M, hQ_v_7.m, hQ_v_7.b, hQ_v_7.r, hQ_v_7.l, hQ_v_7.k, hQ_v_7.h, hQ_v_7.c, hQ_v_7.g, hQ_w_12.M, hQ_w_12.m, hQ_w_12.b, hQ_w_12.r, hQ_w_12.l, hQ_w_12.k, hQ_w_12.h, hQ_w_12.c, hQ_w_12.g, hQ_w_37.M, hQ_w_37.m, hQ_w_37.b, hQ_w_37.r, hQ_w_37.l, hQ_w_37.k, hQ_w_37.h, hQ_w_37.c, hQ_w_37.g, hQ_w_85.M, hQ_w_85.m, hQ_w_85.b, hQ_w_85.r, hQ_w_85.l, hQ_w_85.k, hQ_w_85.h, hQ_w_85.c, hQ_w_85.g, hQ_w_139.M, hQ_w_139.m, hQ_w_139.b, hQ_w_139.r, hQ_w_139.l, hQ_w_139.k, hQ_w_139.h, hQ_w_139.c, hQ_w_139.g]); exact hh_fld_cm hQ_w_139 (fun i x y h => hcl_X5_second_165 h _ i)) (fun _ _ hQ_w_165 => ?_)
  exact hQ_w_165
