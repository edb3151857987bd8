/-! what the road itself answers hangs on its own cells alone -/
def hq_B (v w : hh_M) : Prop := ∀ j, (j < 5 ∨ (8 ≤ j ∧ j < 105)) → v j = w j
section HQB
variable {v w : hh_M}
theorem hq_B.of {n c : Nat} (hn : n ≤ 8) (hc : c ≤ 24) (h : hh_F (hq_P9 n c) v w) : hq_B v w := fun j hj => by
  funext k
  refine (h j k (fun z => ?_)).symm
  unfold hq_P9 hh_Pn at z
  omega
theorem hq_B.M (h : hq_B v w) : v 1 = w 1 := h 1 (by omega)
theorem hq_B.m (h : hq_B v w) {i : Nat} (hi : i < 6) : v (hh_mI i) = w (hh_mI i) := h _ (by unfold hh_mI; omega)
theorem hq_B.b (h : hq_B v w) {i : Nat} (hi : i < 6) : v (hh_bI i) = w (hh_bI i) := h _ (by unfold hh_bI; omega)
theorem hq_B.r (h : hq_B v w) : v (hh_rI 0) = w (hh_rI 0) := h _ (by unfold hh_rI; omega)
theorem hq_B.l (h : hq_B v w) : v (hh_lI 0) = w (hh_lI 0) := h _ (by unfold hh_lI; omega)
theorem hq_B.k (h : hq_B v w) : v (hh_kI 0) = w (hh_kI 0) := h _ (by unfold hh_kI; omega)
theorem hq_B.h (h : hq_B v w) {i : Nat} (hi : i < 8) : v (hh_hI 0 i) = w (hh_hI 0 i) := h _ (by unfold hh_hI; omega)
theorem hq_B.c (h : hq_B v w) {i : Nat} (hi : i < 24) : v (hh_cI 0 i) = w (hh_cI 0 i) := h _ (by unfold hh_cI; omega)
theorem hq_B.g (h : hq_B v w) {i g : Nat} (hi : i < 24) (hg : g < 2) : v (hh_gI 0 i g) = w (hh_gI 0 i g) := h _ (by unfold hh_gI; omega)
theorem hh_fld_cg {σ : Type} {f g : Nat → σ → σ} {n : Nat} {s : σ} (h : ∀ i, i < n → ∀ z, f i z = g i z) : hh_fld f n s = hh_fld g n s := by
  induction n with
  | zero => rfl
  | succ n ih =>
    show f n (hh_fld f n s) = g n (hh_fld g n s)
    rw [ih (fun i hi => h i (Nat.lt_succ_of_lt hi)), h n (Nat.lt_succ_self n)]
/-- a fact that a fold keeps -/
theorem hh_fld_in {σ : Type} {f : Nat → σ → σ} {I : Nat → σ → Prop} {n : Nat} {s : σ} (h0 : I 0 s) (h : ∀ i z, i < n → I i z → I (i + 1) (f i z)) : I n (hh_fld f n s) := by
  induction n with
  | zero => exact h0
  | succ n ih => exact h n _ (Nat.lt_succ_self n) (ih (fun i z hi => h i z (Nat.lt_succ_of_lt hi)))
variable {nm : Nat} {nh nc : Nat → Nat}
theorem hq_quality (hB : hq_B v w) {ma pl : Int32} (h1 : vp_in ma 6) : hf_X5_qualityAt v 0 ma pl = hf_X5_qualityAt w 0 ma pl := by
  unfold hf_X5_qualityAt
  rw [hB.b (hh_lt h1), hB.l]
theorem hq_bestM (hB : hq_B v w) (hM : v 1 2 = nI nm) (h6 : nm ≤ 6) (pl : Int32) : hf_X5_bestHeardAt v 0 pl = hf_X5_bestHeardAt w 0 pl := by
  have hN : (v 1 2).toNatClampNeg = nm := by rw [hM]; exact nI_clamp (by omega)
  have hN2 : (w 1 2).toNatClampNeg = nm := by rw [← hB.M]; exact hN
  unfold hf_X5_bestHeardAt
  rw [hN, hN2]
  rw [hh_fld_cg (g := fun (i9 : Nat) (z : Int32 × Int32) => hl_X5_bestHeardAt_7 w 0 pl i9 z.1 z.2) (fun i hi z => ?_)]
  unfold hl_X5_bestHeardAt_7
  rw [hq_quality hB (vp_in_nI (by omega) (by decide))]
theorem hq_best (hB : hq_B v w) (hT : hh_T nm nh nc v) (pl : Int32) : hf_X5_bestHeardAt v 0 pl = hf_X5_bestHeardAt w 0 pl := hq_bestM hB (hh_T_M hT) hT.1 pl
theorem hq_best_rg (hT : hh_T nm nh nc v) (r : Nat) (pl : Int32) : -1 ≤ hf_X5_bestHeardAt v r pl ∧ hf_X5_bestHeardAt v r pl < nI nm := by
  have hN : (v 1 2).toNatClampNeg = nm := by rw [hh_T_M hT]; exact nI_clamp (by have := hT.1; omega)
  have h6 := hT.1
  unfold hf_X5_bestHeardAt
  simp only [hh_let]
  rw [hN]
  refine hh_fld_in (I := fun _ (z : Int32 × Int32) => -1 ≤ z.1 ∧ z.1 < nI nm) (hh_rg0 (by omega)) (fun i z hi hz => ?_)
  unfold hl_X5_bestHeardAt_7
  simp only [hh_let]
  split
  · exact hz
  · exact hh_rg hi (by omega)
theorem hq_heardWell (hB : hq_B v w) (hT : hh_T nm nh nc v) : hf_X5_placesHeardWell v 0 = hf_X5_placesHeardWell w 0 := by
  unfold hf_X5_placesHeardWell
  rw [hh_fld_cg (g := fun (i9 : Nat) (z : Int32) => hl_X5_placesHeardWell_4 w 0 i9 z) (fun i hi z => ?_)]
  unfold hl_X5_placesHeardWell_4
  have hr := hq_best_rg hT 0 (nI i)
  rw [hq_best hB hT] at hr ⊢
  generalize hf_X5_bestHeardAt w 0 (nI i) = q at hr ⊢
  simp only [hh_let]
  by_cases c : q = -1
  · rw [if_pos c, if_pos c]
  · rw [if_neg c, if_neg c, hq_quality hB (hh_in hr c (by have := hT.1; omega) (by decide))]
theorem hq_callsThat (hB : hq_B v w) (hT : hh_T nm nh nc v) (e : Int32) : hf_X5_callsThat v 0 e = hf_X5_callsThat w 0 e := by
  have hN : (v (hh_rI 0) 6).toNatClampNeg = nc 0 := by rw [hh_T_r6 hT 0]; exact nI_clamp (by have := hT.2.2.1 0; omega)
  unfold hf_X5_callsThat
  rw [← hB.r, hN]
  rw [hh_fld_cg (g := fun (i9 : Nat) (z : Int32) => hl_X5_callsThat_4 w 0 e i9 z) (fun i hi z => ?_)]
  unfold hl_X5_callsThat_4
  rw [hB.c (by have := hT.2.2.1 0; omega)]
theorem hq_fact0 (hB : hq_B v w) {i : Nat} (hi : i < 24) (wh : Int32) : hf_X0_fact v 0 i wh = hf_X0_fact w 0 i wh := by
  unfold hf_X0_fact
  rw [hB.c hi, hB.g hi (by decide : 0 < 2), hB.g hi (by decide : 1 < 2)]
theorem hq_fact1 (hB : hq_B v w) {i : Nat} (hi : i < 8) (wh : Int32) : hf_X1_fact v 0 i wh = hf_X1_fact w 0 i wh := by
  unfold hf_X1_fact
  rw [hB.h hi]
theorem hq_fact3 (hB : hq_B v w) {i : Nat} (hi : i < 6) (wh : Int32) : hf_X3_fact v i wh = hf_X3_fact w i wh := by
  unfold hf_X3_fact
  rw [hB.m hi]
theorem hq_sumOfCalls (hB : hq_B v w) (hT : hh_T nm nh nc v) (e : Int32) : hf_X5_sumOfCalls v 0 e = hf_X5_sumOfCalls w 0 e := by
  have hN : (v (hh_rI 0) 6).toNatClampNeg = nc 0 := by rw [hh_T_r6 hT 0]; exact nI_clamp (by have := hT.2.2.1 0; omega)
  unfold hf_X5_sumOfCalls
  rw [← hB.r, hN]
  rw [hh_fld_cg (g := fun (i9 : Nat) (z : Int32) => hl_X5_sumOfCalls_4 w 0 e i9 z) (fun i hi z => ?_)]
  unfold hl_X5_sumOfCalls_4
  rw [hq_fact0 hB (by have := hT.2.2.1 0; omega)]
theorem hq_sumOfHandsets (hB : hq_B v w) (hT : hh_T nm nh nc v) (e : Int32) : hf_X5_sumOfHandsets v 0 e = hf_X5_sumOfHandsets w 0 e := by
  have hN : (v (hh_rI 0) 5).toNatClampNeg = nh 0 := by rw [hh_T_r5 hT 0]; exact nI_clamp (by have := hT.2.1 0; omega)
  unfold hf_X5_sumOfHandsets
  rw [← hB.r, hN]
  rw [hh_fld_cg (g := fun (i9 : Nat) (z : Int32) => hl_X5_sumOfHandsets_4 w 0 e i9 z) (fun i hi z => ?_)]
  unfold hl_X5_sumOfHandsets_4
  rw [hq_fact1 hB (by have := hT.2.1 0; omega)]
theorem hq_campersOn (hB : hq_B v w) (hT : hh_T nm nh nc v) (e : Int32) : hf_X5_campersOn v 0 e = hf_X5_campersOn w 0 e := by
  have hN : (v (hh_rI 0) 5).toNatClampNeg = nh 0 := by rw [hh_T_r5 hT 0]; exact nI_clamp (by have := hT.2.1 0; omega)
  unfold hf_X5_campersOn
  rw [← hB.r, hN]
  rw [hh_fld_cg (g := fun (i9 : Nat) (z : Int32) => hl_X5_campersOn_4 w 0 e i9 z) (fun i hi z => ?_)]
  unfold hl_X5_campersOn_4 hf_X1_isIdle
  rw [hB.h (by have := hT.2.1 0; omega)]
theorem hq_isInArea (hB : hq_B v w) (hT : hh_T nm nh nc v) {i : Nat} (hi : i < 8) (ar : Int32) : hf_X5_isInArea v 0 i ar = hf_X5_isInArea w 0 i ar := by
  unfold hf_X5_isInArea
  have hr := hh_T_h5 hT 0 hi
  rw [hB.h hi] at hr ⊢
  by_cases c : w (hh_hI 0 i) 5 = -1
  · rw [if_pos c, if_pos c]
  · rw [if_neg c, if_neg c, hB.m (hh_lt (hh_in hr c (by have := hT.1; omega) (by decide : 6 < 2 ^ 31)))]
theorem hq_toBeFound (hB : hq_B v w) (hT : hh_T nm nh nc v) : hf_X5_handsetsToBeFound v 0 = hf_X5_handsetsToBeFound w 0 := by
  have hN : (v (hh_rI 0) 5).toNatClampNeg = nh 0 := by rw [hh_T_r5 hT 0]; exact nI_clamp (by have := hT.2.1 0; omega)
  unfold hf_X5_handsetsToBeFound
  rw [← hB.r, hN]
  rw [hh_fld_cg (g := fun (i9 : Nat) (z : Int32) => hl_X5_handsetsToBeFound_4 w 0 i9 z) (fun i hi z => ?_)]
  have hi8 : i < 8 := by have := hT.2.1 0; omega
  unfold hl_X5_handsetsToBeFound_4 hf_X5_wouldBeFound
  simp only [hq_isInArea hB hT hi8, hB.h hi8]
theorem hq_many (hB : hq_B v w) (hT : hh_T nm nh nc v) (wh : Int32) : hf_X7_many v wh = hf_X7_many w wh := by
  unfold hf_X7_many
  simp only [hq_callsThat hB hT, hq_sumOfCalls hB hT, hq_sumOfHandsets hB hT, hq_toBeFound hB hT, hq_heardWell hB hT, hB.r, hB.M]
theorem hq_ofMast (hB : hq_B v w) (hT : hh_T nm nh nc v) {ma : Int32} (hm : vp_in ma 6) (wh : Int32) : hf_X7_ofMast v ma wh = hf_X7_ofMast w ma wh := by
  unfold hf_X7_ofMast
  simp only [hq_campersOn hB hT, hq_fact3 hB (hh_lt hm), hB.l, hB.k]
theorem hq_ofHandset (hB : hq_B v w) {ha : Int32} (h : vp_in ha 8) (wh : Int32) : hf_X7_ofHandset v ha wh = hf_X7_ofHandset w ha wh := by
  unfold hf_X7_ofHandset
  simp only [hq_fact1 hB (hh_lt h)]
theorem hq_ofCall (hB : hq_B v w) {ca : Int32} (h : vp_in ca 24) (wh : Int32) : hf_X7_ofCall v ca wh = hf_X7_ofCall w ca wh := by
  unfold hf_X7_ofCall
  simp only [hq_fact0 hB (hh_lt h)]
theorem hq_qual7 (hB : hq_B v w) {ma pl : Int32} (h : vp_in ma 6) : hf_X7_quality v ma pl = hf_X7_quality w ma pl := by
  unfold hf_X7_quality
  simp only [hq_quality hB h]
theorem hq_best7 (hB : hq_B v w) (hM : v 1 2 = nI nm) (h6 : nm ≤ 6) (pl : Int32) : hf_X7_best v pl = hf_X7_best w pl := by
  unfold hf_X7_best
  simp only [hq_bestM hB hM h6]
end HQB
