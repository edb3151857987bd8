/-! the counters as one calls -/
section HMC
variable {T K : Nat} {u v w : hh_M}
def hm_pF (a : Int) (v w : hh_M) : Prop := hh_F (fun j k => j = 20 ∧ k = 9) v w ∧ (v (hh_rI 0) 9).toInt ≤ (w (hh_rI 0) 9).toInt ∧ (w (hh_rI 0) 9).toInt ≤ (v (hh_rI 0) 9).toInt + a
theorem hm_one {z : Int32} {i : Nat} (h : 0 ≤ z.toInt ∧ z.toInt ≤ i) (hi : i ≤ 1000) : 0 ≤ (z + 1).toInt ∧ (z + 1).toInt ≤ ((i + 1 : Nat) : Int) := by
  have one : (1 : Int32).toInt = 1 := rfl
  have p : (z + 1).toInt = z.toInt + 1 := (hh_add (by rw [one]; omega)).trans (by rw [one])
  omega
theorem hm_awake (hM : (v 1 2).toNatClampNeg ≤ 6) : 0 ≤ (hf_X4_awake v).toInt ∧ (hf_X4_awake v).toInt ≤ 6 := by
  unfold hf_X4_awake
  have hf := hh_fld_in (f := fun (i9 : Nat) (z : Int32) => hl_X4_awake_4 v i9 z) (n := (v 1 2).toNatClampNeg) (s := 0) (I := fun i (z : Int32) => 0 ≤ z.toInt ∧ z.toInt ≤ i) (by decide) (fun i z hi hz => by
    have h1 := hm_one hz (by omega)
    show 0 ≤ (hl_X4_awake_4 v i z).toInt ∧ (hl_X4_awake_4 v i z).toInt ≤ ((i + 1 : Nat) : Int)
    unfold hl_X4_awake_4
    refine iteInduction (motive := fun z : Int32 => 0 ≤ z.toInt ∧ z.toInt ≤ ((i + 1 : Nat) : Int)) (fun _ => by omega) (fun _ => ?_)
    exact hh_let_p (A := fun z : Int32 => 0 ≤ z.toInt ∧ z.toInt ≤ ((i + 1 : Nat) : Int)) (P := fun z : Int32 => 0 ≤ z.toInt ∧ z.toInt ≤ ((i + 1 : Nat) : Int)) h1 (fun _ h => h))
  refine hh_let_p (A := fun z : Int32 => 0 ≤ z.toInt ∧ z.toInt ≤ ((v 1 2).toNatClampNeg : Int)) (P := fun z : Int32 => 0 ≤ z.toInt ∧ z.toInt ≤ 6) hf (fun z h => by omega)
theorem hm_awakeIn (hM : (v 1 2).toNatClampNeg ≤ 6) (ar : Int32) : 0 ≤ (hf_X4_awakeInArea v ar).toInt ∧ (hf_X4_awakeInArea v ar).toInt ≤ 6 := by
  unfold hf_X4_awakeInArea
  have hf := hh_fld_in (f := fun (i9 : Nat) (z : Int32) => hl_X4_awakeInArea_4 v ar i9 z) (n := (v 1 2).toNatClampNeg) (s := 0) (I := fun i (z : Int32) => 0 ≤ z.toInt ∧ z.toInt ≤ i) (by decide) (fun i z hi hz => by
    have h1 := hm_one hz (by omega)
    show 0 ≤ (hl_X4_awakeInArea_4 v ar i z).toInt ∧ (hl_X4_awakeInArea_4 v ar i z).toInt ≤ ((i + 1 : Nat) : Int)
    unfold hl_X4_awakeInArea_4
    refine iteInduction (motive := fun z : Int32 => 0 ≤ z.toInt ∧ z.toInt ≤ ((i + 1 : Nat) : Int)) (fun _ => by omega) (fun _ => ?_)
    refine iteInduction (motive := fun z : Int32 => 0 ≤ z.toInt ∧ z.toInt ≤ ((i + 1 : Nat) : Int)) (fun _ => ?_) (fun _ => by omega)
    exact hh_let_p (A := fun z : Int32 => 0 ≤ z.toInt ∧ z.toInt ≤ ((i + 1 : Nat) : Int)) (P := fun z : Int32 => 0 ≤ z.toInt ∧ z.toInt ≤ ((i + 1 : Nat) : Int)) h1 (fun _ h => h))
  refine hh_let_p (A := fun z : Int32 => 0 ≤ z.toInt ∧ z.toInt ≤ ((v 1 2).toNatClampNeg : Int)) (P := fun z : Int32 => 0 ≤ z.toInt ∧ z.toInt ≤ 6) hf (fun z h => by omega)
theorem hm_pF.up {a b : Int} {x : Int32} (h : hm_pF a v w) (hx : 0 ≤ x.toInt ∧ x.toInt ≤ b) (h9 : 0 ≤ (v (hh_rI 0) 9).toInt ∧ (v (hh_rI 0) 9).toInt + a + b ≤ 1000000) : hm_pF (a + b) v (hh_up w (hh_rI 0) 9 (w (hh_rI 0) 9 + x)) := by
  obtain ⟨f1, a1, a2⟩ := h
  refine ⟨hh_F_up f1 (by unfold hh_rI; omega), ?_⟩
  have p : (w (hh_rI 0) 9 + x).toInt = (w (hh_rI 0) 9).toInt + x.toInt := hh_add (by omega)
  rw [hh_ups, p]
  omega
theorem hm_pF.rf : hm_pF 0 v v := ⟨hh_F_rf, by omega, by omega⟩
theorem hm_pF.mo {a b : Int} (h : hm_pF a v w) (hab : a ≤ b) : hm_pF b v w := ⟨h.1, h.2.1, by have := h.2.2; omega⟩
theorem hm_pF.M {a : Int} (h : hm_pF a v w) : w 1 = v 1 := by funext k; exact h.1 1 k (by omega)
theorem hm_page (hM : (v 1 2).toNatClampNeg ≤ 6) (h9 : 0 ≤ (v (hh_rI 0) 9).toInt ∧ (v (hh_rI 0) 9).toInt ≤ 100000) (i : Nat) : hm_pF 18 v (hf_X5_page v 0 i).2 := by
  unfold hf_X5_page
  refine hh_let_p (A := fun _ : Int32 => True) (P := fun z : Int32 × hh_M => hm_pF 18 v z.2) trivial (fun x4 _ => ?_)
  refine iteInduction (motive := fun z : Int32 × hh_M => hm_pF 18 v z.2) (fun _ => ?_) (fun _ => ?_)
  · refine hh_let_p (A := fun z : Int32 => 0 ≤ z.toInt ∧ z.toInt ≤ 6) (P := fun z : Int32 × hh_M => hm_pF 18 v z.2) (hm_awake hM) (fun q19 h19 => ?_)
    refine hh_let_p (A := fun z : hh_M => hm_pF (0 + 6) v z) (P := fun z : Int32 × hh_M => hm_pF 18 v z.2) (hm_pF.rf.up h19 (by omega)) (fun v23 h23 => ?_)
    have k : hm_pF 18 v v23 := h23.mo (by decide)
    exact iteInduction (motive := fun z : Int32 × hh_M => hm_pF 18 v z.2) (fun _ => k) (fun _ => k)
  · refine hh_let_p (A := fun z : Int32 => 0 ≤ z.toInt ∧ z.toInt ≤ 6) (P := fun z : Int32 × hh_M => hm_pF 18 v z.2) (hm_awakeIn hM x4) (fun q50 h50 => ?_)
    refine hh_let_p (A := fun z : hh_M => hm_pF (0 + 6) v z) (P := fun z : Int32 × hh_M => hm_pF 18 v z.2) (hm_pF.rf.up h50 (by omega)) (fun v54 h54 => ?_)
    have k54 : hm_pF 18 v v54 := h54.mo (by decide)
    have hM54 : (v54 1 2).toNatClampNeg ≤ 6 := by rw [h54.M]; exact hM
    refine hh_let_p (A := fun _ : Int32 => True) (P := fun z : Int32 × hh_M => hm_pF 18 v z.2) trivial (fun q60 _ => ?_)
    refine iteInduction (motive := fun z : Int32 × hh_M => hm_pF 18 v z.2) (fun _ => ?_) (fun _ => k54)
    refine hh_let_p (A := fun z : Int32 => 0 ≤ z.toInt ∧ z.toInt ≤ 6) (P := fun z : Int32 × hh_M => hm_pF 18 v z.2) (hm_awakeIn hM54 _) (fun q80 h80 => ?_)
    refine hh_let_p (A := fun z : Int32 => 0 ≤ z.toInt ∧ z.toInt ≤ 6) (P := fun z : Int32 × hh_M => hm_pF 18 v z.2) (hm_awakeIn hM54 _) (fun q90 h90 => ?_)
    have h89 : 0 ≤ (q80 + q90).toInt ∧ (q80 + q90).toInt ≤ 12 := by
      have p : (q80 + q90).toInt = q80.toInt + q90.toInt := hh_add (by omega)
      omega
    refine hh_let_p (A := fun z : hh_M => hm_pF (0 + 6 + 12) v z) (P := fun z : Int32 × hh_M => hm_pF 18 v z.2) (h54.up h89 (by omega)) (fun v95 h95 => ?_)
    have k : hm_pF 18 v v95 := h95.mo (by decide)
    refine hh_let_p (A := fun _ : Int32 => True) (P := fun z : Int32 × hh_M => hm_pF 18 v z.2) trivial (fun q103 _ => ?_)
    refine iteInduction (motive := fun z : Int32 × hh_M => hm_pF 18 v z.2) (fun _ => ?_) (fun _ => k)
    refine hh_let_p (A := fun _ : Int32 => True) (P := fun z : Int32 × hh_M => hm_pF 18 v z.2) trivial (fun q114 _ => ?_)
    exact iteInduction (motive := fun z : Int32 × hh_M => hm_pF 18 v z.2) (fun _ => k) (fun _ => k)
theorem hm_I.pg (h : hm_I T K v) (hp : hm_pF 18 v w) : hm_I T (K + 1) w ∧ hm_M v w := by
  obtain ⟨a1, a2, a3, a4, a5, a6⟩ := h
  obtain ⟨f1, p1, p2⟩ := hp
  have r7 := f1 (hh_rI 0) 7 (by omega)
  have r8 := f1 (hh_rI 0) 8 (by omega)
  have cc : ∀ q k2, q < 24 → w (hh_cI 0 q) k2 = v (hh_cI 0 q) k2 := fun q k2 hq => f1 _ _ (by unfold hh_cI; omega)
  have hh : ∀ q k2, q < 8 → w (hh_hI 0 q) k2 = v (hh_hI 0 q) k2 := fun q k2 hq => f1 _ _ (by unfold hh_hI; omega)
  refine ⟨⟨fun a b ha hb => ?_, ?_, fun q hq => ?_, fun q hq => ?_, ?_, ?_⟩, ?_, ?_, ?_, fun q hq => ?_, fun q hq => ?_⟩
  · rw [f1 _ _ (by unfold hh_gI; omega)]; exact a1 a b ha hb
  · rw [r8]; exact a2
  · rw [cc q 3 hq, cc q 4 hq, cc q 5 hq]; exact a3 q hq
  · rw [hh q 10 hq, hh q 12 hq]
    have := a4 q hq
    omega
  · omega
  · rw [r7]; omega
  · rw [r8]; exact Int.le_refl _
  · exact p1
  · rw [r7]; exact Int.le_refl _
  · rw [cc q 3 hq, cc q 4 hq, cc q 5 hq, cc q 6 hq]; exact ⟨Int.le_refl _, Int.le_refl _, Int.le_refl _, fun _ => rfl⟩
  · rw [hh q 10 hq]; exact Int.le_refl _
theorem hm_I.g0 {i g : Nat} {x : Int32} (h : hm_I T K v) (hx : x.toNatClampNeg < 8) : hm_I T K (hh_up v (hh_gI 0 i g) 0 x) ∧ hm_M v (hh_up v (hh_gI 0 i g) 0 x) := by
  have e : ∀ a b, a < 57 → hh_up v (hh_gI 0 i g) 0 x a b = v a b := fun a b q => by unfold hh_up hh_gI; rw [if_neg (by omega)]
  have cc : ∀ q k2, q < 24 → hh_up v (hh_gI 0 i g) 0 x (hh_cI 0 q) k2 = v (hh_cI 0 q) k2 := fun q k2 hq => e _ _ (by unfold hh_cI; omega)
  have hh : ∀ q k2, q < 8 → hh_up v (hh_gI 0 i g) 0 x (hh_hI 0 q) k2 = v (hh_hI 0 q) k2 := fun q k2 hq => e _ _ (by unfold hh_hI; omega)
  have rr : ∀ k2, hh_up v (hh_gI 0 i g) 0 x (hh_rI 0) k2 = v (hh_rI 0) k2 := fun k2 => e _ _ (by unfold hh_rI; omega)
  obtain ⟨a1, a2, a3, a4, a5, a6⟩ := h
  refine ⟨⟨fun a b ha hb => ?_, ?_, fun q hq => ?_, fun q hq => ?_, ?_, ?_⟩, ?_, ?_, ?_, fun q hq => ?_, fun q hq => ?_⟩
  · unfold hh_up
    split
    · exact hx
    · exact a1 a b ha hb
  · rw [rr]; exact a2
  · rw [cc q 3 hq, cc q 4 hq, cc q 5 hq]; exact a3 q hq
  · rw [hh q 10 hq, hh q 12 hq]; exact a4 q hq
  · rw [rr]; exact a5
  · rw [rr]; exact a6
  · rw [rr]; exact Int.le_refl _
  · rw [rr]; exact Int.le_refl _
  · rw [rr]; exact Int.le_refl _
  · rw [cc q 3 hq, cc q 4 hq, cc q 5 hq, cc q 6 hq]; exact ⟨Int.le_refl _, Int.le_refl _, Int.le_refl _, fun _ => rfl⟩
  · rw [hh q 10 hq]; exact Int.le_refl _
theorem hm_join {i g : Nat} {ha : Int32} (h : hm_I T K v) (hh : ha.toNatClampNeg < 8) : hm_I T K (hf_X5_join v 0 i g ha) ∧ hm_M v (hf_X5_join v 0 i g ha) := by
  unfold hf_X5_join
  refine hh_let_p (A := fun z : hh_M => hm_I T K z ∧ hm_M v z) (P := fun z : hh_M => hm_I T K z ∧ hm_M v z) (h.g0 hh) (fun v2 h2 => ?_)
  refine hh_let_p (A := fun z : hh_M => hm_I T K z ∧ hm_M v2 z) (P := fun z : hh_M => hm_I T K z ∧ hm_M v z) (h2.1.up (by unfold hh_gI; omega)) (fun v15 h15 => ?_)
  refine hh_let_p (A := fun z : hh_M => hm_I T K z ∧ hm_M v15 z) (P := fun z : hh_M => hm_I T K z ∧ hm_M v z) (h15.1.up (by unfold hh_lI; omega)) (fun v30 h30 => ?_)
  exact hh_let_p (A := fun z : hh_M => hm_I T K z ∧ hm_M v30 z) (P := fun z : hh_M => hm_I T K z ∧ hm_M v z) (h30.1.up (by unfold hh_hI; omega)) (fun v41 h41 => ⟨h41.1, ((h2.2.tr h15.2).tr h30.2).tr h41.2⟩)
theorem hm_tryCall {fr to : Int32} (h : hm_I T K v) (hK : K ≤ 100) (hM : (v 1 2).toNatClampNeg ≤ 6) (hf : fr.toNatClampNeg < 8) (ht : to.toNatClampNeg < 8) : hm_I T (K + 1) (hf_X5_tryCall v 0 fr to).2 ∧ hm_M v (hf_X5_tryCall v 0 fr to).2 := by
  have r0 : hm_I T (K + 1) v ∧ hm_M v v := ⟨h.mo (by omega), hm_M.rf⟩
  unfold hf_X5_tryCall
  refine hh_let_p (A := fun _ : Int32 => True) (P := fun z : Int32 × hh_M => hm_I T (K + 1) z.2 ∧ hm_M v z.2) trivial (fun q16 _ => ?_)
  refine iteInduction (motive := fun z : Int32 × hh_M => hm_I T (K + 1) z.2 ∧ hm_M v z.2) (fun _ => r0) (fun _ => ?_)
  refine iteInduction (motive := fun z : Int32 × hh_M => hm_I T (K + 1) z.2 ∧ hm_M v z.2) (fun _ => r0) (fun _ => ?_)
  refine hh_let_p (A := fun _ : Int32 => True) (P := fun z : Int32 × hh_M => hm_I T (K + 1) z.2 ∧ hm_M v z.2) trivial (fun q36 _ => ?_)
  refine hh_let_p (A := fun z : hh_M => hm_I T (K + 1) z ∧ hm_M v z) (P := fun z : Int32 × hh_M => hm_I T (K + 1) z.2 ∧ hm_M v z.2) (h.pg (hm_page hM (by have := h.2.2.2.2.1; omega) _)) (fun v36 h36 => ?_)
  refine iteInduction (motive := fun z : Int32 × hh_M => hm_I T (K + 1) z.2 ∧ hm_M v z.2) (fun _ => h36) (fun _ => ?_)
  refine hh_let_p (A := fun _ : Int32 => True) (P := fun z : Int32 × hh_M => hm_I T (K + 1) z.2 ∧ hm_M v z.2) trivial (fun q47 _ => ?_)
  refine iteInduction (motive := fun z : Int32 × hh_M => hm_I T (K + 1) z.2 ∧ hm_M v z.2) (fun _ => h36) (fun _ => ?_)
  refine hh_let_p (A := fun _ : Int32 => True) (P := fun z : Int32 × hh_M => hm_I T (K + 1) z.2 ∧ hm_M v z.2) trivial (fun j110 _ => ?_)
  refine iteInduction (motive := fun z : Int32 × hh_M => hm_I T (K + 1) z.2 ∧ hm_M v z.2) (fun _ => h36) (fun _ => ?_)
  refine iteInduction (motive := fun z : Int32 × hh_M => hm_I T (K + 1) z.2 ∧ hm_M v z.2) (fun _ => ?_) (fun _ => h36)
  refine hh_let_p (A := fun z : hh_M => hm_I T (K + 1) z ∧ hm_M v36 z) (P := fun z : Int32 × hh_M => hm_I T (K + 1) z.2 ∧ hm_M v z.2) (hm_join h36.1 hf) (fun v145 h145 => ?_)
  refine hh_let_p (A := fun z : hh_M => hm_I T (K + 1) z ∧ hm_M v145 z) (P := fun z : Int32 × hh_M => hm_I T (K + 1) z.2 ∧ hm_M v z.2) (hm_join h145.1 ht) (fun v162 h162 => ?_)
  exact hh_let_p (A := fun z : hh_M => hm_I T (K + 1) z ∧ hm_M v162 z) (P := fun z : Int32 × hh_M => hm_I T (K + 1) z.2 ∧ hm_M v z.2) (h162.1.up (by unfold hh_rI; omega)) (fun v172 h172 => ⟨h172.1, ((h36.2.tr h145.2).tr h162.2).tr h172.2⟩)
theorem hm_call {fr to : Int32} (h : hm_I T K v) (hK : K ≤ 100) (hM : (v 1 2).toNatClampNeg ≤ 6) (hf : fr.toNatClampNeg < 8) (ht : to.toNatClampNeg < 8) : hm_I T (K + 1) (hf_X7_call v fr to).2 ∧ hm_M v (hf_X7_call v fr to).2 := by
  unfold hf_X7_call
  refine hh_let_p (A := fun _ : Int32 => True) (P := fun z : Int32 × hh_M => hm_I T (K + 1) z.2 ∧ hm_M v z.2) trivial (fun q _ => ?_)
  exact hh_let_p (A := fun z : hh_M => hm_I T (K + 1) z ∧ hm_M v z) (P := fun z : Int32 × hh_M => hm_I T (K + 1) z.2 ∧ hm_M v z.2) (hm_tryCall h hK hM hf ht) (fun w hw => hw)
end HMC
