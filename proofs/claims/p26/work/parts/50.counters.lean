/-! what the counters of a call do: what may be written as one looks at a leg, charges or ends call i -/
def hm_P (i j k : Nat) : Prop := (j = 21 ∨ j = 22) ∨ (25 ≤ j ∧ j < 33 ∧ (k = 3 ∨ k = 5 ∨ k = 6)) ∨ (j = 33 + i ∧ 2 ≤ k ∧ k < 7) ∨ (57 ≤ j ∧ k ≠ 0)
/-- handovers grow by at most d, payments by at most e, ping-pongs by no more than handovers -/
def hm_K (i : Nat) (d e : Int) (v w : hh_M) : Prop := hh_F (hm_P i) v w ∧ (v (hh_cI 0 i) 4).toInt ≤ (w (hh_cI 0 i) 4).toInt ∧ (w (hh_cI 0 i) 4).toInt ≤ (v (hh_cI 0 i) 4).toInt + d ∧ (v (hh_cI 0 i) 5).toInt ≤ (w (hh_cI 0 i) 5).toInt ∧ (w (hh_cI 0 i) 5).toInt - (v (hh_cI 0 i) 5).toInt ≤ (w (hh_cI 0 i) 4).toInt - (v (hh_cI 0 i) 4).toInt ∧ (v (hh_cI 0 i) 3).toInt ≤ (w (hh_cI 0 i) 3).toInt ∧ (w (hh_cI 0 i) 3).toInt ≤ (v (hh_cI 0 i) 3).toInt + e
/-- the counters of call i are small -/
def hm_B (i : Nat) (v : hh_M) : Prop := (0 ≤ (v (hh_cI 0 i) 3).toInt ∧ (v (hh_cI 0 i) 3).toInt ≤ 1000000) ∧ (0 ≤ (v (hh_cI 0 i) 4).toInt ∧ (v (hh_cI 0 i) 4).toInt ≤ 1000000) ∧ (0 ≤ (v (hh_cI 0 i) 5).toInt ∧ (v (hh_cI 0 i) 5).toInt ≤ 1000000)
/-- the handsets of legs are numbers of handsets -/
def hm_G (v : hh_M) : Prop := ∀ i g, i < 24 → g < 2 → (v (hh_gI 0 i g) 0).toNatClampNeg < 8
section HMK
variable {i j k g : Nat} {d e d' e' : Int} {u v w : hh_M} {x : Int32}
theorem hm_K.rf : hm_K i 0 0 v v := ⟨hh_F_rf, by omega, by omega, by omega, by omega, by omega, by omega⟩
theorem hm_K.tr (h : hm_K i d e u v) (h2 : hm_K i d' e' v w) : hm_K i (d + d') (e + e') u w := by
  obtain ⟨f1, a1, a2, a3, a4, a5, a6⟩ := h
  obtain ⟨f2, b1, b2, b3, b4, b5, b6⟩ := h2
  exact ⟨f1.tr f2, by omega, by omega, by omega, by omega, by omega, by omega⟩
theorem hm_K.mo (h : hm_K i d e u v) (h1 : d ≤ d') (h2 : e ≤ e') : hm_K i d' e' u v := by
  obtain ⟨f1, a1, a2, a3, a4, a5, a6⟩ := h
  exact ⟨f1, by omega, by omega, by omega, by omega, by omega, by omega⟩
theorem hm_K.up (h : hm_K i d e v w) (hp : hm_P i j k) (hn : j ≠ 33 + i ∨ (k ≠ 3 ∧ k ≠ 4 ∧ k ≠ 5)) : hm_K i d e v (hh_up w j k x) := by
  obtain ⟨f1, a1, a2, a3, a4, a5, a6⟩ := h
  have q : ∀ m, (m = 3 ∨ m = 4 ∨ m = 5) → hh_up w j k x (hh_cI 0 i) m = w (hh_cI 0 i) m := fun m hm => by
    unfold hh_up hh_cI
    rw [if_neg (by omega)]
  refine ⟨hh_F_up f1 hp, ?_⟩
  rw [q 3 (by omega), q 4 (by omega), q 5 (by omega)]
  exact ⟨a1, a2, a3, a4, a5, a6⟩
theorem hm_G.K (hG : hm_G v) (h : hm_K i d e v w) : hm_G w := fun a b ha hb => by
  rw [h.1 (hh_gI 0 a b) 0 (by unfold hm_P hh_gI; omega)]
  exact hG a b ha hb
theorem hm_K.B (h : hm_K i d e v w) (hB : 0 ≤ (v (hh_cI 0 i) 3).toInt ∧ 0 ≤ (v (hh_cI 0 i) 4).toInt ∧ 0 ≤ (v (hh_cI 0 i) 5).toInt ∧ (v (hh_cI 0 i) 3).toInt + e ≤ 1000000 ∧ (v (hh_cI 0 i) 4).toInt + d ≤ 1000000 ∧ (v (hh_cI 0 i) 5).toInt + d ≤ 1000000) : hm_B i w := by
  obtain ⟨f1, a1, a2, a3, a4, a5, a6⟩ := h
  unfold hm_B
  omega
theorem hm_release (hG : hm_G v) (hi : i < 24) (hg : g < 2) : hm_K i 0 0 v (hf_X5_release v 0 i g) := by
  unfold hf_X5_release
  refine hh_let_p (A := fun z : hh_M => hm_K i 0 0 v z) (P := fun z : hh_M => hm_K i 0 0 v z) (hm_K.rf.up (by unfold hm_P hh_lI; omega) (by unfold hh_lI; omega)) (fun z hz => ?_)
  have := hG.K hz i g hi hg
  exact hh_let_p (A := fun z : hh_M => hm_K i 0 0 v z) (P := fun z : hh_M => hm_K i 0 0 v z) (hz.up (by unfold hm_P hh_hI; omega) (by unfold hh_hI; omega)) (fun z hz => hz)
theorem hm_end (hG : hm_G v) (hi : i < 24) (how : Int32) : hm_K i 0 0 v (hf_X5_end v 0 i how) := by
  unfold hf_X5_end
  refine hh_let_p (A := fun z : hh_M => hm_K i 0 0 v z) (P := fun z : hh_M => hm_K i 0 0 v z) (hm_K.rf.up (by unfold hm_P hh_cI; omega) (by omega)) (fun v2 h2 => ?_)
  have last : ∀ z : hh_M, hm_K i 0 0 v z → hm_K i 0 0 v (hh_let (hf_X2_isUsed z 0 i 1 : Int32) (fun (q_27 : Int32) => (if q_27 = 0 then z else (hh_let (hf_X5_release z 0 i 1 : hh_M) (fun (v_38 : hh_M) => v_38))))) := fun z hz => by
    refine hh_let_p (A := fun _ : Int32 => True) (P := fun z : hh_M => hm_K i 0 0 v z) trivial (fun q _ => ?_)
    refine iteInduction (motive := fun z : hh_M => hm_K i 0 0 v z) (fun _ => hz) (fun _ => ?_)
    exact hh_let_p (A := fun z : hh_M => hm_K i 0 0 v z) (P := fun z : hh_M => hm_K i 0 0 v z) (hz.tr (hm_release (hG.K hz) hi (by decide))) (fun z hz => hz)
  refine hh_let_p (A := fun _ : Int32 => True) (P := fun z : hh_M => hm_K i 0 0 v z) trivial (fun q _ => ?_)
  refine iteInduction (motive := fun z : hh_M => hm_K i 0 0 v z) (fun _ => last v2 h2) (fun _ => ?_)
  exact hh_let_p (A := fun z : hh_M => hm_K i 0 0 v z) (P := fun z : hh_M => hm_K i 0 0 v z) (h2.tr (hm_release (hG.K h2) hi (by decide))) (fun z hz => last z hz)
theorem hm_ups {j k : Nat} : hh_up v j k x j k = x := by simp [hh_up]
theorem hm_handOver (hG : hm_G v) (hB : hm_B i v) (hi : i < 24) (hg : g < 2) (ma : Int32) : hm_K i 1 0 v (hf_X5_handOver v 0 i g ma) := by
  unfold hf_X5_handOver
  have one : (1 : Int32).toInt = 1 := rfl
  have p4 : ((v (hh_cI 0 i) 4) + 1).toInt = (v (hh_cI 0 i) 4).toInt + 1 := by
    have := hB.2.1
    exact (hh_add (by rw [one]; omega)).trans (by rw [one])
  have p5 : ((v (hh_cI 0 i) 5) + 1).toInt = (v (hh_cI 0 i) 5).toInt + 1 := by
    have := hB.2.2
    exact (hh_add (by rw [one]; omega)).trans (by rw [one])
  have e3 : ∀ x y, hh_up (hh_up v (hh_cI 0 i) 4 x) (hh_cI 0 i) 5 y (hh_cI 0 i) 3 = v (hh_cI 0 i) 3 := fun x y => by simp [hh_up]
  have e4 : ∀ x y, hh_up (hh_up v (hh_cI 0 i) 4 x) (hh_cI 0 i) 5 y (hh_cI 0 i) 4 = x := fun x y => by simp [hh_up]
  have e5 : ∀ x y, hh_up (hh_up v (hh_cI 0 i) 4 x) (hh_cI 0 i) 5 y (hh_cI 0 i) 5 = y := fun x y => by simp [hh_up]
  have f3 : ∀ x, hh_up v (hh_cI 0 i) 4 x (hh_cI 0 i) 3 = v (hh_cI 0 i) 3 := fun x => by simp [hh_up]
  have f4 : ∀ x, hh_up v (hh_cI 0 i) 4 x (hh_cI 0 i) 4 = x := fun x => by simp [hh_up]
  have f5 : ∀ x, hh_up v (hh_cI 0 i) 4 x (hh_cI 0 i) 5 = v (hh_cI 0 i) 5 := fun x => by simp [hh_up]
  have k7 : hm_K i 1 0 v (hh_up v (hh_cI 0 i) 4 (v (hh_cI 0 i) 4 + 1)) := by
    refine ⟨hh_F_up hh_F_rf (by unfold hm_P hh_cI; omega), ?_⟩
    rw [f3, f4, f5, p4]
    omega
  have k38 : hm_K i 1 0 v (hh_up (hh_up v (hh_cI 0 i) 4 (v (hh_cI 0 i) 4 + 1)) (hh_cI 0 i) 5 (v (hh_cI 0 i) 5 + 1)) := by
    refine ⟨hh_F_up (hh_F_up hh_F_rf (by unfold hm_P hh_cI; omega)) (by unfold hm_P hh_cI; omega), ?_⟩
    rw [e3, e4, e5, p4, p5]
    omega
  refine hh_let_p (A := fun z : hh_M => z = hh_up v (hh_cI 0 i) 4 (v (hh_cI 0 i) 4 + 1)) (P := fun z : hh_M => hm_K i 1 0 v z) rfl (fun v7 e7 => ?_)
  subst e7
  refine hh_let_p (A := fun z : hh_M => hm_K i 1 0 v z) (P := fun z : hh_M => hm_K i 1 0 v z) ?_ (fun v41 h41 => ?_)
  · refine iteInduction (motive := fun z : hh_M => hm_K i 1 0 v z) (fun _ => iteInduction (motive := fun z : hh_M => hm_K i 1 0 v z) (fun _ => k7) (fun _ => ?_)) (fun _ => k7)
    refine hh_let_p (A := fun z : hh_M => hm_K i 1 0 v z) (P := fun z : hh_M => hm_K i 1 0 v z) ?_ (fun z hz => hz)
    rw [f5]
    exact k38
  refine hh_let_p (A := fun z : hh_M => hm_K i 1 0 v z) (P := fun z : hh_M => hm_K i 1 0 v z) (h41.up (by unfold hm_P hh_gI; omega) (by unfold hh_gI; omega)) (fun z46 h46 => ?_)
  refine hh_let_p (A := fun z : hh_M => hm_K i 1 0 v z) (P := fun z : hh_M => hm_K i 1 0 v z) (h46.up (by unfold hm_P hh_gI; omega) (by unfold hh_gI; omega)) (fun z54 h54 => ?_)
  refine hh_let_p (A := fun z : hh_M => hm_K i 1 0 v z) (P := fun z : hh_M => hm_K i 1 0 v z) (h54.up (by unfold hm_P hh_gI; omega) (by unfold hh_gI; omega)) (fun z59 h59 => ?_)
  refine hh_let_p (A := fun z : hh_M => hm_K i 1 0 v z) (P := fun z : hh_M => hm_K i 1 0 v z) (h59.up (by unfold hm_P hh_lI; omega) (by unfold hh_lI; omega)) (fun z74 h74 => ?_)
  refine hh_let_p (A := fun z : hh_M => hm_K i 1 0 v z) (P := fun z : hh_M => hm_K i 1 0 v z) (h74.up (by unfold hm_P hh_lI; omega) (by unfold hh_lI; omega)) (fun z84 h84 => ?_)
  refine hh_let_p (A := fun z : hh_M => hm_K i 1 0 v z) (P := fun z : hh_M => hm_K i 1 0 v z) (h84.up (by unfold hm_P hh_gI; omega) (by unfold hh_gI; omega)) (fun z87 h87 => ?_)
  have := hG.K h87 i g hi hg
  exact hh_let_p (A := fun z : hh_M => hm_K i 1 0 v z) (P := fun z : hh_M => hm_K i 1 0 v z) (h87.up (by unfold hm_P hh_hI; omega) (by unfold hh_hI; omega)) (fun z h => h)
end HMK
