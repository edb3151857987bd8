/-! one second: the counters of handsets and calls -/
def hm_PH (i j k : Nat) : Prop := j = 25 + i ∧ (k = 5 ∨ (7 ≤ k ∧ k < 11))
def hm_H (i : Nat) (v w : hh_M) : Prop := hh_F (hm_PH i) v w ∧ (v (hh_hI 0 i) 10).toInt ≤ (w (hh_hI 0 i) 10).toInt ∧ (w (hh_hI 0 i) 10).toInt ≤ (v (hh_hI 0 i) 10).toInt + 1
def hm_PP (j k : Nat) : Prop := (j = 21 ∨ j = 22) ∨ (25 ≤ j ∧ j < 33 ∧ (k = 3 ∨ k = 5 ∨ k = 6)) ∨ (33 ≤ j ∧ j < 57 ∧ 2 ≤ k ∧ k < 7) ∨ (57 ≤ j ∧ k ≠ 0)
def hm_C (i : Nat) (d e : Int) (v w : hh_M) : Prop := (v (hh_cI 0 i) 4).toInt ≤ (w (hh_cI 0 i) 4).toInt ∧ (w (hh_cI 0 i) 4).toInt ≤ (v (hh_cI 0 i) 4).toInt + d ∧ (v (hh_cI 0 i) 5).toInt ≤ (w (hh_cI 0 i) 5).toInt ∧ (w (hh_cI 0 i) 5).toInt - (v (hh_cI 0 i) 5).toInt ≤ (w (hh_cI 0 i) 4).toInt - (v (hh_cI 0 i) 4).toInt ∧ (v (hh_cI 0 i) 3).toInt ≤ (w (hh_cI 0 i) 3).toInt ∧ (w (hh_cI 0 i) 3).toInt ≤ (v (hh_cI 0 i) 3).toInt + e ∧ (v (hh_cI 0 i) 6 ≠ 0 → w (hh_cI 0 i) 6 = v (hh_cI 0 i) 6)
def hm_BB (b : Int) (i : Nat) (v : hh_M) : Prop := (0 ≤ (v (hh_cI 0 i) 3).toInt ∧ (v (hh_cI 0 i) 3).toInt ≤ b) ∧ (0 ≤ (v (hh_cI 0 i) 4).toInt ∧ (v (hh_cI 0 i) 4).toInt ≤ b) ∧ (0 ≤ (v (hh_cI 0 i) 5).toInt ∧ (v (hh_cI 0 i) 5).toInt ≤ b)
section HMS
variable {i j k g : Nat} {d e d' e' b : Int} {u v w : hh_M} {x : Int32}
theorem hm_H.up (h : hm_H i v w) (hp : hm_PH i j k) (hn : k ≠ 10) : hm_H i v (hh_up w j k x) := by
  obtain ⟨f1, a1, a2⟩ := h
  have q : hh_up w j k x (hh_hI 0 i) 10 = w (hh_hI 0 i) 10 := by
    unfold hh_up
    rw [if_neg (by omega)]
  refine ⟨hh_F_up f1 hp, ?_⟩
  rw [q]
  exact ⟨a1, a2⟩
theorem hm_choose : hh_F (fun j k => j = 25 + i ∧ k = 5) v (hf_X5_chooseMast v 0 i) := by
  have up : ∀ x, hh_F (fun j k => j = 25 + i ∧ k = 5) v (hh_up v (hh_hI 0 i) 5 x) := fun x => hh_F_up hh_F_rf (by unfold hh_hI; omega)
  have s24 : ∀ x, hh_F (fun j k => j = 25 + i ∧ k = 5) v (hh_let (hh_up v (hh_hI 0 i) 5 x : hh_M) (fun (v_24 : hh_M) => v_24)) := fun x => hh_let_p (A := fun z : hh_M => hh_F (fun j k => j = 25 + i ∧ k = 5) v z) (P := fun z : hh_M => hh_F (fun j k => j = 25 + i ∧ k = 5) v z) (up x) (fun z h => h)
  unfold hf_X5_chooseMast
  refine hh_let_p (A := fun _ : Int32 => True) (P := fun z : hh_M => hh_F (fun j k => j = 25 + i ∧ k = 5) v z) trivial (fun q5 _ => ?_)
  refine iteInduction (motive := fun z : hh_M => hh_F (fun j k => j = 25 + i ∧ k = 5) v z) (fun _ => s24 q5) (fun _ => ?_)
  refine iteInduction (motive := fun z : hh_M => hh_F (fun j k => j = 25 + i ∧ k = 5) v z) (fun _ => s24 q5) (fun _ => ?_)
  refine hh_let_p (A := fun _ : Int32 => True) (P := fun z : hh_M => hh_F (fun j k => j = 25 + i ∧ k = 5) v z) trivial (fun q37 _ => ?_)
  refine iteInduction (motive := fun z : hh_M => hh_F (fun j k => j = 25 + i ∧ k = 5) v z) (fun _ => s24 q5) (fun _ => ?_)
  refine hh_let_p (A := fun _ : Int32 => True) (P := fun z : hh_M => hh_F (fun j k => j = 25 + i ∧ k = 5) v z) trivial (fun q52 _ => ?_)
  exact iteInduction (motive := fun z : hh_M => hh_F (fun j k => j = 25 + i ∧ k = 5) v z) (fun _ => s24 q5) (fun _ => hh_F_rf)
theorem hm_tell (hU : (v (hh_hI 0 i) 10).toInt ≤ 1000000 ∧ 0 ≤ (v (hh_hI 0 i) 10).toInt) (ar no : Int32) : hm_H i v (hf_X1_tell v 0 i ar no) := by
  have r0 : hm_H i v v := ⟨hh_F_rf, by omega, by omega⟩
  unfold hf_X1_tell
  refine hh_let_p (A := fun z : hh_M => hm_H i v z ∧ z (hh_hI 0 i) 10 = v (hh_hI 0 i) 10) (P := fun z : hh_M => hm_H i v z) ⟨r0.up (by unfold hm_PH hh_hI; omega) (by decide), hh_upk (by decide)⟩ (fun z2 h2 => ?_)
  refine hh_let_p (A := fun z : hh_M => hm_H i v z ∧ z (hh_hI 0 i) 10 = v (hh_hI 0 i) 10) (P := fun z : hh_M => hm_H i v z) ⟨h2.1.up (by unfold hm_PH hh_hI; omega) (by decide), (hh_upk (by decide)).trans h2.2⟩ (fun z7 h7 => ?_)
  refine hh_let_p (A := fun z : hh_M => hm_H i v z ∧ z (hh_hI 0 i) 10 = v (hh_hI 0 i) 10) (P := fun z : hh_M => hm_H i v z) ⟨h7.1.up (by unfold hm_PH hh_hI; omega) (by decide), (hh_upk (by decide)).trans h7.2⟩ (fun z12 h12 => ?_)
  refine hh_let_p (A := fun z : hh_M => hm_H i v z) (P := fun z : hh_M => hm_H i v z) ?_ (fun z h => h)
  refine ⟨hh_F_up h12.1.1 (by unfold hm_PH hh_hI; omega), ?_⟩
  rw [hh_ups, h12.2]
  have one : (1 : Int32).toInt = 1 := rfl
  have p : ((v (hh_hI 0 i) 10) + 1).toInt = (v (hh_hI 0 i) 10).toInt + 1 := (hh_add (by rw [one]; omega)).trans (by rw [one])
  rw [p]
  omega
theorem hm_tellArea (hU : (v (hh_hI 0 i) 10).toInt ≤ 1000000 ∧ 0 ≤ (v (hh_hI 0 i) 10).toInt) : hm_H i v (hf_X5_tellArea v 0 i) := by
  have r0 : hm_H i v v := ⟨hh_F_rf, by omega, by omega⟩
  unfold hf_X5_tellArea
  refine iteInduction (motive := fun z : hh_M => hm_H i v z) (fun _ => r0) (fun _ => ?_)
  refine hh_let_p (A := fun _ : Int32 => True) (P := fun z : hh_M => hm_H i v z) trivial (fun x24 _ => ?_)
  have s53 : ∀ y, hm_H i v (hh_let (hf_X1_tell v 0 i x24 y : hh_M) (fun (v_53 : hh_M) => v_53)) := fun y => hh_let_p (A := fun z : hh_M => hm_H i v z) (P := fun z : hh_M => hm_H i v z) (hm_tell hU x24 y) (fun z h => h)
  refine iteInduction (motive := fun z : hh_M => hm_H i v z) (fun _ => ?_) (fun _ => s53 _)
  exact iteInduction (motive := fun z : hh_M => hm_H i v z) (fun _ => r0) (fun _ => s53 _)
theorem hm_l37 (hU : (v (hh_hI 0 i) 10).toInt ≤ 1000000 ∧ 0 ≤ (v (hh_hI 0 i) 10).toInt) : hm_H i v (hl_X5_second_37 0 i v) := by
  have r0 : hm_H i v v := ⟨hh_F_rf, by omega, by omega⟩
  unfold hl_X5_second_37
  refine hh_let_p (A := fun _ : Int32 => True) (P := fun z : hh_M => hm_H i v z) trivial (fun q51 _ => ?_)
  refine iteInduction (motive := fun z : hh_M => hm_H i v z) (fun _ => r0) (fun _ => ?_)
  refine hh_let_p (A := fun z : hh_M => hh_F (fun j k => j = 25 + i ∧ k = 5) v z) (P := fun z : hh_M => hm_H i v z) hm_choose (fun z64 h64 => ?_)
  have e10 : z64 (hh_hI 0 i) 10 = v (hh_hI 0 i) 10 := h64 _ _ (by omega)
  refine hh_let_p (A := fun z : hh_M => hm_H i z64 z) (P := fun z : hh_M => hm_H i v z) (hm_tellArea (by rw [e10]; exact hU)) (fun z74 h74 => ?_)
  obtain ⟨f1, a1, a2⟩ := h74
  rw [e10] at a1 a2
  exact ⟨(h64.mo (fun j k h => by unfold hm_PH; omega)).tr f1, a1, a2⟩
theorem hm_f37 {n : Nat} (hn : n ≤ 8) (hU : ∀ q, q < 8 → (v (hh_hI 0 q) 10).toInt ≤ 1000000 ∧ 0 ≤ (v (hh_hI 0 q) 10).toInt) : hh_F (fun j k => 25 ≤ j ∧ j < 33 ∧ (k = 5 ∨ (7 ≤ k ∧ k < 11))) v (hh_fld (fun (i9 : Nat) (z : hh_M) => hl_X5_second_37 0 i9 z) n v) ∧ ∀ q, q < 8 → (v (hh_hI 0 q) 10).toInt ≤ (hh_fld (fun (i9 : Nat) (z : hh_M) => hl_X5_second_37 0 i9 z) n v (hh_hI 0 q) 10).toInt ∧ (hh_fld (fun (i9 : Nat) (z : hh_M) => hl_X5_second_37 0 i9 z) n v (hh_hI 0 q) 10).toInt ≤ (v (hh_hI 0 q) 10).toInt + 1 := by
  have h := hh_fld_in (f := fun (i9 : Nat) (z : hh_M) => hl_X5_second_37 0 i9 z) (n := n) (s := v) (I := fun i z => hh_F (fun j k => 25 ≤ j ∧ j < 33 ∧ (k = 5 ∨ (7 ≤ k ∧ k < 11))) v z ∧ ∀ q, q < 8 → (v (hh_hI 0 q) 10).toInt ≤ (z (hh_hI 0 q) 10).toInt ∧ (z (hh_hI 0 q) 10).toInt ≤ (v (hh_hI 0 q) 10).toInt + 1 ∧ (i ≤ q → z (hh_hI 0 q) 10 = v (hh_hI 0 q) 10)) ⟨hh_F_rf, fun q _ => ⟨by omega, by omega, fun _ => rfl⟩⟩ (fun i z hi hz => by
    have e := (hz.2 i (by omega)).2.2 (Nat.le_refl i)
    obtain ⟨f1, a1, a2⟩ := hm_l37 (v := z) (i := i) (by rw [e]; exact hU i (by omega))
    refine ⟨hz.1.tr (f1.mo (fun j k hp => by unfold hm_PH at hp; omega)), fun q hq => ?_⟩
    by_cases c : q = i
    · subst c
      rw [e] at a1 a2
      exact ⟨a1, a2, fun hle => absurd hle (by omega)⟩
    · have e2 : hl_X5_second_37 0 i z (hh_hI 0 q) 10 = z (hh_hI 0 q) 10 := f1 _ _ (by unfold hm_PH hh_hI; omega)
      show _ ∧ _ ∧ _
      have := hz.2 q hq
      refine ⟨?_, ?_, fun hle => ?_⟩
      · show _ ≤ (hl_X5_second_37 0 i z (hh_hI 0 q) 10).toInt
        rw [e2]; exact this.1
      · show (hl_X5_second_37 0 i z (hh_hI 0 q) 10).toInt ≤ _
        rw [e2]; exact this.2.1
      · exact e2.trans (this.2.2 (by omega)))
  exact ⟨h.1, fun q hq => ⟨(h.2 q hq).1, (h.2 q hq).2.1⟩⟩
theorem hm_C.tr (h : hm_C i d e u v) (h2 : hm_C i d' e' v w) : hm_C i (d + d') (e + e') u w := by
  obtain ⟨a1, a2, a3, a4, a5, a6, a7⟩ := h
  obtain ⟨b1, b2, b3, b4, b5, b6, b7⟩ := h2
  exact ⟨by omega, by omega, by omega, by omega, by omega, by omega, fun c => (b7 (by rw [a7 c]; exact c)).trans (a7 c)⟩
theorem hm_C.eq (h : ∀ k, 3 ≤ k ∧ k < 7 → w (hh_cI 0 i) k = v (hh_cI 0 i) k) : hm_C i 0 0 v w := by
  unfold hm_C
  rw [h 3 (by omega), h 4 (by omega), h 5 (by omega), h 6 (by omega)]
  exact ⟨by omega, by omega, by omega, by omega, by omega, by omega, fun _ => rfl⟩
theorem hm_C.mo (h : hm_C i d e u v) (h1 : d ≤ d') (h2 : e ≤ e') : hm_C i d' e' u v := by
  obtain ⟨a1, a2, a3, a4, a5, a6, a7⟩ := h
  exact ⟨by omega, by omega, by omega, by omega, by omega, by omega, a7⟩
/-- a loop over calls that treats call i alone -/
theorem hm_fC {f : Nat → hh_M → hh_M} {n : Nat} (hn : n ≤ 24) (h0 : 0 ≤ d ∧ 0 ≤ e) (hf : ∀ i z, i < 24 → hm_G z → hm_BB b i z → hm_K i d e z (f i z) ∧ (z (hh_cI 0 i) 6 ≠ 0 → f i z = z)) (hG : hm_G v) (hB : ∀ q, q < 24 → hm_BB b q v) : hm_G (hh_fld f n v) ∧ hh_F hm_PP v (hh_fld f n v) ∧ ∀ q, q < 24 → hm_C q d e v (hh_fld f n v) := by
  have h := hh_fld_in (f := f) (n := n) (s := v) (I := fun i z => (hm_G z ∧ hh_F hm_PP v z) ∧ ∀ q, q < 24 → hm_C q d e v z ∧ (i ≤ q → ∀ k, z (hh_cI 0 q) k = v (hh_cI 0 q) k)) ⟨⟨hG, hh_F_rf⟩, fun q _ => ⟨(hm_C.eq (fun _ _ => rfl)).mo h0.1 h0.2, fun _ _ => rfl⟩⟩ (fun i z hi hz => by
    have e := (hz.2 i (by omega)).2 (Nat.le_refl i)
    have hb : hm_BB b i z := by
      have := hB i (by omega)
      unfold hm_BB at this ⊢
      rw [e 3, e 4, e 5]
      exact this
    obtain ⟨hK, hid⟩ := hf i z (by omega) hz.1.1 hb
    refine ⟨⟨hz.1.1.K hK, hz.1.2.tr (hK.1.mo (fun j k hp => by unfold hm_P at hp; unfold hm_PP; omega))⟩, fun q hq => ?_⟩
    by_cases c : q = i
    · subst c
      obtain ⟨f1, a1, a2, a3, a4, a5, a6⟩ := hK
      rw [e 4] at a1 a2 a4
      rw [e 5] at a3 a4
      rw [e 3] at a5 a6
      refine ⟨⟨a1, a2, a3, a4, a5, a6, fun c6 => ?_⟩, fun hle => absurd hle (by omega)⟩
      rw [hid (by rw [e 6]; exact c6), e 6]
    · have e2 : ∀ k, f i z (hh_cI 0 q) k = z (hh_cI 0 q) k := fun k => hK.1 _ _ (by unfold hm_P hh_cI; omega)
      have h2 := hz.2 q hq
      refine ⟨?_, fun hle k => (e2 k).trans (h2.2 (by omega) k)⟩
      unfold hm_C
      rw [e2, e2, e2, e2]
      exact h2.1)
  exact ⟨h.1.1, h.1.2, fun q hq => (h.2 q hq).1⟩
theorem hm_l85 (hi : i < 24) (hG : hm_G v) (hB : hm_BB 500000 i v) : hm_K i 2 0 v (hl_X5_second_85 0 i v) ∧ (v (hh_cI 0 i) 6 ≠ 0 → hl_X5_second_85 0 i v = v) := by
  unfold hl_X5_second_85
  have hB0 : hm_B i v := by unfold hm_BB at hB; unfold hm_B; omega
  refine ⟨?_, fun c => ?_⟩
  · refine hh_let_p (A := fun z : hh_M => hm_K i 1 0 v z) (P := fun z : hh_M => hm_K i 2 0 v z) (hm_look hG hB0 hi (by decide)) (fun z h => ?_)
    exact hh_let_p (A := fun z : hh_M => hm_K i 2 0 v z) (P := fun z : hh_M => hm_K i 2 0 v z) (h.tr (hm_look (hG.K h) (h.B (by unfold hm_BB at hB; omega)) hi (by decide))) (fun z h => h)
  · show hf_X5_lookAtLeg (hf_X5_lookAtLeg v 0 i 0) 0 i 1 = v
    rw [hm_look_id c, hm_look_id c]
theorem hm_l139 (hi : i < 24) (hG : hm_G v) (hB : hm_BB 600000 i v) : hm_K i 0 3 v (hl_X5_second_139 0 i v) ∧ (v (hh_cI 0 i) 6 ≠ 0 → hl_X5_second_139 0 i v = v) := by
  unfold hl_X5_second_139
  have hB0 : hm_B i v := by unfold hm_BB at hB; unfold hm_B; omega
  refine ⟨?_, fun c => ?_⟩
  · exact hh_let_p (A := fun z : hh_M => hm_K i 0 3 v z) (P := fun z : hh_M => hm_K i 0 3 v z) (hm_charge hG hB0 hi) (fun z h => h)
  · show hf_X5_charge v 0 i = v
    rw [hm_charge_id c]
end HMS
