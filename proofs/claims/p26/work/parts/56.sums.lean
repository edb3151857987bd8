/-! the sums that many() tells -/
def hs_sum (f : Nat → Int) : Nat → Int
  | 0 => 0
  | n + 1 => hs_sum f n + f n
theorem hs_nn {f : Nat → Int} {n : Nat} (h : ∀ i, i < n → 0 ≤ f i) : 0 ≤ hs_sum f n := by
  induction n with
  | zero => exact Int.le_refl _
  | succ n ih =>
    have h1 := ih (fun i hi => h i (Nat.lt_succ_of_lt hi))
    have h2 := h n (Nat.lt_succ_self n)
    show 0 ≤ hs_sum f n + f n
    omega
theorem hs_le {f g : Nat → Int} {n : Nat} (h : ∀ i, i < n → f i ≤ g i) : hs_sum f n ≤ hs_sum g n := by
  induction n with
  | zero => exact Int.le_refl _
  | succ n ih =>
    have h1 := ih (fun i hi => h i (Nat.lt_succ_of_lt hi))
    have h2 := h n (Nat.lt_succ_self n)
    show hs_sum f n + f n ≤ hs_sum g n + g n
    omega
theorem hs_ext {f : Nat → Int} {n m : Nat} (hnm : n ≤ m) (h : ∀ i, i < m → 0 ≤ f i) : hs_sum f n ≤ hs_sum f m := by
  induction m with
  | zero => rw [Nat.le_zero.mp hnm]; exact Int.le_refl _
  | succ m ih =>
    by_cases c : n = m + 1
    · rw [c]; exact Int.le_refl _
    · have h1 := ih (by omega) (fun i hi => h i (Nat.lt_succ_of_lt hi))
      have h2 := h m (Nat.lt_succ_self m)
      show _ ≤ hs_sum f m + f m
      omega
theorem hs_mem {f : Nat → Int} {n i : Nat} (hi : i < n) (h : ∀ i, i < n → 0 ≤ f i) : f i ≤ hs_sum f n := by
  have h1 : hs_sum f (i + 1) ≤ hs_sum f n := hs_ext hi h
  have h2 : 0 ≤ hs_sum f i := hs_nn (fun k hk => h k (by omega))
  have h3 : hs_sum f (i + 1) = hs_sum f i + f i := rfl
  omega
theorem hs_bd {f : Nat → Int} {n : Nat} (h : ∀ i, i < n → 0 ≤ f i ∧ f i ≤ 1000000) : 0 ≤ hs_sum f n ∧ hs_sum f n ≤ 1000000 * n := by
  induction n with
  | zero => exact ⟨Int.le_refl _, by show (0 : Int) ≤ 1000000 * ((0 : Nat) : Int); decide⟩
  | succ n ih =>
    have h1 := ih (fun i hi => h i (Nat.lt_succ_of_lt hi))
    have h2 := h n (Nat.lt_succ_self n)
    show 0 ≤ hs_sum f n + f n ∧ hs_sum f n + f n ≤ _
    omega
theorem hs_fld {f : Nat → Int32 → Int32} {F : Nat → Int} {n : Nat} (hn : n ≤ 100) (hb : ∀ i, i < n → 0 ≤ F i ∧ F i ≤ 1000000) (h : ∀ i z, i < n → 0 ≤ z.toInt ∧ z.toInt ≤ 100000000 → (f i z).toInt = z.toInt + F i) : (hh_fld f n 0).toInt = hs_sum F n := by
  induction n with
  | zero => rfl
  | succ n ih =>
    have h1 := ih (by omega) (fun i hi => hb i (Nat.lt_succ_of_lt hi)) (fun i z hi => h i z (Nat.lt_succ_of_lt hi))
    have h2 := hs_bd (fun i hi => hb i (Nat.lt_succ_of_lt hi))
    show (f n (hh_fld f n 0)).toInt = hs_sum F n + F n
    rw [h n _ (Nat.lt_succ_self n) (by omega), h1]
section HSM
variable {v w : hh_M} {n m : Nat}
theorem hs_calls {e : Int32} {k : Nat} (he : ∀ i, hf_X0_fact v 0 i e = v (hh_cI 0 i) k) (hN : (v (hh_rI 0) 6).toNatClampNeg = n) (hn : n ≤ 24) (hb : ∀ i, i < 24 → 0 ≤ (v (hh_cI 0 i) k).toInt ∧ (v (hh_cI 0 i) k).toInt ≤ 1000000) : (hf_X5_sumOfCalls v 0 e).toInt = hs_sum (fun i => (v (hh_cI 0 i) k).toInt) n := by
  have hf : (hh_fld (fun (i9 : Nat) (z : Int32) => hl_X5_sumOfCalls_4 v 0 e i9 z) n 0).toInt = hs_sum (fun i => (v (hh_cI 0 i) k).toInt) n := hs_fld (by omega) (fun i hi => hb i (by omega)) (fun i z hi hz => by
    have hbi := hb i (by omega)
    unfold hl_X5_sumOfCalls_4
    refine hh_let_p (A := fun q : Int32 => q = v (hh_cI 0 i) k) (P := fun q : Int32 => q.toInt = z.toInt + (v (hh_cI 0 i) k).toInt) (he i) (fun q hq => ?_)
    refine hh_let_p (A := fun x : Int32 => x.toInt = z.toInt + (v (hh_cI 0 i) k).toInt) (P := fun q : Int32 => q.toInt = z.toInt + (v (hh_cI 0 i) k).toInt) ?_ (fun x hx => hx)
    rw [hq]
    exact hh_add (by omega))
  unfold hf_X5_sumOfCalls
  rw [hN]
  exact hh_let_p (A := fun z : Int32 => z.toInt = hs_sum (fun i => (v (hh_cI 0 i) k).toInt) n) (P := fun z : Int32 => z.toInt = hs_sum (fun i => (v (hh_cI 0 i) k).toInt) n) hf (fun z hz => hz)
theorem hs_hands {e : Int32} {k : Nat} (he : ∀ i, hf_X1_fact v 0 i e = v (hh_hI 0 i) k) (hN : (v (hh_rI 0) 5).toNatClampNeg = n) (hn : n ≤ 8) (hb : ∀ i, i < 8 → 0 ≤ (v (hh_hI 0 i) k).toInt ∧ (v (hh_hI 0 i) k).toInt ≤ 1000000) : (hf_X5_sumOfHandsets v 0 e).toInt = hs_sum (fun i => (v (hh_hI 0 i) k).toInt) n := by
  have hf : (hh_fld (fun (i9 : Nat) (z : Int32) => hl_X5_sumOfHandsets_4 v 0 e i9 z) n 0).toInt = hs_sum (fun i => (v (hh_hI 0 i) k).toInt) n := hs_fld (by omega) (fun i hi => hb i (by omega)) (fun i z hi hz => by
    have hbi := hb i (by omega)
    unfold hl_X5_sumOfHandsets_4
    refine hh_let_p (A := fun q : Int32 => q = v (hh_hI 0 i) k) (P := fun q : Int32 => q.toInt = z.toInt + (v (hh_hI 0 i) k).toInt) (he i) (fun q hq => ?_)
    refine hh_let_p (A := fun x : Int32 => x.toInt = z.toInt + (v (hh_hI 0 i) k).toInt) (P := fun q : Int32 => q.toInt = z.toInt + (v (hh_hI 0 i) k).toInt) ?_ (fun x hx => hx)
    rw [hq]
    exact hh_add (by omega))
  unfold hf_X5_sumOfHandsets
  rw [hN]
  exact hh_let_p (A := fun z : Int32 => z.toInt = hs_sum (fun i => (v (hh_hI 0 i) k).toInt) n) (P := fun z : Int32 => z.toInt = hs_sum (fun i => (v (hh_hI 0 i) k).toInt) n) hf (fun z hz => hz)
theorem hs_that {e : Int32} (hN : (v (hh_rI 0) 6).toNatClampNeg = n) (hn : n ≤ 24) : (hf_X5_callsThat v 0 e).toInt = hs_sum (fun i => if v (hh_cI 0 i) 6 = e then 1 else 0) n := by
  have hf : (hh_fld (fun (i9 : Nat) (z : Int32) => hl_X5_callsThat_4 v 0 e i9 z) n 0).toInt = hs_sum (fun i => if v (hh_cI 0 i) 6 = e then 1 else 0) n := hs_fld (by omega) (fun i hi => by split <;> decide) (fun i z hi hz => by
    have one : (1 : Int32).toInt = 1 := rfl
    unfold hl_X5_callsThat_4
    by_cases c : v (hh_cI 0 i) 6 = e
    · rw [if_pos c, if_pos c]
      refine hh_let_p (A := fun x : Int32 => x.toInt = z.toInt + 1) (P := fun q : Int32 => q.toInt = z.toInt + 1) ?_ (fun x hx => hx)
      exact (hh_add (by rw [one]; omega)).trans (by rw [one])
    · rw [if_neg c, if_neg c]
      omega)
  unfold hf_X5_callsThat
  rw [hN]
  exact hh_let_p (A := fun z : Int32 => z.toInt = hs_sum (fun i => if v (hh_cI 0 i) 6 = e then 1 else 0) n) (P := fun z : Int32 => z.toInt = hs_sum (fun i => if v (hh_cI 0 i) 6 = e then 1 else 0) n) hf (fun z hz => hz)
theorem hs_found_1 {i : Nat} (c : v (hh_hI 0 i) 5 = -1) : hf_X5_wouldBeFound v 0 i = 0 := by
  have ia : ∀ ar, hf_X5_isInArea v 0 i ar = 0 := fun ar => by unfold hf_X5_isInArea; rw [if_pos c]
  unfold hf_X5_wouldBeFound
  refine hh_let_p (A := fun _ : Int32 => True) (P := fun z : Int32 => z = 0) trivial (fun x4 _ => ?_)
  refine iteInduction (motive := fun z : Int32 => z = 0) (fun _ => by rw [if_pos c]) (fun _ => ?_)
  refine hh_let_p (A := fun q : Int32 => q = 0) (P := fun z : Int32 => z = 0) (ia _) (fun q h => ?_)
  rw [if_pos h]
  refine hh_let_p (A := fun q : Int32 => q = 0) (P := fun z : Int32 => z = 0) (ia _) (fun q h => ?_)
  rw [if_pos h]
  refine hh_let_p (A := fun q : Int32 => q = 0) (P := fun z : Int32 => z = 0) (ia _) (fun q h => ?_)
  rw [if_pos h]
theorem hs_found (hN : (v (hh_rI 0) 5).toNatClampNeg = n) (hn : n ≤ 8) : 0 ≤ (hf_X5_handsetsToBeFound v 0).toInt ∧ (hf_X5_handsetsToBeFound v 0).toInt ≤ hs_sum (fun i => if v (hh_hI 0 i) 5 = -1 then 0 else 1) n := by
  have one : (1 : Int32).toInt = 1 := rfl
  have hf := hh_fld_in (f := fun (i9 : Nat) (z : Int32) => hl_X5_handsetsToBeFound_4 v 0 i9 z) (n := n) (s := 0) (I := fun i (z : Int32) => (0 ≤ z.toInt ∧ z.toInt ≤ i) ∧ z.toInt ≤ hs_sum (fun i => if v (hh_hI 0 i) 5 = -1 then 0 else 1) i) ⟨⟨Int.le_refl _, Int.le_refl _⟩, Int.le_refl _⟩ (fun i z hi hz => by
    have h1 := hm_one hz.1 (by omega)
    have hs : hs_sum (fun i => if v (hh_hI 0 i) 5 = -1 then 0 else 1) (i + 1) = hs_sum (fun i => if v (hh_hI 0 i) 5 = -1 then 0 else 1) i + (if v (hh_hI 0 i) 5 = -1 then 0 else 1) := rfl
    show (0 ≤ (hl_X5_handsetsToBeFound_4 v 0 i z).toInt ∧ (hl_X5_handsetsToBeFound_4 v 0 i z).toInt ≤ ((i + 1 : Nat) : Int)) ∧ (hl_X5_handsetsToBeFound_4 v 0 i z).toInt ≤ _
    rw [hs]
    unfold hl_X5_handsetsToBeFound_4
    by_cases c : v (hh_hI 0 i) 5 = -1
    · refine hh_let_p (A := fun q : Int32 => q = 0) (P := fun y : Int32 => (0 ≤ y.toInt ∧ y.toInt ≤ ((i + 1 : Nat) : Int)) ∧ y.toInt ≤ hs_sum (fun i => if v (hh_hI 0 i) 5 = -1 then 0 else 1) i + (if v (hh_hI 0 i) 5 = -1 then 0 else 1)) (hs_found_1 c) (fun q hq => ?_)
      rw [if_pos hq, if_pos c]
      omega
    · rw [if_neg c]
      refine hh_let_p (A := fun _ : Int32 => True) (P := fun y : Int32 => (0 ≤ y.toInt ∧ y.toInt ≤ ((i + 1 : Nat) : Int)) ∧ y.toInt ≤ hs_sum (fun i => if v (hh_hI 0 i) 5 = -1 then 0 else 1) i + 1) trivial (fun q _ => ?_)
      refine iteInduction (motive := fun y : Int32 => (0 ≤ y.toInt ∧ y.toInt ≤ ((i + 1 : Nat) : Int)) ∧ y.toInt ≤ hs_sum (fun i => if v (hh_hI 0 i) 5 = -1 then 0 else 1) i + 1) (fun _ => by omega) (fun _ => ?_)
      refine hh_let_p (A := fun y : Int32 => y = z + 1) (P := fun y : Int32 => (0 ≤ y.toInt ∧ y.toInt ≤ ((i + 1 : Nat) : Int)) ∧ y.toInt ≤ hs_sum (fun i => if v (hh_hI 0 i) 5 = -1 then 0 else 1) i + 1) rfl (fun y hy => ?_)
      have p : (z + 1).toInt = z.toInt + 1 := (hh_add (by rw [one]; omega)).trans (by rw [one])
      rw [hy]
      omega)
  unfold hf_X5_handsetsToBeFound
  rw [hN]
  exact hh_let_p (A := fun z : Int32 => (0 ≤ z.toInt ∧ z.toInt ≤ n) ∧ z.toInt ≤ hs_sum (fun i => if v (hh_hI 0 i) 5 = -1 then 0 else 1) n) (P := fun z : Int32 => 0 ≤ z.toInt ∧ z.toInt ≤ hs_sum (fun i => if v (hh_hI 0 i) 5 = -1 then 0 else 1) n) hf (fun z hz => ⟨hz.1.1, hz.2⟩)
end HSM
