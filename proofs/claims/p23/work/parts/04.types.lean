/-! WHAT EVERY NUMBER OF THE WORLD KEEPS TO (its range): enough for every access of every method. nm: masts told; nh r, nc r: handsets, calls of road r -/
def hh_R (nm : Nat) (nh nc : Nat → Nat) (j k : Nat) (x : Int32) : Prop := match hh_kd j, k with
  | 1, 2 => x = nI nm
  | 8, 6 => x = 0 ∨ x = 1
  | 10, 5 => x = nI (nh (hh_rd j))
  | 10, 6 => x = nI (nc (hh_rd j))
  | 15, 1 => 0 ≤ x ∧ x ≤ 99
  | 15, 2 => -3 ≤ x ∧ x ≤ 3
  | 15, 4 => x = 0 ∨ x = 1
  | 15, 5 => -1 ≤ x ∧ x < nI nm
  | 15, 6 => -1 ≤ x ∧ x < nI 24
  | 17, 0 => -1 ≤ x ∧ x < nI (nh (hh_rd j))
  | 17, 1 => -1 ≤ x ∧ x < nI nm
  | _, _ => True
def hh_T (nm : Nat) (nh nc : Nat → Nat) (v : hh_M) : Prop := nm ≤ 6 ∧ (∀ r, nh r ≤ 8) ∧ (∀ r, nc r ≤ 24) ∧ ∀ j k, hh_R nm nh nc j k (v j k)
section HHT
variable {nm : Nat} {nh nc : Nat → Nat} {v : hh_M}
theorem hh_T_up (hT : hh_T nm nh nc v) {j k : Nat} {x : Int32} (h : hh_R nm nh nc j k x) : hh_T nm nh nc (hh_up v j k x) := by
  refine ⟨hT.1, hT.2.1, hT.2.2.1, fun a b => ?_⟩
  unfold hh_up
  by_cases e : a = j ∧ b = k
  · rw [if_pos e, e.1, e.2]; exact h
  · rw [if_neg e]; exact hT.2.2.2 a b
theorem hh_T_M (hT : hh_T nm nh nc v) : v 1 2 = nI nm := hT.2.2.2 1 2
theorem hh_T_r5 (hT : hh_T nm nh nc v) (r : Nat) : v (hh_rI r) 5 = nI (nh r) := by have h := hT.2.2.2 (hh_rI r) 5; simp only [hh_R, hh_kd_r, hh_rd_r] at h; exact h
theorem hh_T_r6 (hT : hh_T nm nh nc v) (r : Nat) : v (hh_rI r) 6 = nI (nc r) := by have h := hT.2.2.2 (hh_rI r) 6; simp only [hh_R, hh_kd_r, hh_rd_r] at h; exact h
theorem hh_T_m6 (hT : hh_T nm nh nc v) {i : Nat} (hi : i < 6) : v (hh_mI i) 6 = 0 ∨ v (hh_mI i) 6 = 1 := by have h := hT.2.2.2 (hh_mI i) 6; simp only [hh_R, hh_kd_m hi] at h; exact h
theorem hh_T_h1 (hT : hh_T nm nh nc v) (r : Nat) {i : Nat} (hi : i < 8) : 0 ≤ v (hh_hI r i) 1 ∧ v (hh_hI r i) 1 ≤ 99 := by have h := hT.2.2.2 (hh_hI r i) 1; simp only [hh_R, hh_kd_h r hi] at h; exact h
theorem hh_T_h2 (hT : hh_T nm nh nc v) (r : Nat) {i : Nat} (hi : i < 8) : -3 ≤ v (hh_hI r i) 2 ∧ v (hh_hI r i) 2 ≤ 3 := by have h := hT.2.2.2 (hh_hI r i) 2; simp only [hh_R, hh_kd_h r hi] at h; exact h
theorem hh_T_h4 (hT : hh_T nm nh nc v) (r : Nat) {i : Nat} (hi : i < 8) : v (hh_hI r i) 4 = 0 ∨ v (hh_hI r i) 4 = 1 := by have h := hT.2.2.2 (hh_hI r i) 4; simp only [hh_R, hh_kd_h r hi] at h; exact h
theorem hh_T_h5 (hT : hh_T nm nh nc v) (r : Nat) {i : Nat} (hi : i < 8) : -1 ≤ v (hh_hI r i) 5 ∧ v (hh_hI r i) 5 < nI nm := by have h := hT.2.2.2 (hh_hI r i) 5; simp only [hh_R, hh_kd_h r hi] at h; exact h
theorem hh_T_h6 (hT : hh_T nm nh nc v) (r : Nat) {i : Nat} (hi : i < 8) : -1 ≤ v (hh_hI r i) 6 ∧ v (hh_hI r i) 6 < nI 24 := by have h := hT.2.2.2 (hh_hI r i) 6; simp only [hh_R, hh_kd_h r hi] at h; exact h
theorem hh_T_g0 (hT : hh_T nm nh nc v) (r : Nat) {i g : Nat} (hi : i < 24) (hg : g < 2) : -1 ≤ v (hh_gI r i g) 0 ∧ v (hh_gI r i g) 0 < nI (nh r) := by have h := hT.2.2.2 (hh_gI r i g) 0; simp only [hh_R, hh_kd_g r hi hg, hh_rd_g r hi hg] at h; exact h
theorem hh_T_g1 (hT : hh_T nm nh nc v) (r : Nat) {i g : Nat} (hi : i < 24) (hg : g < 2) : -1 ≤ v (hh_gI r i g) 1 ∧ v (hh_gI r i g) 1 < nI nm := by have h := hT.2.2.2 (hh_gI r i g) 1; simp only [hh_R, hh_kd_g r hi hg] at h; exact h
/-- a number that is in its range and not NONE is a place -/
theorem hh_in {x : Int32} {n M : Nat} (h : -1 ≤ x ∧ x < nI n) (hne : ¬ x = -1) (hM : n ≤ M) (hM2 : M < 2 ^ 31) : vp_in x M := by
  have h1 := Int32.le_iff_toInt_le.mp h.1
  have h2 := Int32.lt_iff_toInt_lt.mp h.2
  rw [nI_toInt (by omega)] at h2
  have h3 : x.toInt ≠ -1 := fun e => hne (Int32.toInt_inj.mp e)
  rw [vp_in_iff]
  have h4 : (-1 : Int32).toInt = -1 := rfl
  rw [h4] at h1
  omega
theorem hh_inZ {x : Int32} {n M : Nat} (h0 : 0 ≤ x) (h : x < nI n) (hM : n ≤ M) (hM2 : M < 2 ^ 31) : vp_in x M := by
  have h1 := Int32.le_iff_toInt_le.mp h0
  have h2 := Int32.lt_iff_toInt_lt.mp h
  rw [nI_toInt (by omega)] at h2
  rw [vp_in_iff]
  have h4 : (0 : Int32).toInt = 0 := rfl
  rw [h4] at h1
  omega
theorem hh_in99 {x : Int32} (h : 0 ≤ x ∧ x ≤ 99) : vp_in x 100 := by
  have h1 := Int32.le_iff_toInt_le.mp h.1
  have h2 := Int32.le_iff_toInt_le.mp h.2
  rw [vp_in_iff]
  have h4 : (0 : Int32).toInt = 0 := rfl
  have h5 : (99 : Int32).toInt = 99 := rfl
  rw [h4] at h1
  rw [h5] at h2
  omega
theorem hh_lt {x : Int32} {n : Nat} (h : vp_in x n) : x.toNatClampNeg < n := Nat.not_le.mp fun q => h (Or.inr q)
end HHT
def hh_fld {σ : Type} (f : Nat → σ → σ) : Nat → σ → σ
  | 0, s => s
  | n + 1, s => f n (hh_fld f n s)
theorem hh_sw {x : Int32} {n : Nat} (h : ∀ k, k < n → ¬ x = nI k) (hn : n < 2 ^ 31) : x.toInt < 0 ∨ (n : Int) - 1 < x.toInt := by
  by_cases h0 : x.toInt < 0
  · exact Or.inl h0
  · refine Or.inr (Int.not_le.mp fun q => ?_)
    refine h x.toInt.toNat (by omega) (Int32.toInt_inj.mp ?_)
    rw [nI_toInt (by omega)]
    omega
theorem hh_nz {x : Int32} (h : x = 0 ∨ x = 1) : narrow .boolean (.int x) = .int x := by rcases h with rfl | rfl <;> rfl
theorem hh_fz {x : Int32} (h : x = 0 ∨ x = 1) : fits .boolean (.int x) = true := by rcases h with rfl | rfl <;> rfl
theorem hh_sw2 {x : Int32} (h7 : ¬ x = 7) (h8 : ¬ x = 8) (h9 : ¬ x = 9) : x.toInt < 7 ∨ 9 < x.toInt := by
  have e7 : x.toInt ≠ 7 := fun e => h7 (Int32.toInt_inj.mp e)
  have e8 : x.toInt ≠ 8 := fun e => h8 (Int32.toInt_inj.mp e)
  have e9 : x.toInt ≠ 9 := fun e => h9 (Int32.toInt_inj.mp e)
  omega
section HHQ
variable {nm : Nat} {nh nc : Nat → Nat} {x : Int32} {r i g k : Nat}
theorem hh_Rt_h (_ : r < 2) (hi : i < 8) (hk : k ≠ 1 ∧ k ≠ 2 ∧ k ≠ 4 ∧ k ≠ 5 ∧ k ≠ 6) : hh_R nm nh nc (hh_hI r i) k x := by
  unfold hh_R
  rw [hh_kd_h r hi]
  split <;> simp_all
theorem hh_Rt_c (_ : r < 2) (hi : i < 24) (_ : k < 7) : hh_R nm nh nc (hh_cI r i) k x := by
  unfold hh_R
  rw [hh_kd_c r hi]
  split <;> simp_all
theorem hh_Rt_g (_ : r < 2) (hi : i < 24) (hg : g < 2) (hk : k ≠ 0 ∧ k ≠ 1) : hh_R nm nh nc (hh_gI r i g) k x := by
  unfold hh_R
  rw [hh_kd_g r hi hg]
  split <;> simp_all
theorem hh_Rt_m (hi : i < 6) (hk : k ≠ 6) : hh_R nm nh nc (hh_mI i) k x := by
  unfold hh_R
  rw [hh_kd_m hi]
  split <;> simp_all
theorem hh_Rt_r (_ : r < 2) (hk : k ≠ 5 ∧ k ≠ 6) : hh_R nm nh nc (hh_rI r) k x := by
  unfold hh_R
  rw [hh_kd_r r]
  split <;> simp_all
theorem hh_Rt_l (_ : r < 2) : hh_R nm nh nc (hh_lI r) k x := by
  unfold hh_R
  rw [hh_kd_l r]
  split <;> simp_all
theorem hh_Rt_k (_ : r < 2) : hh_R nm nh nc (hh_kI r) k x := by
  unfold hh_R
  rw [hh_kd_k r]
  split <;> simp_all
theorem hh_Rt_b (hi : i < 6) : hh_R nm nh nc (hh_bI i) k x := by
  unfold hh_R
  rw [hh_kd_b hi]
  split <;> simp_all
theorem hh_Rt_sU : hh_R nm nh nc 5 k x := by
  unfold hh_R
  split <;> simp_all [hh_kd]
theorem hh_Rt_sD : hh_R nm nh nc 6 k x := by
  unfold hh_R
  split <;> simp_all [hh_kd]
theorem hh_Rt_sN : hh_R nm nh nc 7 k x := by
  unfold hh_R
  split <;> simp_all [hh_kd]
theorem hh_R_h1 (_ : r < 2) (hi : i < 8) (h : 0 ≤ x ∧ x ≤ 99) : hh_R nm nh nc (hh_hI r i) 1 x := by unfold hh_R; rw [hh_kd_h r hi]; exact h
theorem hh_R_h2 (_ : r < 2) (hi : i < 8) (h : -3 ≤ x ∧ x ≤ 3) : hh_R nm nh nc (hh_hI r i) 2 x := by unfold hh_R; rw [hh_kd_h r hi]; exact h
theorem hh_R_h4 (_ : r < 2) (hi : i < 8) (h : x = 0 ∨ x = 1) : hh_R nm nh nc (hh_hI r i) 4 x := by unfold hh_R; rw [hh_kd_h r hi]; exact h
theorem hh_R_h5 (_ : r < 2) (hi : i < 8) (h : -1 ≤ x ∧ x < nI nm) : hh_R nm nh nc (hh_hI r i) 5 x := by unfold hh_R; rw [hh_kd_h r hi]; exact h
theorem hh_R_h6 (_ : r < 2) (hi : i < 8) (h : -1 ≤ x ∧ x < nI 24) : hh_R nm nh nc (hh_hI r i) 6 x := by unfold hh_R; rw [hh_kd_h r hi]; exact h
theorem hh_R_g0 (_ : r < 2) (hi : i < 24) (hg : g < 2) (h : -1 ≤ x ∧ x < nI (nh r)) : hh_R nm nh nc (hh_gI r i g) 0 x := by unfold hh_R; rw [hh_kd_g r hi hg, hh_rd_g r hi hg]; exact h
theorem hh_R_g1 (_ : r < 2) (hi : i < 24) (hg : g < 2) (h : -1 ≤ x ∧ x < nI nm) : hh_R nm nh nc (hh_gI r i g) 1 x := by unfold hh_R; rw [hh_kd_g r hi hg]; exact h
theorem hh_R_m6 (hi : i < 6) (h : x = 0 ∨ x = 1) : hh_R nm nh nc (hh_mI i) 6 x := by unfold hh_R; rw [hh_kd_m hi]; exact h
end HHQ
theorem hh_rg {i n : Nat} (h : i < n) (hn : n < 2 ^ 30) : -1 ≤ nI i ∧ nI i < nI n := by
  refine ⟨Int32.le_iff_toInt_le.mpr ?_, nI_lt h (by omega)⟩
  rw [nI_toInt (by omega), show (-1 : Int32).toInt = -1 from rfl]
  omega
theorem hh_rg0 {n : Nat} (hn : n < 2 ^ 30) : (-1 : Int32) ≤ -1 ∧ (-1 : Int32) < nI n := by
  refine ⟨Int32.le_iff_toInt_le.mpr (by decide), Int32.lt_iff_toInt_lt.mpr ?_⟩
  rw [nI_toInt (by omega), show (-1 : Int32).toInt = -1 from rfl]
  omega
theorem hh_upk {v : hh_M} {j k k' : Nat} {x : Int32} (h : k' ≠ k) : hh_up v j k x j k' = v j k' := by simp [hh_up, h]
theorem hh_upj {v : hh_M} {j j' k k' : Nat} {x : Int32} (h : j' ≠ j) : hh_up v j k x j' k' = v j' k' := by simp [hh_up, h]
theorem hh_ups {v : hh_M} {j k : Nat} {x : Int32} : hh_up v j k x j k = x := by simp [hh_up]
/-- sums of small numbers -/
theorem hh_add {x y : Int32} (h : -1000000000 ≤ x.toInt + y.toInt ∧ x.toInt + y.toInt ≤ 1000000000) : (x + y).toInt = x.toInt + y.toInt := by
  rw [Int32.toInt_add]
  exact Int.bmod_eq_of_le (by omega) (by omega)
theorem hh_sub {x y : Int32} (h : -1000000000 ≤ x.toInt - y.toInt ∧ x.toInt - y.toInt ≤ 1000000000) : (x - y).toInt = x.toInt - y.toInt := by
  rw [Int32.toInt_sub]
  exact Int.bmod_eq_of_le (by omega) (by omega)
theorem hh_neg {x : Int32} (h : -1000000000 ≤ x.toInt ∧ x.toInt ≤ 1000000000) : (-x).toInt = -x.toInt := by
  rw [Int32.toInt_neg]
  exact Int.bmod_eq_of_le (by omega) (by omega)

theorem hh_uu {v : hh_M} {j k : Nat} {x y : Int32} : hh_up (hh_up v j k x) j k y = hh_up v j k y := by
  funext a b
  simp only [hh_up]
  split <;> rfl
def hh_fu (f : Nat → Nat) (r n : Nat) : Nat → Nat := fun q => if q = r then n else f q
theorem hh_fu_s {f : Nat → Nat} {r n : Nat} : hh_fu f r n r = n := by simp [hh_fu]
theorem hh_fu_n {f : Nat → Nat} {r n q : Nat} (h : q ≠ r) : hh_fu f r n q = f q := by simp [hh_fu, h]
theorem hh_fu_i {f : Nat → Nat} {r : Nat} : hh_fu f r (f r) = f := by funext q; simp only [hh_fu]; split <;> simp_all
section HHU
variable {nm : Nat} {nh nc : Nat → Nat} {v : hh_M}
/-- of a road the numbers of handsets or calls change -/
theorem hh_T_nh (hT : hh_T nm nh nc v) {r n : Nat} {x : Int32} (hr : r < 2) (hn : n ≤ 8) (hle : nh r ≤ n) (hx : x = nI n) : hh_T nm (hh_fu nh r n) nc (hh_up v (hh_rI r) 5 x) := by
  refine ⟨hT.1, fun q => ?_, hT.2.2.1, fun a b => ?_⟩
  · unfold hh_fu; split; exact hn; exact hT.2.1 q
  · by_cases e : a = hh_rI r ∧ b = 5
    · obtain ⟨rfl, rfl⟩ := e
      rw [hh_ups]
      unfold hh_R
      rw [hh_kd_r, hh_rd_r, hh_fu_s]
      exact hx
    · have h := hT.2.2.2 a b
      have e2 : hh_up v (hh_rI r) 5 x a b = v a b := by unfold hh_up; rw [if_neg e]
      rw [e2]
      have hlt : ∀ y : Int32, y < nI (nh (hh_rd a)) → y < nI (hh_fu nh r n (hh_rd a)) := fun y hy => by
        by_cases e4 : hh_rd a = r
        · rw [e4, hh_fu_s]
          rw [e4] at hy
          rw [Int32.lt_iff_toInt_lt] at hy ⊢
          rw [nI_toInt (by omega)] at hy ⊢
          omega
        · rw [hh_fu_n e4]; exact hy
      unfold hh_R at h ⊢
      split at h
      all_goals first | exact ⟨h.1, hlt _ h.2⟩ | exact h | skip
      rename_i h1
      have : hh_rd a ≠ r := by
        intro e3
        refine e ⟨?_, rfl⟩
        unfold hh_kd at h1
        unfold hh_rd at e3
        unfold hh_rI
        split at h1
        · split at h1 <;> (try split at h1) <;> omega
        · split at h1 <;> (try split at h1) <;> (try split at h1) <;> omega
      rw [hh_fu_n this]
      exact h
theorem hh_T_nc (hT : hh_T nm nh nc v) {r n : Nat} {x : Int32} (hr : r < 2) (hn : n ≤ 24) (hx : x = nI n) : hh_T nm nh (hh_fu nc r n) (hh_up v (hh_rI r) 6 x) := by
  refine ⟨hT.1, hT.2.1, fun q => ?_, fun a b => ?_⟩
  · unfold hh_fu; split; exact hn; exact hT.2.2.1 q
  · by_cases e : a = hh_rI r ∧ b = 6
    · obtain ⟨rfl, rfl⟩ := e
      rw [hh_ups]
      unfold hh_R
      rw [hh_kd_r, hh_rd_r, hh_fu_s]
      exact hx
    · have h := hT.2.2.2 a b
      have e2 : hh_up v (hh_rI r) 6 x a b = v a b := by unfold hh_up; rw [if_neg e]
      rw [e2]
      unfold hh_R at h ⊢
      split at h
      all_goals try exact h
      rename_i h1
      have : hh_rd a ≠ r := by
        intro e3
        refine e ⟨?_, rfl⟩
        unfold hh_kd at h1
        unfold hh_rd at e3
        unfold hh_rI
        split at h1
        · split at h1 <;> (try split at h1) <;> omega
        · split at h1 <;> (try split at h1) <;> (try split at h1) <;> omega
      rw [hh_fu_n this]
      exact h
/-- a mast more -/
theorem hh_T_nm (hT : hh_T nm nh nc v) {n : Nat} {x : Int32} (hn : n ≤ 6) (hm : nm ≤ n) (hx : x = nI n) : hh_T n nh nc (hh_up v 1 2 x) := by
  refine ⟨hn, hT.2.1, hT.2.2.1, fun a b => ?_⟩
  by_cases e : a = 1 ∧ b = 2
  · obtain ⟨rfl, rfl⟩ := e
    rw [hh_ups]
    exact hx
  · have h := hT.2.2.2 a b
    have e2 : hh_up v 1 2 x a b = v a b := by unfold hh_up; rw [if_neg e]
    rw [e2]
    have hlt : ∀ y : Int32, y < nI nm → y < nI n := fun y hy => by
      rw [Int32.lt_iff_toInt_lt] at hy ⊢
      have h6 := hT.1
      rw [nI_toInt (by omega)] at hy ⊢
      omega
    unfold hh_R at h ⊢
    split at h
    all_goals first | exact h | exact ⟨h.1, hlt _ h.2⟩ | skip
    rename_i h1
    exfalso
    refine e ⟨?_, rfl⟩
    unfold hh_kd at h1
    split at h1
    · split at h1 <;> (try split at h1) <;> omega
    · split at h1 <;> (try split at h1) <;> (try split at h1) <;> omega
end HHU
theorem hh_upx {v : hh_M} {j j' k k' : Nat} {x : Int32} (h : k' ≠ k) : hh_up v j k x j' k' = v j' k' := by simp [hh_up, h]
theorem hh_ne_hr {r q i : Nat} (hr : r < 2) (hq : q < 2) (h : i < 8) : hh_hI r i ≠ hh_rI q := by unfold hh_hI hh_rI; rcases (show r = 0 ∨ r = 1 by omega) with rfl | rfl <;> rcases (show q = 0 ∨ q = 1 by omega) with rfl | rfl <;> omega
theorem hh_ne_hl {r q i : Nat} (hr : r < 2) (hq : q < 2) (h : i < 8) : hh_hI r i ≠ hh_lI q := by unfold hh_hI hh_lI; rcases (show r = 0 ∨ r = 1 by omega) with rfl | rfl <;> rcases (show q = 0 ∨ q = 1 by omega) with rfl | rfl <;> omega
theorem hh_ne_gl {r q i g : Nat} (hr : r < 2) (hq : q < 2) (h : i < 24) (hg : g < 2) : hh_gI r i g ≠ hh_lI q := by unfold hh_gI hh_lI; rcases (show r = 0 ∨ r = 1 by omega) with rfl | rfl <;> rcases (show q = 0 ∨ q = 1 by omega) with rfl | rfl <;> omega
theorem hh_ne_gc {r q i g c : Nat} (hr : r < 2) (hq : q < 2) (h : i < 24) (hg : g < 2) (hc : c < 24) : hh_gI r i g ≠ hh_cI q c := by unfold hh_gI hh_cI; rcases (show r = 0 ∨ r = 1 by omega) with rfl | rfl <;> rcases (show q = 0 ∨ q = 1 by omega) with rfl | rfl <;> omega
theorem hh_ne_hg {r q i h g : Nat} (hr : r < 2) (hq : q < 2) (hi : i < 8) (hh : h < 24) (hg : g < 2) : hh_hI r i ≠ hh_gI q h g := by unfold hh_hI hh_gI; rcases (show r = 0 ∨ r = 1 by omega) with rfl | rfl <;> rcases (show q = 0 ∨ q = 1 by omega) with rfl | rfl <;> omega
theorem hh_of_in {x : Int32} {n : Nat} (h : vp_in x n) (hn : n < 2 ^ 31) : -1 ≤ x ∧ x < nI n := by
  rw [vp_in_iff] at h
  rw [Int32.le_iff_toInt_le, Int32.lt_iff_toInt_lt, nI_toInt hn, show (-1 : Int32).toInt = -1 from rfl]
  omega
def hh_let {α β : Type} (a : α) (f : α → β) : β := f a
theorem hh_let_eq {α β : Type} {a q : α} {f : α → β} (h : q = a) : hh_let a f = f q := by rw [h]; rfl
theorem hh_nat {x : Int32} (h : 0 ≤ x) : x = nI x.toNatClampNeg := by
  obtain ⟨j, hj, rfl⟩ := nI_of (Int32.not_lt.mpr h)
  rw [nI_clamp hj]
theorem hh_nat_le {x : Int32} {n : Nat} (h0 : 0 ≤ x) (h : x ≤ nI n) (hn : n < 2 ^ 31) : x.toNatClampNeg ≤ n := by
  obtain ⟨j, hj, rfl⟩ := nI_of (Int32.not_lt.mpr h0)
  rw [nI_clamp hj]
  exact (nI_leI hj hn).mp h
/-- the same with other counts of the trial -/
def hh_TT (nm n c : Nat) (v : hh_M) : Prop := ∃ nh nc, hh_T nm nh nc v ∧ nh 0 = n ∧ nc 0 = c ∧ nh 1 ≤ n

/-- outside P nothing is written -/
def hh_F (P : Nat → Nat → Prop) (v w : hh_M) : Prop := ∀ j k, ¬ P j k → w j k = v j k
theorem hh_F_rf {P : Nat → Nat → Prop} {v : hh_M} : hh_F P v v := fun _ _ _ => rfl
theorem hh_F_up {P : Nat → Nat → Prop} {v w : hh_M} {j k : Nat} {x : Int32} (h : hh_F P v w) (hj : P j k) : hh_F P v (hh_up w j k x) := fun i b hi => by
  have e : ¬ (i = j ∧ b = k) := fun e => hi (by rw [e.1, e.2]; exact hj)
  show (if i = j ∧ b = k then x else w i b) = _
  rw [if_neg e]
  exact h i b hi
theorem hh_F.tr {P : Nat → Nat → Prop} {u v w : hh_M} (h : hh_F P u v) (h2 : hh_F P v w) : hh_F P u w := fun i k hi => (h2 i k hi).trans (h i k hi)
theorem hh_F.mo {P P' : Nat → Nat → Prop} {v w : hh_M} (h : hh_F P v w) (hp : ∀ j k, P j k → P' j k) : hh_F P' v w := fun i k hi => h i k (fun q => hi (hp i k q))
/-- of road r: itself, loads, what was carried, n handsets, c calls with their legs -/
def hh_Pn (r n c j k : Nat) : Prop := (j = 20 + 85 * r ∧ 5 ≤ k ∧ k < 10) ∨ (21 + 85 * r ≤ j ∧ j < 23 + 85 * r ∧ k < 6) ∨ (25 + 85 * r ≤ j ∧ j < 25 + 85 * r + n ∧ k < 13) ∨ (33 + 85 * r ≤ j ∧ j < 33 + 85 * r + c ∧ 2 ≤ k ∧ k < 7) ∨ (57 + 85 * r ≤ j ∧ j < 57 + 85 * r + 2 * c ∧ k < 6)
def hh_Ps (j k : Nat) : Prop := 5 ≤ j ∧ j < 8 ∧ k < 100
/-- what asking may write: of the trial what it copies, and the survey's rows -/
def hh_Pq (n c j k : Nat) : Prop := hh_Pn 1 n c j k ∨ hh_Ps j k
section HHP
variable {r i g n c k : Nat}
theorem hh_Pn_r (hk : 5 ≤ k ∧ k < 10) : hh_Pn r n c (hh_rI r) k := by unfold hh_Pn hh_rI; omega
theorem hh_Pn_l (hk : k < 6) : hh_Pn r n c (hh_lI r) k := by unfold hh_Pn hh_lI; omega
theorem hh_Pn_k (hk : k < 6) : hh_Pn r n c (hh_kI r) k := by unfold hh_Pn hh_kI; omega
theorem hh_Pn_h (hi : i < n) (hk : k < 13) : hh_Pn r n c (hh_hI r i) k := by unfold hh_Pn hh_hI; omega
theorem hh_Pn_c (hi : i < c) (hk : 2 ≤ k ∧ k < 7) : hh_Pn r n c (hh_cI r i) k := by unfold hh_Pn hh_cI; omega
theorem hh_Pn_g (hi : i < c) (hg : g < 2) (hk : k < 6) : hh_Pn r n c (hh_gI r i g) k := by unfold hh_Pn hh_gI; omega
theorem hh_Ps_5 (hk : k < 100) : hh_Ps 5 k := by unfold hh_Ps; omega
theorem hh_Ps_6 (hk : k < 100) : hh_Ps 6 k := by unfold hh_Ps; omega
theorem hh_Ps_7 (hk : k < 100) : hh_Ps 7 k := by unfold hh_Ps; omega
end HHP
theorem hh_ltn {x : Int32} {n : Nat} (h : -1 ≤ x ∧ x < nI n) (hne : ¬ x = -1) (hn : n < 2 ^ 31) : x.toNatClampNeg < n := hh_lt (hh_in h hne (Nat.le_refl n) hn)
