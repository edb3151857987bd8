/-! the constructor's cells are the world of 190 cells -/
def hn_v0 : hh_M := fun j k => match hh_kd j, k with
  | 15, 5 => -1
  | 15, 6 => -1
  | 15, 7 => -1
  | 15, 8 => -1
  | 17, 0 => -1
  | 17, 1 => -1
  | 17, 4 => -1
  | _, _ => 0
def hn_aR (h0 : Nat) (u : hn_U) (o : Nat) : Nat := if o = 0 then h0 else if o = 1 then u.1.1 else if o = 2 then u.1.2.1 else if o = 3 then u.1.2.2.1 else if o = 4 then u.1.2.2.2 else if o < 13 then u.2.1.1 (o - 5) else if o < 37 then u.2.1.2.1 (o - 13) else if (o - 37) % 2 = 0 then u.2.1.2.2.1 ((o - 37) / 2) else u.2.1.2.2.2 ((o - 37) / 2)
def hn_a (h0 : Nat) (u : hn_UX) (j : Nat) : Nat := if j < 20 then (if j = 0 then h0 else if j = 1 then u.1.1 else if j = 2 then u.2.1.1.1 else if j = 3 then u.2.1.1.2 else if j = 4 then u.1.2.2.2 else if j = 5 then u.2.2.2.2.1 else if j = 6 then u.2.2.2.2.2.1 else if j = 7 then u.2.2.2.2.2.2.1 else if j < 14 then u.2.1.2.1.1 (j - 8) else u.2.1.2.1.2 (j - 14)) else if j < 105 then hn_aR u.1.2.1 u.2.2.1 (j - 20) else hn_aR u.1.2.2.1 u.2.2.2.1 (j - 105)
def hn_Kf (u : hn_UX) : Nat → ClassId := fun t => match t with
  | 0 => u.2.1.2.2.2.2
  | 1 => u.2.1.2.2.2.1
  | 2 => u.2.1.2.2.1
  | 3 => u.2.2.1.2.2.2.1
  | _ => u.2.2.1.2.2.2.2
def hn_PR (b : Nat) : List Nat := ([b, b + 1, b + 2, b + 3] ++ (List.range 8).map (fun k => b + 5 + k) ++ [b + 4]) ++ (List.range 24).flatMap (fun k => [b + 13 + k, b + 37 + 2 * k, b + 38 + 2 * k])
def hn_P : List Nat := [0] ++ (([1, 2] ++ (List.range 6).map (fun k => 8 + k) ++ [3]) ++ (List.range 6).map (fun k => 14 + k)) ++ hn_PR 20 ++ hn_PR 105 ++ [4, 5, 6, 7]
theorem hn_P_all : (List.range 190).all (fun i => decide (hn_P[hn_P.idxOf i]? = some i)) = true := by decide +kernel
set_option maxRecDepth 100000 in
theorem hn_fst (h0 : Nat) (u : hn_UX) : (hn_WX h0 u).map Prod.fst = hn_P.map (hn_a h0 u) := by rfl
theorem hn_fst_at {ws : va_W} {A : Nat → Prop} (hD : va_D A ws) {i j : Nat} {a : Nat} (h1 : (ws.map Prod.fst)[i]? = some a) (h2 : (ws.map Prod.fst)[j]? = some a) : i = j := by
  rw [List.getElem?_map, Option.map_eq_some_iff] at h1 h2
  obtain ⟨p, hp, e1⟩ := h1
  obtain ⟨q, hq, e2⟩ := h2
  exact hD.1 i j p q hp hq (e1.trans e2.symm)
theorem hn_D {A : Nat → Prop} {h0 : Nat} {u : hn_UX} {K : Nat → ClassId} {v : hh_M} (hD : va_D A (hn_WX h0 u)) : va_D A (hh_W K (hn_a h0 u) v) := by
  have pos : ∀ i, i < 190 → ((hn_WX h0 u).map Prod.fst)[hn_P.idxOf i]? = some (hn_a h0 u i) := fun i hi => by
    have h := List.all_eq_true.mp hn_P_all i (List.mem_range.mpr hi)
    rw [hn_fst, List.getElem?_map, of_decide_eq_true h]
    rfl
  have idx : ∀ i, i < 190 → hn_P[hn_P.idxOf i]? = some i := fun i hi => of_decide_eq_true (List.all_eq_true.mp hn_P_all i (List.mem_range.mpr hi))
  have at_ : ∀ {i : Nat} {p : Nat × va_E}, (hh_W K (hn_a h0 u) v)[i]? = some p → i < 190 ∧ p.1 = hn_a h0 u i := fun {i p} h => by
    by_cases hi : i < 190
    · rw [hh_W_at hi] at h
      cases h
      exact ⟨hi, rfl⟩
    · rw [List.getElem?_eq_none (by simp [hh_W]; omega)] at h
      cases h
  refine ⟨fun i j p q hi hj e => ?_, fun k q hk => ?_⟩
  · obtain ⟨i1, ei⟩ := at_ hi
    obtain ⟨j1, ej⟩ := at_ hj
    have h1 := pos i i1
    have h2 := pos j j1
    rw [← ej, ← e, ei] at h2
    have h3 := hn_fst_at hD h1 h2
    have h4 := idx i i1
    have h5 := idx j j1
    rw [h3, h5] at h4
    exact (Option.some.inj h4).symm
  · obtain ⟨k1, ek⟩ := at_ hk
    have h1 := pos k k1
    rw [List.getElem?_map, Option.map_eq_some_iff] at h1
    obtain ⟨p, hp, e1⟩ := h1
    have := hD.2 _ p hp
    rw [ek, ← e1]
    exact this
theorem hn_row (c : ClassId) (n : Nat) {f g : Nat → Option Nat} (h : ∀ j, j < n → f j = g j) : vp_cell c (n, .inr (.inr (.inr (.inr f)))) = vp_cell c (n, .inr (.inr (.inr (.inr g)))) := by
  show arrV c n (fun j => va_rf (f j)) = arrV c n (fun j => va_rf (g j))
  unfold arrV
  congr 1
  first
    | (apply Array.ext
       · simp
       · intro i h1 h2
         simp only [Array.getElem_ofFn]
         rw [h i (by simpa using h1)])
    | (congr 1; funext j; rw [h j.val j.isLt])
theorem hn_cases {k : Nat} (hk : k < 190) : k < 8 ∨ (∃ i, i < 6 ∧ k = hh_mI i) ∨ (∃ i, i < 6 ∧ k = hh_bI i) ∨ ∃ r, r < 2 ∧ (k = hh_rI r ∨ k = hh_lI r ∨ k = hh_kI r ∨ k = hh_HI r ∨ k = hh_CI r ∨ (∃ i, i < 8 ∧ k = hh_hI r i) ∨ (∃ i, i < 24 ∧ k = hh_cI r i) ∨ (∃ i, i < 24 ∧ ∃ g, g < 2 ∧ k = hh_gI r i g)) := by
  unfold hh_mI hh_bI hh_rI hh_lI hh_kI hh_HI hh_CI hh_hI hh_cI hh_gI
  by_cases h1 : k < 8
  · exact Or.inl h1
  by_cases h2 : k < 14
  · exact Or.inr (Or.inl ⟨k - 8, by omega, by omega⟩)
  by_cases h3 : k < 20
  · exact Or.inr (Or.inr (Or.inl ⟨k - 14, by omega, by omega⟩))
  refine Or.inr (Or.inr (Or.inr ?_))
  have key : ∀ o r, o < 85 → k = 20 + 85 * r + o → r < 2 → ∃ r, r < 2 ∧ (k = 20 + 85 * r ∨ k = 21 + 85 * r ∨ k = 22 + 85 * r ∨ k = 23 + 85 * r ∨ k = 24 + 85 * r ∨ (∃ i, i < 8 ∧ k = 25 + 85 * r + i) ∨ (∃ i, i < 24 ∧ k = 33 + 85 * r + i) ∨ (∃ i, i < 24 ∧ ∃ g, g < 2 ∧ k = 57 + 85 * r + 2 * i + g)) := by
    intro o r ho hk hr
    refine ⟨r, hr, ?_⟩
    by_cases a0 : o = 0
    · exact Or.inl (by omega)
    by_cases a1 : o = 1
    · exact Or.inr (Or.inl (by omega))
    by_cases a2 : o = 2
    · exact Or.inr (Or.inr (Or.inl (by omega)))
    by_cases a3 : o = 3
    · exact Or.inr (Or.inr (Or.inr (Or.inl (by omega))))
    by_cases a4 : o = 4
    · exact Or.inr (Or.inr (Or.inr (Or.inr (Or.inl (by omega)))))
    by_cases a5 : o < 13
    · exact Or.inr (Or.inr (Or.inr (Or.inr (Or.inr (Or.inl ⟨o - 5, by omega, by omega⟩)))))
    by_cases a6 : o < 37
    · exact Or.inr (Or.inr (Or.inr (Or.inr (Or.inr (Or.inr (Or.inl ⟨o - 13, by omega, by omega⟩))))))
    · exact Or.inr (Or.inr (Or.inr (Or.inr (Or.inr (Or.inr (Or.inr ⟨(o - 37) / 2, by omega, (o - 37) % 2, by omega, by omega⟩))))))
  by_cases h4 : k < 105
  · exact key (k - 20) 0 (by omega) (by omega) (by omega)
  · exact key (k - 105) 1 (by omega) (by omega) (by omega)
section HNW
variable {h0 : Nat} {u : hn_UX}
theorem hn_a_m {i : Nat} (h : i < 6) : hn_a h0 u (hh_mI i) = u.2.1.2.1.1 i := by unfold hn_a hh_mI; rw [if_pos (by omega), if_neg (by omega), if_neg (by omega), if_neg (by omega), if_neg (by omega), if_neg (by omega), if_neg (by omega), if_neg (by omega), if_neg (by omega), if_pos (by omega), show 8 + i - 8 = i by omega]
theorem hn_a_b {i : Nat} (h : i < 6) : hn_a h0 u (hh_bI i) = u.2.1.2.1.2 i := by unfold hn_a hh_bI; rw [if_pos (by omega), if_neg (by omega), if_neg (by omega), if_neg (by omega), if_neg (by omega), if_neg (by omega), if_neg (by omega), if_neg (by omega), if_neg (by omega), if_neg (by omega), show 14 + i - 14 = i by omega]
theorem hn_a_0 {o : Nat} (h : o < 85) : hn_a h0 u (20 + o) = hn_aR u.1.2.1 u.2.2.1 o := by unfold hn_a; rw [if_neg (by omega), if_pos (by omega), show 20 + o - 20 = o by omega]
theorem hn_a_1 {o : Nat} (h : o < 85) : hn_a h0 u (105 + o) = hn_aR u.1.2.2.1 u.2.2.2.1 o := by unfold hn_a; rw [if_neg (by omega), if_neg (by omega), show 105 + o - 105 = o by omega]
theorem hn_aR_h {x : Nat} {w : hn_U} {i : Nat} (h : i < 8) : hn_aR x w (5 + i) = w.2.1.1 i := by unfold hn_aR; rw [if_neg (by omega), if_neg (by omega), if_neg (by omega), if_neg (by omega), if_neg (by omega), if_pos (by omega), show 5 + i - 5 = i by omega]
theorem hn_aR_c {x : Nat} {w : hn_U} {i : Nat} (h : i < 24) : hn_aR x w (13 + i) = w.2.1.2.1 i := by unfold hn_aR; rw [if_neg (by omega), if_neg (by omega), if_neg (by omega), if_neg (by omega), if_neg (by omega), if_neg (by omega), if_pos (by omega), show 13 + i - 13 = i by omega]
theorem hn_aR_g0 {x : Nat} {w : hn_U} {i : Nat} (h : i < 24) : hn_aR x w (37 + 2 * i) = w.2.1.2.2.1 i := by unfold hn_aR; rw [if_neg (by omega), if_neg (by omega), if_neg (by omega), if_neg (by omega), if_neg (by omega), if_neg (by omega), if_neg (by omega), if_pos (by omega), show (37 + 2 * i - 37) / 2 = i by omega]
theorem hn_aR_g1 {x : Nat} {w : hn_U} {i : Nat} (h : i < 24) : hn_aR x w (38 + 2 * i) = w.2.1.2.2.2 i := by unfold hn_aR; rw [if_neg (by omega), if_neg (by omega), if_neg (by omega), if_neg (by omega), if_neg (by omega), if_neg (by omega), if_neg (by omega), if_neg (by omega), show (38 + 2 * i - 37) / 2 = i by omega]
end HNW

section HNV
variable {r i g k : Nat}
theorem hn_v_h (hi : i < 8) : hn_v0 (hh_hI r i) 0 = 0 ∧ hn_v0 (hh_hI r i) 1 = 0 ∧ hn_v0 (hh_hI r i) 2 = 0 ∧ hn_v0 (hh_hI r i) 3 = 0 ∧ hn_v0 (hh_hI r i) 4 = 0 ∧ hn_v0 (hh_hI r i) 5 = -1 ∧ hn_v0 (hh_hI r i) 6 = -1 ∧ hn_v0 (hh_hI r i) 7 = -1 ∧ hn_v0 (hh_hI r i) 8 = -1 ∧ hn_v0 (hh_hI r i) 9 = 0 ∧ hn_v0 (hh_hI r i) 10 = 0 ∧ hn_v0 (hh_hI r i) 11 = 0 ∧ hn_v0 (hh_hI r i) 12 = 0 := by
  unfold hn_v0
  simp only [hh_kd_h r hi]
  decide
theorem hn_v_g (hi : i < 24) (hg : g < 2) : hn_v0 (hh_gI r i g) 0 = -1 ∧ hn_v0 (hh_gI r i g) 1 = -1 ∧ hn_v0 (hh_gI r i g) 2 = 0 ∧ hn_v0 (hh_gI r i g) 3 = 0 ∧ hn_v0 (hh_gI r i g) 4 = -1 ∧ hn_v0 (hh_gI r i g) 5 = 0 := by
  unfold hn_v0
  simp only [hh_kd_g r hi hg]
  decide
theorem hn_v_z {j : Nat} (h1 : hh_kd j ≠ 15) (h2 : hh_kd j ≠ 17) : hn_v0 j k = 0 := by
  unfold hn_v0
  split <;> simp_all
theorem hn_v_zf {j : Nat} (h1 : hh_kd j ≠ 15) (h2 : hh_kd j ≠ 17) : hn_v0 j = fun _ => 0 := by
  funext k
  exact hn_v_z h1 h2
end HNV
/-- one road's cells, by the list that its constructor leaves -/
theorem hn_Pr {D : va_G} {K : Nat → ClassId} {ad : Nat → Nat} {H : Heap} {h0 : Nat} {w : hn_U} {r : Nat} (hr : r < 2) (hP : va_P D hh_cl (hn_WR h0 (ad 1) w) H) (e0 : w.2.2.1 = K 0) (e3 : w.2.2.2.1 = K 3) (e4 : w.2.2.2.2 = K 4) (ha : ∀ o, o < 85 → ad (20 + 85 * r + o) = hn_aR h0 w o) {j : Nat}
    (hj : j = hh_rI r ∨ j = hh_lI r ∨ j = hh_kI r ∨ j = hh_HI r ∨ j = hh_CI r ∨ (∃ i, i < 8 ∧ j = hh_hI r i) ∨ (∃ i, i < 24 ∧ j = hh_cI r i) ∨ (∃ i, i < 24 ∧ ∃ g, g < 2 ∧ j = hh_gI r i g)) : va_at D hh_cl (ad j, hh_E K ad hn_v0 j) H := by
  have m : ∀ x ∈ hn_WR h0 (ad 1) w, va_at D hh_cl x H := fun x hx => by
    obtain ⟨k, hk⟩ := List.mem_iff_getElem?.mp hx
    exact hP k x hk
  obtain ⟨⟨ql, qk, qh, qc⟩, ⟨a, b, g1, g2⟩, cI, cH, cC⟩ := w
  simp only at e0 e3 e4
  subst e0
  subst e3
  subst e4
  have aR : ad (hh_rI r) = h0 := (ha 0 (by omega)).trans (by simp [hn_aR])
  have aL : ad (hh_lI r) = ql := by unfold hh_lI; rw [show 21 + 85 * r = 20 + 85 * r + 1 by omega]; exact (ha 1 (by omega)).trans (by simp [hn_aR])
  have aK : ad (hh_kI r) = qk := by unfold hh_kI; rw [show 22 + 85 * r = 20 + 85 * r + 2 by omega]; exact (ha 2 (by omega)).trans (by simp [hn_aR])
  have aH : ad (hh_HI r) = qh := by unfold hh_HI; rw [show 23 + 85 * r = 20 + 85 * r + 3 by omega]; exact (ha 3 (by omega)).trans (by simp [hn_aR])
  have aC : ad (hh_CI r) = qc := by unfold hh_CI; rw [show 24 + 85 * r = 20 + 85 * r + 4 by omega]; exact (ha 4 (by omega)).trans (by simp [hn_aR])
  have ah : ∀ i, i < 8 → ad (hh_hI r i) = a i := fun i hi => by unfold hh_hI; rw [show 25 + 85 * r + i = 20 + 85 * r + (5 + i) by omega, ha (5 + i) (by omega)]; exact hn_aR_h hi
  have ac : ∀ i, i < 24 → ad (hh_cI r i) = b i := fun i hi => by unfold hh_cI; rw [show 33 + 85 * r + i = 20 + 85 * r + (13 + i) by omega, ha (13 + i) (by omega)]; exact hn_aR_c hi
  have ag0 : ∀ i, i < 24 → ad (hh_gI r i 0) = g1 i := fun i hi => by unfold hh_gI; rw [show 57 + 85 * r + 2 * i + 0 = 20 + 85 * r + (37 + 2 * i) by omega, ha (37 + 2 * i) (by omega)]; exact hn_aR_g0 hi
  have ag1 : ∀ i, i < 24 → ad (hh_gI r i 1) = g2 i := fun i hi => by unfold hh_gI; rw [show 57 + 85 * r + 2 * i + 1 = 20 + 85 * r + (38 + 2 * i) by omega, ha (38 + 2 * i) (by omega)]; exact hn_aR_g1 hi
  unfold hn_WR hn_XC at m
  simp only [List.mem_append, List.mem_map, List.mem_range, List.mem_flatMap, List.mem_cons, List.not_mem_nil, or_false] at m
  rcases hj with rfl | rfl | rfl | rfl | rfl | ⟨i, hi, rfl⟩ | ⟨i, hi, rfl⟩ | ⟨i, hi, g, hg, rfl⟩
  · rw [hh_E_r, aR, aL, aK, aH, aC, hn_v_z (by rw [hh_kd_r]; decide) (by rw [hh_kd_r]; decide), hn_v_z (by rw [hh_kd_r]; decide) (by rw [hh_kd_r]; decide), hn_v_z (by rw [hh_kd_r]; decide) (by rw [hh_kd_r]; decide), hn_v_z (by rw [hh_kd_r]; decide) (by rw [hh_kd_r]; decide), hn_v_z (by rw [hh_kd_r]; decide) (by rw [hh_kd_r]; decide)]
    exact m _ (Or.inl (Or.inl (Or.inl (Or.inl rfl))))
  · rw [hh_E_l, aL, hn_v_zf (by rw [hh_kd_l]; decide) (by rw [hh_kd_l]; decide)]
    exact m _ (Or.inl (Or.inl (Or.inl (Or.inr (Or.inl rfl)))))
  · rw [hh_E_k, aK, hn_v_zf (by rw [hh_kd_k]; decide) (by rw [hh_kd_k]; decide)]
    exact m _ (Or.inl (Or.inl (Or.inl (Or.inr (Or.inr (Or.inl rfl))))))
  · rw [hh_E_H, aH]
    have h := m _ (Or.inl (Or.inl (Or.inl (Or.inr (Or.inr (Or.inr rfl))))))
    unfold va_at at h ⊢
    simp only at h ⊢
    rw [h]
    exact congrArg some (hn_row _ 8 (fun j hj => by rw [ah j hj]; simp [hn_fl, hj]))
  · rw [hh_E_C, aC]
    have h := m _ (Or.inl (Or.inr rfl))
    unfold va_at at h ⊢
    simp only at h ⊢
    rw [h]
    exact congrArg some (hn_row _ 24 (fun j hj => by rw [ac j hj]; simp [hn_fl, hj]))
  · obtain ⟨v0, v1, v2, v3, v4, v5, v6, v7, v8, v9, v10, v11, v12⟩ := hn_v_h (r := r) hi
    rw [hh_E_h r hi, ah i hi, v0, v1, v2, v3, v4, v5, v6, v7, v8, v9, v10, v11, v12]
    exact m _ (Or.inl (Or.inl (Or.inr ⟨i, hi, rfl⟩)))
  · rw [hh_E_c r hi, ac i hi, ag0 i hi, ag1 i hi, hn_v_z (by rw [hh_kd_c r hi]; decide) (by rw [hh_kd_c r hi]; decide), hn_v_z (by rw [hh_kd_c r hi]; decide) (by rw [hh_kd_c r hi]; decide), hn_v_z (by rw [hh_kd_c r hi]; decide) (by rw [hh_kd_c r hi]; decide), hn_v_z (by rw [hh_kd_c r hi]; decide) (by rw [hh_kd_c r hi]; decide), hn_v_z (by rw [hh_kd_c r hi]; decide) (by rw [hh_kd_c r hi]; decide)]
    exact m _ (Or.inr ⟨i, hi, Or.inl rfl⟩)
  · obtain ⟨v0, v1, v2, v3, v4, v5⟩ := hn_v_g (r := r) hi hg
    rcases (show g = 0 ∨ g = 1 by omega) with rfl | rfl
    · rw [hh_E_g r hi hg, ag0 i hi, v0, v1, v2, v3, v4, v5]
      exact m _ (Or.inr ⟨i, hi, Or.inr (Or.inl rfl)⟩)
    · rw [hh_E_g r hi hg, ag1 i hi, v0, v1, v2, v3, v4, v5]
      exact m _ (Or.inr ⟨i, hi, Or.inr (Or.inr rfl)⟩)
