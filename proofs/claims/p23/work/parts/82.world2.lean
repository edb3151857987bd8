theorem hn_Pw {D : va_G} {H : Heap} {h0 : Nat} {u : hn_UX} (hP : va_P D hh_cl (hn_WX h0 u) H) (e1 : u.2.2.1.2.2.1 = u.2.1.2.2.2.2) (e2 : u.2.2.2.1.2.2.1 = u.2.1.2.2.2.2) (e3 : u.2.2.2.2.2.2.2 = u.2.1.2.2.2.2) (e4 : u.2.2.2.1.2.2.2.1 = u.2.2.1.2.2.2.1) (e5 : u.2.2.2.1.2.2.2.2 = u.2.2.1.2.2.2.2) : va_P D hh_cl (hh_W (hn_Kf u) (hn_a h0 u) hn_v0) H := by
  intro k q hk
  by_cases hk1 : k < 190
  case neg =>
    rw [List.getElem?_eq_none (by simp [hh_W]; omega)] at hk
    cases hk
  rw [hh_W_at hk1] at hk
  cases hk
  have m : ∀ x ∈ hn_WX h0 u, va_at D hh_cl x H := fun x hx => by
    obtain ⟨k, hk⟩ := List.mem_iff_getElem?.mp hx
    exact hP k x hk
  have hR : va_P D hh_cl (hn_WR u.1.2.1 u.1.1 u.2.2.1) H := fun k x hx => m x (by
    unfold hn_WX
    have := List.mem_of_getElem? hx
    simp only [List.mem_append]
    exact Or.inl (Or.inl (Or.inr this)))
  have hT : va_P D hh_cl (hn_WR u.1.2.2.1 u.1.1 u.2.2.2.1) H := fun k x hx => m x (by
    unfold hn_WX
    have := List.mem_of_getElem? hx
    simp only [List.mem_append]
    exact Or.inl (Or.inr this))
  have mM : ∀ x ∈ hn_WM u.1.1 u.2.1, va_at D hh_cl x H := fun x hx => m x (by
    unfold hn_WX
    simp only [List.mem_append]
    exact Or.inl (Or.inl (Or.inl (Or.inr hx))))
  have mS : ∀ x ∈ hn_WS u.1.2.2.2 u.2.2.2.2, va_at D hh_cl x H := fun x hx => m x (by
    unfold hn_WX
    simp only [List.mem_append]
    exact Or.inr hx)
  have m0 : ∀ x, x = ((h0, .inr (7, [.ref u.1.1, .ref u.1.2.1, .ref u.1.2.2.1, .ref u.1.2.2.2])) : Nat × va_E) → va_at D hh_cl x H := fun x hx => m x (by
    unfold hn_WX
    simp only [List.mem_append, List.mem_cons, List.not_mem_nil, or_false]
    exact Or.inl (Or.inl (Or.inl (Or.inl hx))))
  unfold hn_WM at mM
  unfold hn_WS at mS
  simp only [List.mem_append, List.mem_map, List.mem_range, List.mem_cons, List.not_mem_nil, or_false] at mM mS
  rcases hn_cases hk1 with h | ⟨i, hi, rfl⟩ | ⟨i, hi, rfl⟩ | ⟨r, hr, hj⟩
  · rcases (show k = 0 ∨ k = 1 ∨ k = 2 ∨ k = 3 ∨ k = 4 ∨ k = 5 ∨ k = 6 ∨ k = 7 by omega) with rfl | rfl | rfl | rfl | rfl | rfl | rfl | rfl
    · exact m0 _ rfl
    · exact mM _ (Or.inl (Or.inl (Or.inl (Or.inl rfl))))
    · have h := mM _ (Or.inl (Or.inl (Or.inl (Or.inr rfl))))
      rw [hh_E_2]
      unfold va_at at h ⊢
      simp only at h ⊢
      refine Eq.trans h (congrArg some (hn_row _ 6 (fun j hj => ?_)))
      rw [hn_a_m hj]
      simp [hn_fl, hj]
    · have h := mM _ (Or.inl (Or.inr rfl))
      rw [hh_E_3]
      unfold va_at at h ⊢
      simp only at h ⊢
      refine Eq.trans h (congrArg some (hn_row _ 6 (fun j hj => ?_)))
      rw [hn_a_b hj]
      simp [hn_fl, hj]
    · exact mS _ (Or.inl rfl)
    · have h := mS _ (Or.inr (Or.inl rfl))
      rw [hh_E_5, hn_v_zf (by decide) (by decide)]
      rw [e3] at h
      exact h
    · have h := mS _ (Or.inr (Or.inr (Or.inl rfl)))
      rw [hh_E_6, hn_v_zf (by decide) (by decide)]
      rw [e3] at h
      exact h
    · have h := mS _ (Or.inr (Or.inr (Or.inr rfl)))
      rw [hh_E_7, hn_v_zf (by decide) (by decide)]
      rw [e3] at h
      exact h
  · rw [hh_E_m hi, hn_a_m hi, hn_v_z (by rw [hh_kd_m hi]; decide) (by rw [hh_kd_m hi]; decide), hn_v_z (by rw [hh_kd_m hi]; decide) (by rw [hh_kd_m hi]; decide), hn_v_z (by rw [hh_kd_m hi]; decide) (by rw [hh_kd_m hi]; decide), hn_v_z (by rw [hh_kd_m hi]; decide) (by rw [hh_kd_m hi]; decide), hn_v_z (by rw [hh_kd_m hi]; decide) (by rw [hh_kd_m hi]; decide), hn_v_z (by rw [hh_kd_m hi]; decide) (by rw [hh_kd_m hi]; decide), hn_v_z (by rw [hh_kd_m hi]; decide) (by rw [hh_kd_m hi]; decide)]
    exact mM _ (Or.inl (Or.inl (Or.inr ⟨i, hi, rfl⟩)))
  · rw [hh_E_b hi, hn_a_b hi, hn_v_zf (by rw [hh_kd_b hi]; decide) (by rw [hh_kd_b hi]; decide)]
    exact mM _ (Or.inr ⟨i, hi, rfl⟩)
  · rcases (show r = 0 ∨ r = 1 by omega) with rfl | rfl
    · exact hn_Pr (h0 := u.1.2.1) (w := u.2.2.1) (by decide) hR e1 rfl rfl (fun o ho => by rw [show 20 + 85 * 0 + o = 20 + o by omega]; exact hn_a_0 ho) hj
    · exact hn_Pr (h0 := u.1.2.2.1) (w := u.2.2.2.1) (by decide) hT e2 e4 e5 (fun o ho => by rw [show 20 + 85 * 1 + o = 105 + o by omega]; exact hn_a_1 ho) hj
/-- the world behind the constructor -/
theorem hn_world {D : va_G} {A : Nat → Prop} {H : Heap} {s : State} {h0 : Nat} {u : hn_UX} (hP : va_P D hh_cl (hn_WX h0 u) H) (hD : va_D A (hn_WX h0 u)) (hK : va_K D hh_cl (hn_TX u) s) : ∃ (K : Nat → ClassId) (ad : Nat → Nat), ad 0 = h0 ∧ va_P D hh_cl (hh_W K ad hn_v0) H ∧ va_D A (hh_W K ad hn_v0) ∧ va_K D hh_cl (hh_ty K) s := by
  have f : ∀ (k : Nat) (c : ClassId) (ty : FieldType), (hn_TX u)[k]? = some (c, ty) → s.vm.findClass ("[" ++ ty.toString) = some c := fun k c ty h => hn_RA (hK.2 k _ h).2
  have g : ∀ (k1 k2 : Nat) (c1 c2 : ClassId) (ty : FieldType), (hn_TX u)[k1]? = some (c1, ty) → (hn_TX u)[k2]? = some (c2, ty) → c2 = c1 := fun k1 k2 c1 c2 ty h1 h2 => by
    have a := f k1 c1 ty h1
    rw [f k2 c2 ty h2] at a
    exact Option.some.inj a
  refine ⟨hn_Kf u, hn_a h0 u, rfl, hn_Pw hP (g 2 3 _ _ _ rfl rfl) (g 2 6 _ _ _ rfl rfl) (g 2 9 _ _ _ rfl rfl) (g 4 7 _ _ _ rfl rfl) (g 5 8 _ _ _ rfl rfl), hn_D hD, ⟨hK.1, fun k q hk => ?_⟩⟩
  match k, hk with
  | 0, hk => cases hk; exact hK.2 2 _ rfl
  | 1, hk => cases hk; exact hK.2 1 _ rfl
  | 2, hk => cases hk; exact hK.2 0 _ rfl
  | 3, hk => cases hk; exact hK.2 4 _ rfl
  | 4, hk => cases hk; exact hK.2 5 _ rfl
  | k + 5, hk => simp [hh_ty] at hk
theorem hn_T0 : hh_T 0 (fun _ => 0) (fun _ => 0) hn_v0 := by
  refine ⟨by decide, fun _ => Nat.zero_le 8, fun _ => Nat.zero_le 24, fun j k => ?_⟩
  unfold hh_R hn_v0
  split <;> simp_all <;> decide
