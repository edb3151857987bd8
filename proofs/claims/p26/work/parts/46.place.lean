/-! bestPlace: the same answer whatever the survey's rows hold -/
section HQP
variable {v w : hh_M} {n c : Nat}
theorem hh_let_p {α β : Type} {A : α → Prop} {P : β → Prop} {a : α} {f : α → β} (h : A a) (k : ∀ q, A q → P (f q)) : P (hh_let a f) := k a h
theorem hh_let_r {α β : Type} {A : α → α → Prop} {R : β → β → Prop} {a b : α} {f g : α → β} (h : A a b) (k : ∀ x y, A x y → R (f x) (g y)) : R (hh_let a f) (hh_let b g) := k a b h
theorem hh_fld_rel {σ τ : Type} {f : Nat → σ → σ} {g : Nat → τ → τ} {I : Nat → σ → τ → Prop} {n : Nat} {s : σ} {t : τ} (h0 : I 0 s t) (h : ∀ i x y, i < n → I i x y → I (i + 1) (f i x) (g i y)) : I n (hh_fld f n s) (hh_fld g n t) := by
  induction n with
  | zero => exact h0
  | succ n ih => exact h n _ _ (Nat.lt_succ_self n) (ih (fun i x y hi => h i x y (Nat.lt_succ_of_lt hi)))
theorem hq_take36 (fr : Int32) {i m : Nat} (hi : i < 100) (hm : m ≤ 6) (hB : hq_B v w) (hR : ∀ k, k < i + 1 → hq_R v w k) : hq_B (hh_fld (fun (i9 : Nat) (z : hh_M) => hl_X6_take_36 0 fr i i9 z) m v) (hh_fld (fun (i9 : Nat) (z : hh_M) => hl_X6_take_36 0 fr i i9 z) m w) ∧ ∀ k, k < i + 1 → hq_R (hh_fld (fun (i9 : Nat) (z : hh_M) => hl_X6_take_36 0 fr i i9 z) m v) (hh_fld (fun (i9 : Nat) (z : hh_M) => hl_X6_take_36 0 fr i i9 z) m w) k := by
  refine hh_fld_rel (I := fun _ x y => hq_B x y ∧ ∀ k, k < i + 1 → hq_R x y k) ⟨hB, hR⟩ (fun j x y hj h => ?_)
  have e : (nI i).toNatClampNeg = i := nI_clamp (by omega)
  have ht := hq_takeMast h.1 (nu := nI j) (fr := fr) (pl := nI i) (vp_in_nI (by omega) (by decide)) (by rw [e]; exact h.2 i (by omega))
  rw [e] at ht
  refine ⟨ht.1, fun k hk => ?_⟩
  by_cases e2 : k = i
  · subst e2
    exact ht.2.1
  · exact ht.2.2 k e2 (h.2 k hk)
theorem hs_take36 (fr : Int32) (i m j : Nat) (hj : j < 5 ∨ 8 ≤ j) : hh_fld (fun (i9 : Nat) (z : hh_M) => hl_X6_take_36 0 fr i i9 z) m v j = v j :=
  hh_fld_in (I := fun _ (z : hh_M) => z j = v j) rfl (fun i9 z _ h => (hs_takeMast (v := z) (nI i9) fr (nI i) j hj).trans h)
theorem hs_take2 (fr : Int32) (i j : Nat) (hj : j < 5 ∨ 8 ≤ j) : hl_X6_take_2 0 fr i v j = v j := by
  unfold hl_X6_take_2
  refine (hs_take36 fr i _ j hj).trans ?_
  simp only [hh_up_ne (show j ≠ 5 by omega), hh_up_ne (show j ≠ 6 by omega), hh_up_ne (show j ≠ 7 by omega)]
theorem hq_take2 (fr : Int32) {i nm : Nat} (hi : i < 100) (hM : v 1 2 = nI nm) (h6 : nm ≤ 6) (hB : hq_B v w) (hR : ∀ k, k < i → hq_R v w k) : hq_B (hl_X6_take_2 0 fr i v) (hl_X6_take_2 0 fr i w) ∧ ∀ k, k < i + 1 → hq_R (hl_X6_take_2 0 fr i v) (hl_X6_take_2 0 fr i w) k := by
  unfold hl_X6_take_2
  have hN : (hh_up (hh_up (hh_up v 5 i (-1000)) 6 i (-1000)) 7 i 0 1 2).toNatClampNeg = nm := by
    rw [hh_up_ne (by decide), hh_up_ne (by decide), hh_up_ne (by decide), hM]
    exact nI_clamp (by omega)
  have hN2 : (hh_up (hh_up (hh_up w 5 i (-1000)) 6 i (-1000)) 7 i 0 1 2).toNatClampNeg = nm := by
    rw [hh_up_ne (by decide), hh_up_ne (by decide), hh_up_ne (by decide), ← hB.M, hM]
    exact nI_clamp (by omega)
  simp only [hh_let]
  rw [hN, hN2]
  refine hq_take36 fr hi h6 (hq_B_up (hq_B_up (hq_B_up hB (by omega)) (by omega)) (by omega)) (fun k hk => ?_)
  by_cases e2 : k = i
  · subst e2
    unfold hq_R hh_up
    simp
  · exact hq_R_n (hq_R_n (hq_R_n (hR k (by omega)) e2) e2) e2
theorem hs_take (fr : Int32) (j : Nat) (hj : j < 5 ∨ 8 ≤ j) : hf_X6_take v 0 fr j = v j := by
  unfold hf_X6_take
  refine hh_let_p (A := fun z : hh_M => z j = v j) (P := fun z : hh_M => z j = v j) ?_ (fun _ h => h)
  exact hh_fld_in (I := fun _ (z : hh_M) => z j = v j) rfl (fun i z _ h => (hs_take2 (v := z) fr i j hj).trans h)
theorem hq_take (fr : Int32) {nm : Nat} (hM : v 1 2 = nI nm) (h6 : nm ≤ 6) (hB : hq_B v w) : hq_B (hf_X6_take v 0 fr) (hf_X6_take w 0 fr) ∧ ∀ k, k < 100 → hq_R (hf_X6_take v 0 fr) (hf_X6_take w 0 fr) k := by
  unfold hf_X6_take
  have h := hh_fld_rel (f := fun (i9 : Nat) (z : hh_M) => hl_X6_take_2 0 fr i9 z) (g := fun (i9 : Nat) (z : hh_M) => hl_X6_take_2 0 fr i9 z) (I := fun i x y => x 1 2 = nI nm ∧ hq_B x y ∧ ∀ k, k < i → hq_R x y k) (n := 100) (s := v) (t := w) ⟨hM, hB, fun k hk => absurd hk (by omega)⟩ (fun i x y hi h => ⟨by rw [hs_take2 fr i 1 (by decide)]; exact h.1, hq_take2 fr hi h.1 h6 h.2.1 h.2.2⟩)
  exact hh_let_r (A := fun x y : hh_M => hq_B x y ∧ ∀ k, k < 100 → hq_R x y k) (R := fun x y : hh_M => hq_B x y ∧ ∀ k, k < 100 → hq_R x y k) h.2 (fun _ _ h => h)
theorem hq_served (hR : ∀ k, k < 100 → hq_R v w k) (np pw : Int32) : hf_X6_servedFrom v np pw = hf_X6_servedFrom w np pw := by
  unfold hf_X6_servedFrom
  rw [hh_fld_cg (g := fun (i9 : Nat) (z : Int32) => hl_X6_servedFrom_5 w np pw i9 z) (fun i hi z => ?_)]
  unfold hl_X6_servedFrom_5
  rw [(hR i hi).1, (hR i hi).2.1, (hR i hi).2.2]
theorem hq_placeFor (hR : ∀ k, k < 100 → hq_R v w k) (pw : Int32) : hf_X6_placeFor v pw = hf_X6_placeFor w pw := by
  unfold hf_X6_placeFor
  rw [hh_fld_cg (g := fun (i9 : Nat) (z : Int32 × Int32) => hl_X6_placeFor_7 w pw i9 z.1 z.2) (fun i hi z => ?_)]
  unfold hl_X6_placeFor_7
  rw [hq_served hR]
theorem hs_bestPlace (pw fr : Int32) (j : Nat) (hj : j < 5 ∨ 8 ≤ j) : (hf_X7_bestPlace v pw fr).2 j = v j := by
  unfold hf_X7_bestPlace
  by_cases c6 : v 1 2 < 6
  · rw [if_pos c6]
    exact hh_let_p (A := fun z : hh_M => z j = v j) (P := fun z : Int32 × hh_M => z.2 j = v j) (hs_take fr j hj) (fun x hx => hh_let_p (A := fun _ : Int32 => True) (P := fun z : Int32 × hh_M => z.2 j = v j) trivial (fun _ _ => hx))
  · rw [if_neg c6]
theorem hq_bestPlace (pw fr : Int32) {nm : Nat} (hM : v 1 2 = nI nm) (h6 : nm ≤ 6) (hB : hq_B v w) : (hf_X7_bestPlace v pw fr).1 = (hf_X7_bestPlace w pw fr).1 := by
  unfold hf_X7_bestPlace
  by_cases c6 : v 1 2 < 6
  · rw [if_pos c6, if_pos (by rw [← hB.M]; exact c6)]
    refine hh_let_r (A := fun x y : hh_M => hq_B x y ∧ ∀ k, k < 100 → hq_R x y k) (R := fun x y : Int32 × hh_M => x.1 = y.1) (hq_take fr hM h6 hB) (fun x y hxy => ?_)
    exact hh_let_r (A := fun x y : Int32 => x = y) (R := fun x y : Int32 × hh_M => x.1 = y.1) (hq_placeFor hxy.2 pw) (fun _ _ e => e)
  · rw [if_neg c6, if_neg (by rw [← hB.M]; exact c6)]
theorem hq_bestPlaceF (h : hh_F (hq_P9 n c) v w) (pw fr : Int32) : hh_F (hq_P9 n c) (hf_X7_bestPlace v pw fr).2 (hf_X7_bestPlace w pw fr).2 := fun j k hj => by
  have e : j < 5 ∨ 8 ≤ j := by unfold hq_P9 at hj; omega
  rw [hs_bestPlace pw fr j e, hs_bestPlace pw fr j e]
  exact h j k hj
end HQP
