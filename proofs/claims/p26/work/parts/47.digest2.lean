/-! digest: the same answer whatever asking has left behind -/
section HQD
variable {v w : hh_M} {n c : Nat}
theorem hq_hs20 (hB : hq_B v w) {i : Nat} (hi : i < 8) (a : Int64) : hh_fld (fun (i9 : Nat) (z : Int64) => hl_X7_addHandsets_20 v i i9 z) 11 a = hh_fld (fun (i9 : Nat) (z : Int64) => hl_X7_addHandsets_20 w i i9 z) 11 a := by
  refine hh_fld_cg (fun j hj z => ?_)
  unfold hl_X7_addHandsets_20
  rw [hq_ofHandset hB (vp_in_nI hi (by decide))]
theorem hq_hs5 (h : hh_F (hq_P9 n c) v w) (hn : n ≤ 8) (hc : c ≤ 24) (e5 : (v (hh_rI 0) 5).toNatClampNeg = n) (e6 : (v (hh_rI 0) 6).toNatClampNeg = c) {i : Nat} (hi : i < 8) (a : Int64) : (hl_X7_addHandsets_5 i a v).1 = (hl_X7_addHandsets_5 i a w).1 ∧ hh_F (hq_P9 n c) (hl_X7_addHandsets_5 i a v).2 (hl_X7_addHandsets_5 i a w).2 := by
  unfold hl_X7_addHandsets_5
  have hw := hq_wouldBeOn h hn hc e5 e6 (nI i) 8
  refine hh_let_r (A := fun x y : Int64 => x = y) (R := fun a b : Int64 × hh_M => a.1 = b.1 ∧ hh_F (hq_P9 n c) a.2 b.2) (hq_hs20 (hq_B.of hn hc h) hi a) (fun x y exy => ?_)
  subst exy
  refine hh_let_r (A := fun x y : Int32 => x = y) (R := fun a b : Int64 × hh_M => a.1 = b.1 ∧ hh_F (hq_P9 n c) a.2 b.2) hw.1 (fun x y exy => ?_)
  subst exy
  refine hh_let_r (A := fun x y : hh_M => hh_F (hq_P9 n c) x y) (R := fun a b : Int64 × hh_M => a.1 = b.1 ∧ hh_F (hq_P9 n c) a.2 b.2) hw.2 (fun x y hxy => ?_)
  exact ⟨rfl, hxy⟩
theorem hu_hs5 (i : Nat) (a : Int64) : hh_L 1 v (hl_X7_addHandsets_5 i a v).2 := by
  unfold hl_X7_addHandsets_5
  refine hh_let_p (A := fun _ : Int64 => True) (P := fun z : Int64 × hh_M => hh_L 1 v z.2) trivial (fun _ _ => ?_)
  refine hh_let_p (A := fun _ : Int32 => True) (P := fun z : Int64 × hh_M => hh_L 1 v z.2) trivial (fun _ _ => ?_)
  exact hh_let_p (A := fun z : hh_M => hh_L 1 v z) (P := fun z : Int64 × hh_M => hh_L 1 v z.2) (hu_wouldBeOn (nI i) 8) (fun x hx => hx)
theorem hq_addHandsets (h : hh_F (hq_P9 n c) v w) (hn : n ≤ 8) (hc : c ≤ 24) (e5 : (v (hh_rI 0) 5).toNatClampNeg = n) (e6 : (v (hh_rI 0) 6).toNatClampNeg = c) (a : Int64) : (hf_X7_addHandsets v a).1 = (hf_X7_addHandsets w a).1 ∧ hh_F (hq_P9 n c) (hf_X7_addHandsets v a).2 (hf_X7_addHandsets w a).2 ∧ hh_L 1 v (hf_X7_addHandsets v a).2 := by
  have hr : w (hh_rI 0) = v (hh_rI 0) := (hq_B.of hn hc h).r.symm
  have hf := hh_fld_rel (f := fun (i9 : Nat) (z : Int64 × hh_M) => hl_X7_addHandsets_5 i9 z.1 z.2) (g := fun (i9 : Nat) (z : Int64 × hh_M) => hl_X7_addHandsets_5 i9 z.1 z.2) (I := fun _ x y => x.1 = y.1 ∧ hh_F (hq_P9 n c) x.2 y.2 ∧ hh_L 1 v x.2) (n := n) (s := (a, v)) (t := (a, w)) ⟨rfl, h, hh_L_rf⟩ (fun i x y hi z => by
    have k := hq_hs5 z.2.1 hn hc (by rw [z.2.2 _ (by unfold hh_rI; omega)]; exact e5) (by rw [z.2.2 _ (by unfold hh_rI; omega)]; exact e6) (show i < 8 by omega) x.1
    rw [← z.1]
    exact ⟨k.1, k.2, z.2.2.tr (hu_hs5 i x.1)⟩)
  unfold hf_X7_addHandsets
  rw [hr, e5]
  refine hh_let_r (A := fun x y : Int64 => x = y) (R := fun a b : Int64 × hh_M => a.1 = b.1 ∧ hh_F (hq_P9 n c) a.2 b.2 ∧ hh_L 1 v a.2) hf.1 (fun x y exy => ?_)
  subst exy
  exact hh_let_r (A := fun x y : hh_M => hh_F (hq_P9 n c) x y ∧ hh_L 1 v x) (R := fun a b : Int64 × hh_M => a.1 = b.1 ∧ hh_F (hq_P9 n c) a.2 b.2 ∧ hh_L 1 v a.2) hf.2 (fun x y hxy => ⟨rfl, hxy⟩)
theorem hq_cs20 (hB : hq_B v w) {i : Nat} (hi : i < 24) (a : Int64) : hh_fld (fun (i9 : Nat) (z : Int64) => hl_X7_addCalls_20 v i i9 z) 9 a = hh_fld (fun (i9 : Nat) (z : Int64) => hl_X7_addCalls_20 w i i9 z) 9 a := by
  refine hh_fld_cg (fun j hj z => ?_)
  unfold hl_X7_addCalls_20
  rw [hq_ofCall hB (vp_in_nI hi (by decide))]
theorem hq_cs5 (h : hh_F (hq_P9 n c) v w) (hn : n ≤ 8) (hc : c ≤ 24) (e5 : (v (hh_rI 0) 5).toNatClampNeg = n) (e6 : (v (hh_rI 0) 6).toNatClampNeg = c) {i : Nat} (hi : i < 24) (a : Int64) : (hl_X7_addCalls_5 i a v).1 = (hl_X7_addCalls_5 i a w).1 ∧ hh_F (hq_P9 n c) (hl_X7_addCalls_5 i a v).2 (hl_X7_addCalls_5 i a w).2 := by
  unfold hl_X7_addCalls_5
  have hw := hq_endsIn h hn hc e5 e6 (ca := nI i) (vp_in_nI hi (by decide)) 20
  refine hh_let_r (A := fun x y : Int64 => x = y) (R := fun a b : Int64 × hh_M => a.1 = b.1 ∧ hh_F (hq_P9 n c) a.2 b.2) (hq_cs20 (hq_B.of hn hc h) hi a) (fun x y exy => ?_)
  subst exy
  refine hh_let_r (A := fun x y : Int32 => x = y) (R := fun a b : Int64 × hh_M => a.1 = b.1 ∧ hh_F (hq_P9 n c) a.2 b.2) hw.1 (fun x y exy => ?_)
  subst exy
  refine hh_let_r (A := fun x y : hh_M => hh_F (hq_P9 n c) x y) (R := fun a b : Int64 × hh_M => a.1 = b.1 ∧ hh_F (hq_P9 n c) a.2 b.2) hw.2 (fun x y hxy => ?_)
  exact ⟨rfl, hxy⟩
theorem hu_cs5 (i : Nat) (a : Int64) : hh_L 1 v (hl_X7_addCalls_5 i a v).2 := by
  unfold hl_X7_addCalls_5
  refine hh_let_p (A := fun _ : Int64 => True) (P := fun z : Int64 × hh_M => hh_L 1 v z.2) trivial (fun _ _ => ?_)
  refine hh_let_p (A := fun _ : Int32 => True) (P := fun z : Int64 × hh_M => hh_L 1 v z.2) trivial (fun _ _ => ?_)
  exact hh_let_p (A := fun z : hh_M => hh_L 1 v z) (P := fun z : Int64 × hh_M => hh_L 1 v z.2) (hu_endsIn (nI i) 20) (fun x hx => hx)
theorem hq_addCalls (h : hh_F (hq_P9 n c) v w) (hn : n ≤ 8) (hc : c ≤ 24) (e5 : (v (hh_rI 0) 5).toNatClampNeg = n) (e6 : (v (hh_rI 0) 6).toNatClampNeg = c) (a : Int64) : (hf_X7_addCalls v a).1 = (hf_X7_addCalls w a).1 ∧ hh_F (hq_P9 n c) (hf_X7_addCalls v a).2 (hf_X7_addCalls w a).2 ∧ hh_L 1 v (hf_X7_addCalls v a).2 := by
  have hr : w (hh_rI 0) = v (hh_rI 0) := (hq_B.of hn hc h).r.symm
  have hf := hh_fld_rel (f := fun (i9 : Nat) (z : Int64 × hh_M) => hl_X7_addCalls_5 i9 z.1 z.2) (g := fun (i9 : Nat) (z : Int64 × hh_M) => hl_X7_addCalls_5 i9 z.1 z.2) (I := fun _ x y => x.1 = y.1 ∧ hh_F (hq_P9 n c) x.2 y.2 ∧ hh_L 1 v x.2) (n := c) (s := (a, v)) (t := (a, w)) ⟨rfl, h, hh_L_rf⟩ (fun i x y hi z => by
    have k := hq_cs5 z.2.1 hn hc (by rw [z.2.2 _ (by unfold hh_rI; omega)]; exact e5) (by rw [z.2.2 _ (by unfold hh_rI; omega)]; exact e6) (show i < 24 by omega) x.1
    rw [← z.1]
    exact ⟨k.1, k.2, z.2.2.tr (hu_cs5 i x.1)⟩)
  unfold hf_X7_addCalls
  rw [hr, e6]
  refine hh_let_r (A := fun x y : Int64 => x = y) (R := fun a b : Int64 × hh_M => a.1 = b.1 ∧ hh_F (hq_P9 n c) a.2 b.2 ∧ hh_L 1 v a.2) hf.1 (fun x y exy => ?_)
  subst exy
  exact hh_let_r (A := fun x y : hh_M => hh_F (hq_P9 n c) x y ∧ hh_L 1 v x) (R := fun a b : Int64 × hh_M => a.1 = b.1 ∧ hh_F (hq_P9 n c) a.2 b.2 ∧ hh_L 1 v a.2) hf.2 (fun x y hxy => ⟨rfl, hxy⟩)
variable {nm : Nat} {nh nc : Nat → Nat}
theorem hq_addMasts (hB : hq_B v w) (hT : hh_T nm nh nc v) (a : Int64) : hf_X7_addMasts v a = hf_X7_addMasts w a := by
  have hN : (v 1 2).toNatClampNeg = nm := by rw [hh_T_M hT]; exact nI_clamp (by have := hT.1; omega)
  have hN2 : (w 1 2).toNatClampNeg = nm := by rw [← hB.M]; exact hN
  have h6 := hT.1
  unfold hf_X7_addMasts
  rw [hN, hN2]
  rw [hh_fld_cg (g := fun (i9 : Nat) (z : Int64) => hl_X7_addMasts_5 w i9 z) (fun i hi z => ?_)]
  unfold hl_X7_addMasts_5
  have hi6 : vp_in (nI i) 6 := vp_in_nI (by omega) (by decide)
  rw [hq_qual7 hB hi6, hq_qual7 hB hi6]
  rw [hh_fld_cg (g := fun (i9 : Nat) (z : Int64) => hl_X7_addMasts_20 w i i9 z) (fun j hj z => ?_)]
  unfold hl_X7_addMasts_20
  rw [hq_ofMast hB hT hi6]
end HQD
