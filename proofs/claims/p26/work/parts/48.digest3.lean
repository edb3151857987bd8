section HQE
variable {v w : hh_M} {n c nm : Nat} {nh nc : Nat → Nat}
theorem hq_dg6 (hB : hq_B v w) (hT : hh_T nm nh nc v) (a : Int64) : hh_fld (fun (i9 : Nat) (z : Int64) => hl_X7_digest_6 v i9 z) 15 a = hh_fld (fun (i9 : Nat) (z : Int64) => hl_X7_digest_6 w i9 z) 15 a := by
  refine hh_fld_cg (fun i hi z => ?_)
  unfold hl_X7_digest_6
  rw [hq_many hB hT]
theorem hq_digest (hT : hh_T nm nh nc v) (h : hh_F (hq_P9 n c) v w) (hn : n ≤ 8) (hc : c ≤ 24) (e5 : (v (hh_rI 0) 5).toNatClampNeg = n) (e6 : (v (hh_rI 0) 6).toNatClampNeg = c) : (hf_X7_digest v).1 = (hf_X7_digest w).1 ∧ hh_F (hq_P9 n c) (hf_X7_digest v).2 (hf_X7_digest w).2 := by
  have hB := hq_B.of hn hc h
  have hM := hh_T_M hT
  have h6 := hT.1
  unfold hf_X7_digest
  refine hh_let_r (A := fun x y : Int64 => x = y) (R := fun a b : Int64 × hh_M => a.1 = b.1 ∧ hh_F (hq_P9 n c) a.2 b.2) (hq_dg6 hB hT _) (fun d1 y exy => ?_)
  subst exy
  refine hh_let_r (A := fun x y : Int64 => x = y) (R := fun a b : Int64 × hh_M => a.1 = b.1 ∧ hh_F (hq_P9 n c) a.2 b.2) (hq_addMasts hB hT d1) (fun d2 y exy => ?_)
  subst exy
  have k1 := hq_addHandsets h hn hc e5 e6 d2
  refine hh_let_r (A := fun x y : Int64 => x = y) (R := fun a b : Int64 × hh_M => a.1 = b.1 ∧ hh_F (hq_P9 n c) a.2 b.2) k1.1 (fun d3 y exy => ?_)
  subst exy
  refine hh_let_r (A := fun x y : hh_M => hh_F (hq_P9 n c) x y ∧ hh_L 1 v x) (R := fun a b : Int64 × hh_M => a.1 = b.1 ∧ hh_F (hq_P9 n c) a.2 b.2) k1.2 (fun v3 w3 h3 => ?_)
  have k2 := hq_addCalls h3.1 hn hc (by rw [h3.2 _ (by unfold hh_rI; omega)]; exact e5) (by rw [h3.2 _ (by unfold hh_rI; omega)]; exact e6) d3
  refine hh_let_r (A := fun x y : Int64 => x = y) (R := fun a b : Int64 × hh_M => a.1 = b.1 ∧ hh_F (hq_P9 n c) a.2 b.2) k2.1 (fun d4 y exy => ?_)
  subst exy
  refine hh_let_r (A := fun x y : hh_M => hh_F (hq_P9 n c) x y ∧ hh_L 1 v3 x) (R := fun a b : Int64 × hh_M => a.1 = b.1 ∧ hh_F (hq_P9 n c) a.2 b.2) k2.2 (fun v4 w4 h4 => ?_)
  have hB4 := hq_B.of hn hc h4.1
  have hM4 : v4 1 2 = nI nm := by rw [h4.2 1 (by omega), h3.2 1 (by omega)]; exact hM
  refine hh_let_r (A := fun x y : Int32 => x = y) (R := fun a b : Int64 × hh_M => a.1 = b.1 ∧ hh_F (hq_P9 n c) a.2 b.2) (hq_best7 hB4 hM4 h6 33) (fun q5 y exy => ?_)
  subst exy
  refine hh_let_r (A := fun x y : Int64 => x = y) (R := fun a b : Int64 × hh_M => a.1 = b.1 ∧ hh_F (hq_P9 n c) a.2 b.2) rfl (fun d5 y exy => ?_)
  subst exy
  refine hh_let_r (A := fun x y : Int32 => x = y) (R := fun a b : Int64 × hh_M => a.1 = b.1 ∧ hh_F (hq_P9 n c) a.2 b.2) (hq_best7 hB4 hM4 h6 66) (fun q6 y exy => ?_)
  subst exy
  refine hh_let_r (A := fun x y : Int64 => x = y) (R := fun a b : Int64 × hh_M => a.1 = b.1 ∧ hh_F (hq_P9 n c) a.2 b.2) rfl (fun d6 y exy => ?_)
  subst exy
  refine hh_let_r (A := fun x y : Int32 => x = y) (R := fun a b : Int64 × hh_M => a.1 = b.1 ∧ hh_F (hq_P9 n c) a.2 b.2) (hq_bestPlace 30 1 hM4 h6 hB4) (fun q7 y exy => ?_)
  subst exy
  refine hh_let_r (A := fun x y : hh_M => hh_F (hq_P9 n c) x y) (R := fun a b : Int64 × hh_M => a.1 = b.1 ∧ hh_F (hq_P9 n c) a.2 b.2) (hq_bestPlaceF h4.1 30 1) (fun v7 w7 h7 => ?_)
  exact ⟨rfl, h7⟩
end HQE
